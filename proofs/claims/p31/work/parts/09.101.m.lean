-- m_play
set_option maxRecDepth 20000 in
theorem s_m_play_6 {a_lands : Nat → Int32} {a_evenings : Nat → Int32} {f_land : Int32} {f_huts : Int32} {f_singers : Int32} {f_evening : Int32} {a_at : Nat → Int32} {a_knows : Nat → Int32} {a_climbed : Nat → Int32} {a_snow : Nat → Int32} {a_level : Nat → Int32} {f_begun : Int32} {f_minute : Int32} {f_avalanches : Int32} {x1 : Int32} {x2 : Int32} {post : Int32 → (Nat → Int32) → (Nat → Int32) → (Nat → Int32) → (Nat → Int32) → (Nat → Int32) → (Int32) → (Int32) → (Int32) → Prop} (k_a_lands : mLand a_lands) (k_a_evenings : mEve a_evenings) (k_f_land : iv 0 1 f_land) (k_f_huts : iv 0 9 f_huts) (k_f_singers : iv 0 6 f_singers) (k_f_evening : iv 0 1 f_evening) (k_a_at : ∀ j, iv 0 8 (a_at j)) (k_a_knows : ∀ j, iv 0 31 (a_knows j)) (k_a_climbed : ∀ j, iv 0 1 (a_climbed j)) (k_a_level : ∀ j, iv (-9) 108 (a_level j)) (k_f_begun : iv 0 31 f_begun) (hx1 : iv 0 40 x1) (hx2 : iv 0 40 x2) (hpost : ∀ (r : Int32) (a_at : Nat → Int32) (a_knows : Nat → Int32) (a_climbed : Nat → Int32) (a_snow : Nat → Int32) (a_level : Nat → Int32) (f_begun : Int32) (f_minute : Int32) (f_avalanches : Int32), iv 0 40 r → (∀ j, iv 0 8 (a_at j)) → (∀ j, iv 0 31 (a_knows j)) → (∀ j, iv 0 1 (a_climbed j)) → (∀ j, iv (-9) 108 (a_level j)) → (iv 0 31 f_begun) → post r a_at a_knows a_climbed a_snow a_level f_begun f_minute f_avalanches) : q_m_play_6 a_lands a_evenings f_land f_huts f_singers f_evening a_at a_knows a_climbed a_snow a_level f_begun f_minute f_avalanches x1 x2 post := by
  intro P hP
  have loop : ∀ (n : Nat) (x2 : Int32) (a_at : Nat → Int32) (a_knows : Nat → Int32) (a_climbed : Nat → Int32) (a_snow : Nat → Int32) (a_level : Nat → Int32) (f_begun : Int32) (f_minute : Int32) (f_avalanches : Int32), (40 - x2.toInt < (n : Int)) → (iv 0 40 x2) → (∀ j, iv 0 8 (a_at j)) → (∀ j, iv 0 31 (a_knows j)) → (∀ j, iv 0 1 (a_climbed j)) → (∀ j, iv (-9) 108 (a_level j)) → (iv 0 31 f_begun) → P x2 a_at a_knows a_climbed a_snow a_level f_begun f_minute f_avalanches := by
    intro n
    induction n with
    | zero => intro x2 a_at a_knows a_climbed a_snow a_level f_begun f_minute f_avalanches hm hx2 k_a_at k_a_knows k_a_climbed k_a_level k_f_begun; exact (ms0_up hm hx2).elim
    | succ n ih =>
      intro x2 a_at a_knows a_climbed a_snow a_level f_begun f_minute f_avalanches hm hx2 k_a_at k_a_knows k_a_climbed k_a_level k_f_begun
      apply hP
      refine ⟨fun c1 => ?_, fun c1 => ?_⟩
      · skip
        exact hpost _ _ _ _ _ _ _ _ _ hx2 k_a_at k_a_knows k_a_climbed k_a_level k_f_begun
      · skip
        refine s_m_does_0 k_a_lands k_a_evenings k_f_land k_f_huts k_f_singers k_f_evening k_a_at k_a_knows k_a_climbed k_a_level k_f_begun (iv_lta (l := 0) (h := 39) (r_nle c1) hx2 hx1 (by decide)) (fun r2 o3 o4 o5 o6 o7 o8 o9 o10 hr2 k_o3 k_o4 k_o5 k_o7 k_o8 => ?_)
        refine ⟨fun c11 => ?_, fun c11 => ?_⟩
        · skip
          exact hpost _ _ _ _ _ _ _ _ _ (iv_w (iv_lta (l := 0) (h := 39) (r_nle c1) hx2 hx1 (by decide)) (by decide)) k_o3 k_o4 k_o5 k_o7 k_o8
        · skip
          intro w12 ew12
          have hw12 := iv_eq ew12 (iv_add (l := 1) (h := 40) (iv_lta (l := 0) (h := 39) (r_nle c1) hx2 hx1 (by decide)) (iv_lit (l := 1) (h := 1) (by decide)) (by decide))
          exact ih _ _ _ _ _ _ _ _ _ (ms_up hm (inc_lt ew12 (iv_lta (l := 0) (h := 39) (r_nle c1) hx2 hx1 (by decide)) (by decide))) (iv_w hw12 (by decide)) k_o3 k_o4 k_o5 k_o7 k_o8
  exact loop _ _ _ _ _ _ _ _ _ _ (ms_init_up _ _) hx2 k_a_at k_a_knows k_a_climbed k_a_level k_f_begun
set_option maxRecDepth 20000 in
theorem s_m_play_0 {a_lands : Nat → Int32} {a_evenings : Nat → Int32} {f_land : Int32} {f_huts : Int32} {f_singers : Int32} {f_evening : Int32} {a_at : Nat → Int32} {a_knows : Nat → Int32} {a_climbed : Nat → Int32} {a_snow : Nat → Int32} {a_level : Nat → Int32} {f_begun : Int32} {f_minute : Int32} {f_avalanches : Int32} {x1 : Int32} {post : Int32 → (Nat → Int32) → (Nat → Int32) → (Nat → Int32) → (Nat → Int32) → (Nat → Int32) → (Int32) → (Int32) → (Int32) → Prop} (k_a_lands : mLand a_lands) (k_a_evenings : mEve a_evenings) (k_f_land : iv 0 1 f_land) (k_f_huts : iv 0 9 f_huts) (k_f_singers : iv 0 6 f_singers) (k_f_evening : iv 0 1 f_evening) (k_a_at : ∀ j, iv 0 8 (a_at j)) (k_a_knows : ∀ j, iv 0 31 (a_knows j)) (k_a_climbed : ∀ j, iv 0 1 (a_climbed j)) (k_a_level : ∀ j, iv (-9) 108 (a_level j)) (k_f_begun : iv 0 31 f_begun) (hx1 : iv 0 40 x1) (hpost : ∀ (r : Int32) (a_at : Nat → Int32) (a_knows : Nat → Int32) (a_climbed : Nat → Int32) (a_snow : Nat → Int32) (a_level : Nat → Int32) (f_begun : Int32) (f_minute : Int32) (f_avalanches : Int32), iv 0 40 r → (∀ j, iv 0 8 (a_at j)) → (∀ j, iv 0 31 (a_knows j)) → (∀ j, iv 0 1 (a_climbed j)) → (∀ j, iv (-9) 108 (a_level j)) → (iv 0 31 f_begun) → post r a_at a_knows a_climbed a_snow a_level f_begun f_minute f_avalanches) : q_m_play_0 a_lands a_evenings f_land f_huts f_singers f_evening a_at a_knows a_climbed a_snow a_level f_begun f_minute f_avalanches x1 post := by
  refine s_m_begin_0 k_a_lands k_f_land k_a_at k_a_knows k_a_climbed k_f_begun (fun o1 o2 o3 o4 o5 o6 o7 k_o1 k_o2 k_o3 k_o5 k_o6 k_o7 => ?_)
  exact s_m_play_6 k_a_lands k_a_evenings k_f_land k_f_huts k_f_singers k_f_evening k_o1 k_o2 k_o3 k_a_level (iv_w k_o5 (by decide)) hx1 (iv_w (iv_lit (l := 0) (h := 0) (by decide)) (by decide)) hpost
-- m_stop
set_option maxRecDepth 20000 in
theorem s_m_stop_0 {f_code : Int32} {a_many : Nat → Int32} {a_lands : Nat → Int32} {a_evenings : Nat → Int32} {f_land : Int32} {f_huts : Int32} {f_singers : Int32} {f_evening : Int32} {a_at : Nat → Int32} {a_knows : Nat → Int32} {a_climbed : Nat → Int32} {a_snow : Nat → Int32} {a_level : Nat → Int32} {f_begun : Int32} {f_minute : Int32} {f_avalanches : Int32} {x1 : Int32} {x2 : Int32} {post : Int32 → (Int32) → (Int32) → (Int32) → (Int32) → (Int32) → (Nat → Int32) → (Nat → Int32) → (Nat → Int32) → (Nat → Int32) → (Nat → Int32) → (Int32) → (Int32) → (Int32) → Prop} (k_f_code : iv 0 0 f_code) (k_a_many : ∀ j, iv 0 2 (a_many j)) (k_a_lands : mLand a_lands) (k_a_evenings : mEve a_evenings) (k_f_land : iv 0 1 f_land) (k_f_huts : iv 0 9 f_huts) (k_f_singers : iv 0 6 f_singers) (k_a_at : ∀ j, iv 0 8 (a_at j)) (k_a_knows : ∀ j, iv 0 31 (a_knows j)) (k_a_climbed : ∀ j, iv 0 1 (a_climbed j)) (k_a_level : ∀ j, iv (-9) 108 (a_level j)) (k_f_begun : iv 0 31 f_begun) (hpost : ∀ (r : Int32) (f_code : Int32) (f_land : Int32) (f_huts : Int32) (f_singers : Int32) (f_evening : Int32) (a_at : Nat → Int32) (a_knows : Nat → Int32) (a_climbed : Nat → Int32) (a_snow : Nat → Int32) (a_level : Nat → Int32) (f_begun : Int32) (f_minute : Int32) (f_avalanches : Int32), iv (-1) 40 r → (iv 0 0 f_code) → (iv 0 1 f_land) → (iv 0 9 f_huts) → (iv 0 6 f_singers) → (∀ j, iv 0 8 (a_at j)) → (∀ j, iv 0 31 (a_knows j)) → (∀ j, iv 0 1 (a_climbed j)) → (∀ j, iv (-9) 108 (a_level j)) → (iv 0 31 f_begun) → post r f_code f_land f_huts f_singers f_evening a_at a_knows a_climbed a_snow a_level f_begun f_minute f_avalanches) : q_m_stop_0 f_code a_many a_lands a_evenings f_land f_huts f_singers f_evening a_at a_knows a_climbed a_snow a_level f_begun f_minute f_avalanches x1 x2 post := by
  refine ⟨iv_in (iv_lit (l := 1) (h := 1) (by decide)) (by decide), ?_⟩
  refine ⟨fun c1 => ?_, fun c1 => ?_⟩
  · skip
    refine ⟨iv_nb (iv_lit (l := 0) (h := 0) (by decide)) (by decide), ?_⟩
    refine ⟨iv_nb (iv_lit (l := 0) (h := 0) (by decide)) (by decide), ?_⟩
    refine ⟨fun c2 => ?_, fun c2 => ?_⟩
    · skip
      refine ⟨fun c3 => ?_, fun c3 => ?_⟩
      · skip
        exact hpost _ _ _ _ _ _ _ _ _ _ _ _ _ _ (iv_w (iv_lit (l := (-1)) (h := (-1)) (by decide)) (by decide)) (iv_lit (l := 0) (h := 0) (by decide)) k_f_land k_f_huts k_f_singers k_a_at k_a_knows k_a_climbed k_a_level k_f_begun
      · skip
        exact (iv_emp (iv_ne (l := 1) (h := 0) c3 (iv_lit (l := 0) (h := 0) (by decide)) (iv_lit (l := 0) (h := 0) (by decide)) (by decide)) (by decide)).elim
    · skip
      exact (iv_emp (iv_ne (l := 1) (h := 0) c2 (iv_lit (l := 0) (h := 0) (by decide)) (iv_lit (l := 0) (h := 0) (by decide)) (by decide)) (by decide)).elim
  · skip
    refine ⟨fun c4 => ?_, fun c4 => ?_⟩
    · skip
      refine ⟨iv_nb (iv_lit (l := 0) (h := 0) (by decide)) (by decide), ?_⟩
      refine ⟨iv_nb (iv_lit (l := 0) (h := 0) (by decide)) (by decide), ?_⟩
      refine ⟨fun c5 => ?_, fun c5 => ?_⟩
      · skip
        refine ⟨fun c6 => ?_, fun c6 => ?_⟩
        · skip
          exact hpost _ _ _ _ _ _ _ _ _ _ _ _ _ _ (iv_w (iv_lit (l := (-1)) (h := (-1)) (by decide)) (by decide)) (iv_lit (l := 0) (h := 0) (by decide)) k_f_land k_f_huts k_f_singers k_a_at k_a_knows k_a_climbed k_a_level k_f_begun
        · skip
          exact (iv_emp (iv_ne (l := 1) (h := 0) c6 (iv_lit (l := 0) (h := 0) (by decide)) (iv_lit (l := 0) (h := 0) (by decide)) (by decide)) (by decide)).elim
      · skip
        exact (iv_emp (iv_ne (l := 1) (h := 0) c5 (iv_lit (l := 0) (h := 0) (by decide)) (iv_lit (l := 0) (h := 0) (by decide)) (by decide)) (by decide)).elim
    · skip
      refine ⟨iv_nb (iv_lit (l := 1) (h := 1) (by decide)) (by decide), ?_⟩
      refine ⟨iv_nb (iv_lit (l := 1) (h := 1) (by decide)) (by decide), ?_⟩
      refine ⟨fun c7 => ?_, fun c7 => ?_⟩
      · skip
        exact (iv_emp (iv_eqa (l := 1) (h := 0) c7 (iv_lit (l := 1) (h := 1) (by decide)) (iv_lit (l := 0) (h := 0) (by decide)) (by decide)) (by decide)).elim
      · skip
        refine ⟨iv_in (iv_lit (l := 0) (h := 0) (by decide)) (by decide), ?_⟩
        refine ⟨fun c8 => ?_, fun c8 => ?_⟩
        · skip
          refine ⟨iv_nb (iv_lit (l := 0) (h := 0) (by decide)) (by decide), ?_⟩
          refine ⟨fun c9 => ?_, fun c9 => ?_⟩
          · skip
            exact (iv_emp (iv_ne (l := 1) (h := 0) c9 (iv_lit (l := 0) (h := 0) (by decide)) (iv_lit (l := 0) (h := 0) (by decide)) (by decide)) (by decide)).elim
          · skip
            refine ⟨fun c10 => ?_, fun c10 => ?_⟩
            · skip
              refine ⟨fun c11 => ?_, fun c11 => ?_⟩
              · skip
                exact hpost _ _ _ _ _ _ _ _ _ _ _ _ _ _ (iv_w (iv_lit (l := (-1)) (h := (-1)) (by decide)) (by decide)) (iv_lit (l := 0) (h := 0) (by decide)) k_f_land k_f_huts k_f_singers k_a_at k_a_knows k_a_climbed k_a_level k_f_begun
              · skip
                exact (iv_emp (iv_ne (l := 1) (h := 0) c11 (iv_lit (l := 0) (h := 0) (by decide)) (iv_lit (l := 0) (h := 0) (by decide)) (by decide)) (by decide)).elim
            · skip
              exact (iv_emp (iv_ne (l := 1) (h := 0) c10 (iv_lit (l := 0) (h := 0) (by decide)) (iv_lit (l := 0) (h := 0) (by decide)) (by decide)) (by decide)).elim
        · skip
          refine ⟨fun c12 => ?_, fun c12 => ?_⟩
          · skip
            refine ⟨iv_nb (iv_lit (l := 0) (h := 0) (by decide)) (by decide), ?_⟩
            refine ⟨fun c13 => ?_, fun c13 => ?_⟩
            · skip
              exact (iv_emp (iv_ne (l := 1) (h := 0) c13 (iv_lit (l := 0) (h := 0) (by decide)) (iv_lit (l := 0) (h := 0) (by decide)) (by decide)) (by decide)).elim
            · skip
              refine ⟨fun c14 => ?_, fun c14 => ?_⟩
              · skip
                refine ⟨fun c15 => ?_, fun c15 => ?_⟩
                · skip
                  exact hpost _ _ _ _ _ _ _ _ _ _ _ _ _ _ (iv_w (iv_lit (l := (-1)) (h := (-1)) (by decide)) (by decide)) (iv_lit (l := 0) (h := 0) (by decide)) k_f_land k_f_huts k_f_singers k_a_at k_a_knows k_a_climbed k_a_level k_f_begun
                · skip
                  exact (iv_emp (iv_ne (l := 1) (h := 0) c15 (iv_lit (l := 0) (h := 0) (by decide)) (iv_lit (l := 0) (h := 0) (by decide)) (by decide)) (by decide)).elim
              · skip
                exact (iv_emp (iv_ne (l := 1) (h := 0) c14 (iv_lit (l := 0) (h := 0) (by decide)) (iv_lit (l := 0) (h := 0) (by decide)) (by decide)) (by decide)).elim
          · skip
            refine ⟨iv_nb (iv_lit (l := 1) (h := 1) (by decide)) (by decide), ?_⟩
            refine ⟨fun c16 => ?_, fun c16 => ?_⟩
            · skip
              refine sp_of (a := 0) (b := 9) k_a_lands (iv_lea (l := 0) (h := 1) (r_nlt c12) (iv_leb (l := 0) (h := 2147483647) (r_nlt c8) (iv_lit (l := 0) (h := 0) (by decide)) (iv_top x1) (by decide)) (iv_sub (l := (-1)) (h := 1) (k_a_many _) (iv_lit (l := 1) (h := 1) (by decide)) (by decide)) (by decide)) (iv_lit (l := 0) (h := 0) (by decide)) (by decide +kernel) (fun r17 hr17 er17 => ?_)
              refine sp_of (a := 0) (b := 6) k_a_lands (iv_lea (l := 0) (h := 1) (r_nlt c12) (iv_leb (l := 0) (h := 2147483647) (r_nlt c8) (iv_lit (l := 0) (h := 0) (by decide)) (iv_top x1) (by decide)) (iv_sub (l := (-1)) (h := 1) (k_a_many _) (iv_lit (l := 1) (h := 1) (by decide)) (by decide)) (by decide)) (iv_lit (l := 1) (h := 1) (by decide)) (by decide +kernel) (fun r18 hr18 er18 => ?_)
              refine ⟨fun c19 => ?_, fun c19 => ?_⟩
              · skip
                exact (iv_emp (iv_eqa (l := 1) (h := 0) c19 (iv_lit (l := 1) (h := 1) (by decide)) (iv_lit (l := 0) (h := 0) (by decide)) (by decide)) (by decide)).elim
              · skip
                refine ⟨fun c20 => ?_, fun c20 => ?_⟩
                · skip
                  exact (iv_emp (iv_eqa (l := 1) (h := 0) c20 (iv_lit (l := 1) (h := 1) (by decide)) (iv_lit (l := 0) (h := 0) (by decide)) (by decide)) (by decide)).elim
                · skip
                  refine sp_deeds k_a_evenings (iv_lea (l := 0) (h := 1) (r_nlt c4) (iv_leb (l := 0) (h := 2147483647) (r_nlt c1) (iv_lit (l := 0) (h := 0) (by decide)) (iv_top x2) (by decide)) (iv_sub (l := (-1)) (h := 1) (k_a_many _) (iv_lit (l := 1) (h := 1) (by decide)) (by decide)) (by decide)) (fun r21 hr21 => ?_)
                  refine s_m_play_0 k_a_lands k_a_evenings (iv_lea (l := 0) (h := 1) (r_nlt c12) (iv_leb (l := 0) (h := 2147483647) (r_nlt c8) (iv_lit (l := 0) (h := 0) (by decide)) (iv_top x1) (by decide)) (iv_sub (l := (-1)) (h := 1) (k_a_many _) (iv_lit (l := 1) (h := 1) (by decide)) (by decide)) (by decide)) hr17 hr18 (iv_lea (l := 0) (h := 1) (r_nlt c4) (iv_leb (l := 0) (h := 2147483647) (r_nlt c1) (iv_lit (l := 0) (h := 0) (by decide)) (iv_top x2) (by decide)) (iv_sub (l := (-1)) (h := 1) (k_a_many _) (iv_lit (l := 1) (h := 1) (by decide)) (by decide)) (by decide)) k_a_at k_a_knows k_a_climbed k_a_level k_f_begun hr21 (fun r22 o23 o24 o25 o26 o27 o28 o29 o30 hr22 k_o23 k_o24 k_o25 k_o27 k_o28 => ?_)
                  exact hpost _ _ _ _ _ _ _ _ _ _ _ _ _ _ (iv_w hr22 (by decide)) (iv_lit (l := 0) (h := 0) (by decide)) (iv_lea (l := 0) (h := 1) (r_nlt c12) (iv_leb (l := 0) (h := 2147483647) (r_nlt c8) (iv_lit (l := 0) (h := 0) (by decide)) (iv_top x1) (by decide)) (iv_sub (l := (-1)) (h := 1) (k_a_many _) (iv_lit (l := 1) (h := 1) (by decide)) (by decide)) (by decide)) hr17 hr18 k_o23 k_o24 k_o25 k_o27 k_o28
            · skip
              exact (iv_emp (iv_eqa (l := 1) (h := 0) c16 (iv_lit (l := 1) (h := 1) (by decide)) (iv_lit (l := 0) (h := 0) (by decide)) (by decide)) (by decide)).elim
-- m_reach
set_option maxRecDepth 20000 in
theorem s_m_reach_92 {P11 : Int32 → Int32 → Prop} {P33 : Int32 → Int32 → Prop} {P45 : Int32 → Int32 → Prop} {a_lands : Nat → Int32} {f_land : Int32} {f_huts : Int32} {a_at : Nat → Int32} {a_snow : Nat → Int32} {x1 : Int32} {x3 : Int32} {x4 : Int32} {x5 : Int32} {y0 : Int32} {y1 : Int32} {post : Int32 → Prop} (k_a_lands : mLand a_lands) (k_f_land : iv 0 1 f_land) (k_f_huts : iv 1 9 f_huts) (k_a_at : ∀ j, iv 0 8 (a_at j)) (hx1 : iv 0 5 x1) (hx3 : iv 0 8 x3) (hx4 : iv 0 8 x4) (hx5 : iv 0 8 x5) (hy0 : iv 0 511 y0) (hy1 : iv 0 256 y1) (m11 : Int) (hm11 : m11 ≤ x3.toInt) (hP11 : ∀ (x2 : Int32) (x3 : Int32), m11 < x3.toInt → iv 0 511 x2 → iv 0 9 x3 → P11 x2 x3) (m33 : Int) (hm33 : m33 ≤ x4.toInt) (hP33 : ∀ (x2 : Int32) (x4 : Int32), m33 < x4.toInt → iv 0 511 x2 → iv 0 9 x4 → P33 x2 x4) (m45 : Int) (hm45 : m45 ≤ x5.toInt) (hP45 : ∀ (x2 : Int32) (x5 : Int32), m45 < x5.toInt → iv 0 511 x2 → iv 0 9 x5 → P45 x2 x5) (hpost : ∀ (r : Int32), iv 0 511 r → post r) : q_m_reach_92 P11 P33 P45 a_lands f_land f_huts a_at a_snow x1 x3 x4 x5 y0 y1 post := by
  intro w1 ew1
  have hw1 := iv_eq ew1 (iv_or 9 (l := 0) (h := 511) hy0 hy1 (by decide))
  intro w2 ew2
  have hw2 := iv_eq ew2 (iv_add (l := 1) (h := 9) hx5 (iv_lit (l := 1) (h := 1) (by decide)) (by decide))
  exact hP45 _ _ (ml_up hm45 (inc_lt ew2 hx5 (by decide))) hw1 (iv_w hw2 (by decide))
set_option maxRecDepth 20000 in
theorem s_m_reach_91 {P11 : Int32 → Int32 → Prop} {P33 : Int32 → Int32 → Prop} {P45 : Int32 → Int32 → Prop} {a_lands : Nat → Int32} {f_land : Int32} {f_huts : Int32} {a_at : Nat → Int32} {a_snow : Nat → Int32} {x1 : Int32} {x3 : Int32} {x4 : Int32} {x5 : Int32} {y0 : Int32} {post : Int32 → Prop} (k_a_lands : mLand a_lands) (k_f_land : iv 0 1 f_land) (k_f_huts : iv 1 9 f_huts) (k_a_at : ∀ j, iv 0 8 (a_at j)) (hx1 : iv 0 5 x1) (hx3 : iv 0 8 x3) (hx4 : iv 0 8 x4) (hx5 : iv 0 8 x5) (hy0 : iv 0 511 y0) (m11 : Int) (hm11 : m11 ≤ x3.toInt) (hP11 : ∀ (x2 : Int32) (x3 : Int32), m11 < x3.toInt → iv 0 511 x2 → iv 0 9 x3 → P11 x2 x3) (m33 : Int) (hm33 : m33 ≤ x4.toInt) (hP33 : ∀ (x2 : Int32) (x4 : Int32), m33 < x4.toInt → iv 0 511 x2 → iv 0 9 x4 → P33 x2 x4) (m45 : Int) (hm45 : m45 ≤ x5.toInt) (hP45 : ∀ (x2 : Int32) (x5 : Int32), m45 < x5.toInt → iv 0 511 x2 → iv 0 9 x5 → P45 x2 x5) (hpost : ∀ (r : Int32), iv 0 511 r → post r) : q_m_reach_91 P11 P33 P45 a_lands f_land f_huts a_at a_snow x1 x3 x4 x5 y0 post := by
  exact s_m_reach_92 k_a_lands k_f_land k_f_huts k_a_at hx1 hx3 hx4 hx5 hy0 (iv_w (iv_lit (l := 0) (h := 0) (by decide)) (by decide)) m11 hm11 hP11 m33 hm33 hP33 m45 hm45 hP45 hpost
set_option maxRecDepth 20000 in
theorem s_m_reach_45 {P11 : Int32 → Int32 → Prop} {P33 : Int32 → Int32 → Prop} {a_lands : Nat → Int32} {f_land : Int32} {f_huts : Int32} {a_at : Nat → Int32} {a_snow : Nat → Int32} {x1 : Int32} {x2 : Int32} {x3 : Int32} {x4 : Int32} {x5 : Int32} {post : Int32 → Prop} (k_a_lands : mLand a_lands) (k_f_land : iv 0 1 f_land) (k_f_huts : iv 1 9 f_huts) (k_a_at : ∀ j, iv 0 8 (a_at j)) (hx1 : iv 0 5 x1) (hx2 : iv 0 511 x2) (hx3 : iv 0 8 x3) (hx4 : iv 0 8 x4) (hx5 : iv 0 9 x5) (m11 : Int) (hm11 : m11 ≤ x3.toInt) (hP11 : ∀ (x2 : Int32) (x3 : Int32), m11 < x3.toInt → iv 0 511 x2 → iv 0 9 x3 → P11 x2 x3) (m33 : Int) (hm33 : m33 ≤ x4.toInt) (hP33 : ∀ (x2 : Int32) (x4 : Int32), m33 < x4.toInt → iv 0 511 x2 → iv 0 9 x4 → P33 x2 x4) (hpost : ∀ (r : Int32), iv 0 511 r → post r) : q_m_reach_45 P11 P33 a_lands f_land f_huts a_at a_snow x1 x2 x3 x4 x5 post := by
  intro P hP
  have loop : ∀ (n : Nat) (x2 : Int32) (x5 : Int32), (9 - x5.toInt < (n : Int)) → (iv 0 511 x2) → (iv 0 9 x5) → P x2 x5 := by
    intro n
    induction n with
    | zero => intro x2 x5 hm hx2 hx5; exact (ms0_up hm hx5).elim
    | succ n ih =>
      intro x2 x5 hm hx2 hx5
      apply hP
      refine ⟨fun c1 => ?_, fun c1 => ?_⟩
      · skip
        intro w2 ew2
        have hw2 := iv_eq ew2 (iv_add (l := 1) (h := 9) hx4 (iv_lit (l := 1) (h := 1) (by decide)) (by decide))
        exact hP33 _ _ (ml_up hm33 (inc_lt ew2 hx4 (by decide))) hx2 (iv_w hw2 (by decide))
      · skip
        refine ⟨fun c3 => ?_, fun c3 => ?_⟩
        · skip
          refine ⟨fun c4 => ?_, fun c4 => ?_⟩
          · skip
            exact s_m_reach_91 k_a_lands k_f_land k_f_huts k_a_at hx1 hx3 hx4 (iv_lta (l := 0) (h := 8) (r_nle c1) hx5 k_f_huts (by decide)) hx2 m11 hm11 hP11 m33 hm33 hP33 x5.toInt (Int.le_refl _) (fun u0 u1 hq g0 g1 => ih u0 u1 (ms_up hm hq) g0 g1) hpost
          · skip
            exact (iv_emp (iv_ne (l := 1) (h := 0) c4 (iv_lit (l := 0) (h := 0) (by decide)) (iv_lit (l := 0) (h := 0) (by decide)) (by decide)) (by decide)).elim
        · skip
          refine ⟨fun c5 => ?_, fun c5 => ?_⟩
          · skip
            exact (iv_emp (iv_eqa (l := 1) (h := 0) c5 (iv_lit (l := 1) (h := 1) (by decide)) (iv_lit (l := 0) (h := 0) (by decide)) (by decide)) (by decide)).elim
          · skip
            refine sp_of (a := 0) (b := 9) k_a_lands k_f_land (iv_add (l := 51) (h := 131) (iv_add (l := 51) (h := 123) (iv_lit (l := 51) (h := 51) (by decide)) (iv_mul (l := 0) (h := 72) (iv_lit (l := 9) (h := 9) (by decide)) hx4 (by decide)) (by decide)) (iv_lta (l := 0) (h := 8) (r_nle c1) hx5 k_f_huts (by decide)) (by decide)) (by decide +kernel) (fun r6 hr6 er6 => ?_)
            refine ⟨fun c7 => ?_, fun c7 => ?_⟩
            · skip
              exact s_m_reach_91 k_a_lands k_f_land k_f_huts k_a_at hx1 hx3 hx4 (iv_lta (l := 0) (h := 8) (r_nle c1) hx5 k_f_huts (by decide)) hx2 m11 hm11 hP11 m33 hm33 hP33 x5.toInt (Int.le_refl _) (fun u0 u1 hq g0 g1 => ih u0 u1 (ms_up hm hq) g0 g1) hpost
            · skip
              refine ⟨iv_in (iv_lta (l := 0) (h := 8) (r_nle c1) hx5 k_f_huts (by decide)) (by decide), ?_⟩
              refine sp_of (a := 0) (b := 9) k_a_lands k_f_land (iv_lit (l := 5) (h := 5) (by decide)) (by decide +kernel) (fun r8 hr8 er8 => ?_)
              refine ⟨fun c9 => ?_, fun c9 => ?_⟩
              · skip
                refine ⟨fun c10 => ?_, fun c10 => ?_⟩
                · skip
                  exact (iv_emp (iv_ne (l := 1) (h := 0) c10 (iv_lit (l := 0) (h := 0) (by decide)) (iv_lit (l := 0) (h := 0) (by decide)) (by decide)) (by decide)).elim
                · skip
                  exact s_m_reach_92 k_a_lands k_f_land k_f_huts k_a_at hx1 hx3 hx4 (iv_lta (l := 0) (h := 8) (r_nle c1) hx5 k_f_huts (by decide)) hx2 (iv_w (iv_shl1 (l := 1) (h := 256) (iv_lit (l := 1) (h := 1) (by decide)) (iv_lta (l := 0) (h := 8) (r_nle c1) hx5 k_f_huts (by decide)) (by decide)) (by decide)) m11 hm11 hP11 m33 hm33 hP33 x5.toInt (Int.le_refl _) (fun u0 u1 hq g0 g1 => ih u0 u1 (ms_up hm hq) g0 g1) hpost
              · skip
                refine ⟨fun c11 => ?_, fun c11 => ?_⟩
                · skip
                  exact s_m_reach_91 k_a_lands k_f_land k_f_huts k_a_at hx1 hx3 hx4 (iv_lta (l := 0) (h := 8) (r_nle c1) hx5 k_f_huts (by decide)) hx2 m11 hm11 hP11 m33 hm33 hP33 x5.toInt (Int.le_refl _) (fun u0 u1 hq g0 g1 => ih u0 u1 (ms_up hm hq) g0 g1) hpost
                · skip
                  exact (iv_emp (iv_eqa (l := 1) (h := 0) c11 (iv_lit (l := 1) (h := 1) (by decide)) (iv_lit (l := 0) (h := 0) (by decide)) (by decide)) (by decide)).elim
  exact loop _ _ _ (ms_init_up _ _) hx2 hx5
set_option maxRecDepth 20000 in
theorem s_m_reach_33 {P11 : Int32 → Int32 → Prop} {a_lands : Nat → Int32} {f_land : Int32} {f_huts : Int32} {a_at : Nat → Int32} {a_snow : Nat → Int32} {x1 : Int32} {x2 : Int32} {x3 : Int32} {x4 : Int32} {post : Int32 → Prop} (k_a_lands : mLand a_lands) (k_f_land : iv 0 1 f_land) (k_f_huts : iv 0 9 f_huts) (k_a_at : ∀ j, iv 0 8 (a_at j)) (hx1 : iv 0 5 x1) (hx2 : iv 0 511 x2) (hx3 : iv 0 8 x3) (hx4 : iv 0 9 x4) (m11 : Int) (hm11 : m11 ≤ x3.toInt) (hP11 : ∀ (x2 : Int32) (x3 : Int32), m11 < x3.toInt → iv 0 511 x2 → iv 0 9 x3 → P11 x2 x3) (hpost : ∀ (r : Int32), iv 0 511 r → post r) : q_m_reach_33 P11 a_lands f_land f_huts a_at a_snow x1 x2 x3 x4 post := by
  intro P hP
  have loop : ∀ (n : Nat) (x2 : Int32) (x4 : Int32), (9 - x4.toInt < (n : Int)) → (iv 0 511 x2) → (iv 0 9 x4) → P x2 x4 := by
    intro n
    induction n with
    | zero => intro x2 x4 hm hx2 hx4; exact (ms0_up hm hx4).elim
    | succ n ih =>
      intro x2 x4 hm hx2 hx4
      apply hP
      refine ⟨fun c1 => ?_, fun c1 => ?_⟩
      · skip
        intro w2 ew2
        have hw2 := iv_eq ew2 (iv_add (l := 1) (h := 9) hx3 (iv_lit (l := 1) (h := 1) (by decide)) (by decide))
        exact hP11 _ _ (ml_up hm11 (inc_lt ew2 hx3 (by decide))) hx2 (iv_w hw2 (by decide))
      · skip
        exact s_m_reach_45 k_a_lands k_f_land (iv_ltb (l := 1) (h := 9) (r_nle c1) hx4 k_f_huts (by decide)) k_a_at hx1 hx2 hx3 (iv_lta (l := 0) (h := 8) (r_nle c1) hx4 k_f_huts (by decide)) (iv_w (iv_lit (l := 0) (h := 0) (by decide)) (by decide)) m11 hm11 hP11 x4.toInt (Int.le_refl _) (fun u0 u1 hq g0 g1 => ih u0 u1 (ms_up hm hq) g0 g1) hpost
  exact loop _ _ _ (ms_init_up _ _) hx2 hx4
set_option maxRecDepth 20000 in
theorem s_m_reach_11 {a_lands : Nat → Int32} {f_land : Int32} {f_huts : Int32} {a_at : Nat → Int32} {a_snow : Nat → Int32} {x1 : Int32} {x2 : Int32} {x3 : Int32} {post : Int32 → Prop} (k_a_lands : mLand a_lands) (k_f_land : iv 0 1 f_land) (k_f_huts : iv 0 9 f_huts) (k_a_at : ∀ j, iv 0 8 (a_at j)) (hx1 : iv 0 5 x1) (hx2 : iv 0 511 x2) (hx3 : iv 0 9 x3) (hpost : ∀ (r : Int32), iv 0 511 r → post r) : q_m_reach_11 a_lands f_land f_huts a_at a_snow x1 x2 x3 post := by
  intro P hP
  have loop : ∀ (n : Nat) (x2 : Int32) (x3 : Int32), (9 - x3.toInt < (n : Int)) → (iv 0 511 x2) → (iv 0 9 x3) → P x2 x3 := by
    intro n
    induction n with
    | zero => intro x2 x3 hm hx2 hx3; exact (ms0_up hm hx3).elim
    | succ n ih =>
      intro x2 x3 hm hx2 hx3
      apply hP
      refine ⟨fun c1 => ?_, fun c1 => ?_⟩
      · skip
        exact hpost _ hx2
      · skip
        refine ⟨iv_in hx1 (by decide), ?_⟩
        refine ⟨iv_in (k_a_at _) (by decide), ?_⟩
        refine sp_of (a := 0) (b := 9) k_a_lands k_f_land (iv_lit (l := 5) (h := 5) (by decide)) (by decide +kernel) (fun r2 hr2 er2 => ?_)
        refine ⟨fun c3 => ?_, fun c3 => ?_⟩
        · skip
          refine ⟨fun c4 => ?_, fun c4 => ?_⟩
          · skip
            exact (iv_emp (iv_ne (l := 1) (h := 0) c4 (iv_lit (l := 0) (h := 0) (by decide)) (iv_lit (l := 0) (h := 0) (by decide)) (by decide)) (by decide)).elim
          · skip
            exact s_m_reach_33 k_a_lands k_f_land k_f_huts k_a_at hx1 hx2 (iv_lta (l := 0) (h := 8) (r_nle c1) hx3 (iv_lit (l := 9) (h := 9) (by decide)) (by decide)) (iv_w (iv_lit (l := 0) (h := 0) (by decide)) (by decide)) x3.toInt (Int.le_refl _) (fun u0 u1 hq g0 g1 => ih u0 u1 (ms_up hm hq) g0 g1) hpost
        · skip
          refine ⟨fun c5 => ?_, fun c5 => ?_⟩
          · skip
            exact hpost _ hx2
          · skip
            exact (iv_emp (iv_eqa (l := 1) (h := 0) c5 (iv_lit (l := 1) (h := 1) (by decide)) (iv_lit (l := 0) (h := 0) (by decide)) (by decide)) (by decide)).elim
  exact loop _ _ _ (ms_init_up _ _) hx2 hx3
set_option maxRecDepth 20000 in
theorem s_m_reach_0 {a_lands : Nat → Int32} {f_land : Int32} {f_huts : Int32} {a_at : Nat → Int32} {a_snow : Nat → Int32} {x1 : Int32} {post : Int32 → Prop} (k_a_lands : mLand a_lands) (k_f_land : iv 0 1 f_land) (k_f_huts : iv 0 9 f_huts) (k_a_at : ∀ j, iv 0 8 (a_at j)) (hx1 : iv 0 5 x1) (hpost : ∀ (r : Int32), iv 0 511 r → post r) : q_m_reach_0 a_lands f_land f_huts a_at a_snow x1 post := by
  refine ⟨iv_in hx1 (by decide), ?_⟩
  intro w1 ew1
  have hw1 := iv_eq ew1 (iv_shl1 (l := 1) (h := 256) (iv_lit (l := 1) (h := 1) (by decide)) (k_a_at _) (by decide))
  exact s_m_reach_11 k_a_lands k_f_land k_f_huts k_a_at hx1 (iv_w hw1 (by decide)) (iv_w (iv_lit (l := 0) (h := 0) (by decide)) (by decide)) hpost
-- m_isDone
set_option maxRecDepth 20000 in
theorem s_m_isDone_88 {P2 : Int32 → Prop} {P44 : Int32 → Prop} {a_lands : Nat → Int32} {f_land : Int32} {f_huts : Int32} {f_singers : Int32} {a_at : Nat → Int32} {a_knows : Nat → Int32} {a_snow : Nat → Int32} {a_level : Nat → Int32} {x1 : Int32} {x2 : Int32} {x3 : Int32} {x4 : Int32} {post : Int32 → Prop} (k_a_lands : mLand a_lands) (k_f_land : iv 0 1 f_land) (k_f_huts : iv 1 9 f_huts) (k_f_singers : iv 1 6 f_singers) (k_a_at : ∀ j, iv 0 8 (a_at j)) (k_a_knows : ∀ j, iv 0 31 (a_knows j)) (k_a_level : ∀ j, iv (-9) 108 (a_level j)) (hx1 : iv 0 4 x1) (hx2 : iv 0 5 x2) (hx3 : iv 0 511 x3) (hx4 : iv 0 8 x4) (m2 : Int) (hm2 : m2 ≤ x2.toInt) (hP2 : ∀ (x2 : Int32), m2 < x2.toInt → iv 0 6 x2 → P2 x2) (m44 : Int) (hm44 : m44 ≤ x4.toInt) (hP44 : ∀ (x4 : Int32), m44 < x4.toInt → iv 0 9 x4 → P44 x4) (hpost : ∀ (r : Int32), iv 0 1 r → post r) : q_m_isDone_88 P2 P44 a_lands f_land f_huts f_singers a_at a_knows a_snow a_level x1 x2 x3 x4 post := by
  intro w1 ew1
  have hw1 := iv_eq ew1 (iv_add (l := 1) (h := 9) hx4 (iv_lit (l := 1) (h := 1) (by decide)) (by decide))
  exact hP44 _ (ml_up hm44 (inc_lt ew1 hx4 (by decide))) (iv_w hw1 (by decide))
set_option maxRecDepth 20000 in
theorem s_m_isDone_44 {P2 : Int32 → Prop} {a_lands : Nat → Int32} {f_land : Int32} {f_huts : Int32} {f_singers : Int32} {a_at : Nat → Int32} {a_knows : Nat → Int32} {a_snow : Nat → Int32} {a_level : Nat → Int32} {x1 : Int32} {x2 : Int32} {x3 : Int32} {x4 : Int32} {post : Int32 → Prop} (k_a_lands : mLand a_lands) (k_f_land : iv 0 1 f_land) (k_f_huts : iv 0 9 f_huts) (k_f_singers : iv 1 6 f_singers) (k_a_at : ∀ j, iv 0 8 (a_at j)) (k_a_knows : ∀ j, iv 0 31 (a_knows j)) (k_a_level : ∀ j, iv (-9) 108 (a_level j)) (hx1 : iv 0 4 x1) (hx2 : iv 0 5 x2) (hx3 : iv 0 511 x3) (hx4 : iv 0 9 x4) (m2 : Int) (hm2 : m2 ≤ x2.toInt) (hP2 : ∀ (x2 : Int32), m2 < x2.toInt → iv 0 6 x2 → P2 x2) (hpost : ∀ (r : Int32), iv 0 1 r → post r) : q_m_isDone_44 P2 a_lands f_land f_huts f_singers a_at a_knows a_snow a_level x1 x2 x3 x4 post := by
  intro P hP
  have loop : ∀ (n : Nat) (x4 : Int32), (9 - x4.toInt < (n : Int)) → (iv 0 9 x4) → P x4 := by
    intro n
    induction n with
    | zero => intro x4 hm hx4; exact (ms0_up hm hx4).elim
    | succ n ih =>
      intro x4 hm hx4
      apply hP
      refine ⟨fun c1 => ?_, fun c1 => ?_⟩
      · skip
        intro w2 ew2
        have hw2 := iv_eq ew2 (iv_add (l := 1) (h := 6) hx2 (iv_lit (l := 1) (h := 1) (by decide)) (by decide))
        exact hP2 _ (ml_up hm2 (inc_lt ew2 hx2 (by decide))) (iv_w hw2 (by decide))
      · skip
        refine ⟨fun c3 => ?_, fun c3 => ?_⟩
        · skip
          refine ⟨fun c4 => ?_, fun c4 => ?_⟩
          · skip
            exact s_m_isDone_88 k_a_lands k_f_land (iv_ltb (l := 1) (h := 9) (r_nle c1) hx4 k_f_huts (by decide)) k_f_singers k_a_at k_a_knows k_a_level hx1 hx2 hx3 (iv_lta (l := 0) (h := 8) (r_nle c1) hx4 k_f_huts (by decide)) m2 hm2 hP2 x4.toInt (Int.le_refl _) (fun u0 hq g0 => ih u0 (ms_up hm hq) g0) hpost
          · skip
            exact (iv_emp (iv_ne (l := 1) (h := 0) c4 (iv_lit (l := 0) (h := 0) (by decide)) (iv_lit (l := 0) (h := 0) (by decide)) (by decide)) (by decide)).elim
        · skip
          refine ⟨fun c5 => ?_, fun c5 => ?_⟩
          · skip
            exact (iv_emp (iv_eqa (l := 1) (h := 0) c5 (iv_lit (l := 1) (h := 1) (by decide)) (iv_lit (l := 0) (h := 0) (by decide)) (by decide)) (by decide)).elim
          · skip
            refine sp_of (a := 0) (b := 99) k_a_lands k_f_land (iv_add (l := 7) (h := 15) (iv_lit (l := 7) (h := 7) (by decide)) (iv_lta (l := 0) (h := 8) (r_nle c1) hx4 k_f_huts (by decide)) (by decide)) (by decide +kernel) (fun r6 hr6 er6 => ?_)
            refine sp_of (a := 0) (b := 9) k_a_lands k_f_land (iv_add (l := 31) (h := 36) (iv_lit (l := 31) (h := 31) (by decide)) hx2 (by decide)) (by decide +kernel) (fun r7 hr7 er7 => ?_)
            refine ⟨iv_in hx1 (by decide), ?_⟩
            refine ⟨fun c8 => ?_, fun c8 => ?_⟩
            · skip
              exact s_m_isDone_88 k_a_lands k_f_land (iv_ltb (l := 1) (h := 9) (r_nle c1) hx4 k_f_huts (by decide)) k_f_singers k_a_at k_a_knows k_a_level hx1 hx2 hx3 (iv_lta (l := 0) (h := 8) (r_nle c1) hx4 k_f_huts (by decide)) m2 hm2 hP2 x4.toInt (Int.le_refl _) (fun u0 hq g0 => ih u0 (ms_up hm hq) g0) hpost
            · skip
              exact hpost _ (iv_w (iv_lit (l := 0) (h := 0) (by decide)) (by decide))
  exact loop _ _ (ms_init_up _ _) hx4
set_option maxRecDepth 20000 in
theorem s_m_isDone_40 {P2 : Int32 → Prop} {a_lands : Nat → Int32} {f_land : Int32} {f_huts : Int32} {f_singers : Int32} {a_at : Nat → Int32} {a_knows : Nat → Int32} {a_snow : Nat → Int32} {a_level : Nat → Int32} {x1 : Int32} {x2 : Int32} {y0 : Int32} {post : Int32 → Prop} (k_a_lands : mLand a_lands) (k_f_land : iv 0 1 f_land) (k_f_huts : iv 0 9 f_huts) (k_f_singers : iv 1 6 f_singers) (k_a_at : ∀ j, iv 0 8 (a_at j)) (k_a_knows : ∀ j, iv 0 31 (a_knows j)) (k_a_level : ∀ j, iv (-9) 108 (a_level j)) (hx1 : iv 0 4 x1) (hx2 : iv 0 5 x2) (hy0 : iv 0 511 y0) (m2 : Int) (hm2 : m2 ≤ x2.toInt) (hP2 : ∀ (x2 : Int32), m2 < x2.toInt → iv 0 6 x2 → P2 x2) (hpost : ∀ (r : Int32), iv 0 1 r → post r) : q_m_isDone_40 P2 a_lands f_land f_huts f_singers a_at a_knows a_snow a_level x1 x2 y0 post := by
  exact s_m_isDone_44 k_a_lands k_f_land k_f_huts k_f_singers k_a_at k_a_knows k_a_level hx1 hx2 hy0 (iv_w (iv_lit (l := 0) (h := 0) (by decide)) (by decide)) m2 hm2 hP2 hpost
set_option maxRecDepth 20000 in
theorem s_m_isDone_2 {a_lands : Nat → Int32} {f_land : Int32} {f_huts : Int32} {f_singers : Int32} {a_at : Nat → Int32} {a_knows : Nat → Int32} {a_snow : Nat → Int32} {a_level : Nat → Int32} {x1 : Int32} {x2 : Int32} {post : Int32 → Prop} (k_a_lands : mLand a_lands) (k_f_land : iv 0 1 f_land) (k_f_huts : iv 0 9 f_huts) (k_f_singers : iv 0 6 f_singers) (k_a_at : ∀ j, iv 0 8 (a_at j)) (k_a_knows : ∀ j, iv 0 31 (a_knows j)) (k_a_level : ∀ j, iv (-9) 108 (a_level j)) (hx1 : iv 0 4 x1) (hx2 : iv 0 6 x2) (hpost : ∀ (r : Int32), iv 0 1 r → post r) : q_m_isDone_2 a_lands f_land f_huts f_singers a_at a_knows a_snow a_level x1 x2 post := by
  intro P hP
  have loop : ∀ (n : Nat) (x2 : Int32), (6 - x2.toInt < (n : Int)) → (iv 0 6 x2) → P x2 := by
    intro n
    induction n with
    | zero => intro x2 hm hx2; exact (ms0_up hm hx2).elim
    | succ n ih =>
      intro x2 hm hx2
      apply hP
      refine ⟨fun c1 => ?_, fun c1 => ?_⟩
      · skip
        exact hpost _ (iv_w (iv_lit (l := 1) (h := 1) (by decide)) (by decide))
      · skip
        refine ⟨iv_in (iv_lta (l := 0) (h := 5) (r_nle c1) hx2 k_f_singers (by decide)) (by decide), ?_⟩
        refine ⟨fun c2 => ?_, fun c2 => ?_⟩
        · skip
          refine ⟨fun c3 => ?_, fun c3 => ?_⟩
          · skip
            exact s_m_isDone_40 k_a_lands k_f_land k_f_huts (iv_ltb (l := 1) (h := 6) (r_nle c1) hx2 k_f_singers (by decide)) k_a_at k_a_knows k_a_level hx1 (iv_lta (l := 0) (h := 5) (r_nle c1) hx2 k_f_singers (by decide)) (iv_w (iv_lit (l := 0) (h := 0) (by decide)) (by decide)) x2.toInt (Int.le_refl _) (fun u0 hq g0 => ih u0 (ms_up hm hq) g0) hpost
          · skip
            exact (iv_emp (iv_ne (l := 1) (h := 0) c3 (iv_lit (l := 0) (h := 0) (by decide)) (iv_lit (l := 0) (h := 0) (by decide)) (by decide)) (by decide)).elim
        · skip
          refine ⟨fun c4 => ?_, fun c4 => ?_⟩
          · skip
            exact (iv_emp (iv_eqa (l := 1) (h := 0) c4 (iv_lit (l := 1) (h := 1) (by decide)) (iv_lit (l := 0) (h := 0) (by decide)) (by decide)) (by decide)).elim
          · skip
            refine s_m_reach_0 k_a_lands k_f_land k_f_huts k_a_at (iv_lta (l := 0) (h := 5) (r_nle c1) hx2 k_f_singers (by decide)) (fun r5 hr5 => ?_)
            refine sp_of (a := 0) (b := 511) k_a_lands k_f_land (iv_lit (l := 3) (h := 3) (by decide)) (by decide +kernel) (fun r6 hr6 er6 => ?_)
            exact s_m_isDone_40 k_a_lands k_f_land k_f_huts (iv_ltb (l := 1) (h := 6) (r_nle c1) hx2 k_f_singers (by decide)) k_a_at k_a_knows k_a_level hx1 (iv_lta (l := 0) (h := 5) (r_nle c1) hx2 k_f_singers (by decide)) (iv_andl (l := 0) (h := 511) hr5 (by decide)) x2.toInt (Int.le_refl _) (fun u0 hq g0 => ih u0 (ms_up hm hq) g0) hpost
  exact loop _ _ (ms_init_up _ _) hx2
set_option maxRecDepth 20000 in
theorem s_m_isDone_0 {a_lands : Nat → Int32} {f_land : Int32} {f_huts : Int32} {f_singers : Int32} {a_at : Nat → Int32} {a_knows : Nat → Int32} {a_snow : Nat → Int32} {a_level : Nat → Int32} {x1 : Int32} {post : Int32 → Prop} (k_a_lands : mLand a_lands) (k_f_land : iv 0 1 f_land) (k_f_huts : iv 0 9 f_huts) (k_f_singers : iv 0 6 f_singers) (k_a_at : ∀ j, iv 0 8 (a_at j)) (k_a_knows : ∀ j, iv 0 31 (a_knows j)) (k_a_level : ∀ j, iv (-9) 108 (a_level j)) (hx1 : iv 0 4 x1) (hpost : ∀ (r : Int32), iv 0 1 r → post r) : q_m_isDone_0 a_lands f_land f_huts f_singers a_at a_knows a_snow a_level x1 post := by
  exact s_m_isDone_2 k_a_lands k_f_land k_f_huts k_f_singers k_a_at k_a_knows k_a_level hx1 (iv_w (iv_lit (l := 0) (h := 0) (by decide)) (by decide)) hpost
-- m_doneFor
set_option maxRecDepth 20000 in
theorem s_m_doneFor_36 {P4 : Int32 → Int32 → Prop} {a_lands : Nat → Int32} {f_land : Int32} {f_huts : Int32} {f_singers : Int32} {a_at : Nat → Int32} {a_knows : Nat → Int32} {a_snow : Nat → Int32} {a_level : Nat → Int32} {f_begun : Int32} {x2 : Int32} {y0 : Int32} {y1 : Int32} {post : Int32 → Prop} (k_a_lands : mLand a_lands) (k_f_land : iv 0 1 f_land) (k_f_huts : iv 0 9 f_huts) (k_f_singers : iv 0 6 f_singers) (k_a_at : ∀ j, iv 0 8 (a_at j)) (k_a_knows : ∀ j, iv 0 31 (a_knows j)) (k_a_level : ∀ j, iv (-9) 108 (a_level j)) (k_f_begun : iv 0 31 f_begun) (hx2 : iv 0 4 x2) (hy0 : iv 0 31 y0) (hy1 : iv 0 16 y1) (m4 : Int) (hm4 : m4 ≤ x2.toInt) (hP4 : ∀ (x1 : Int32) (x2 : Int32), m4 < x2.toInt → iv 0 31 x1 → iv 0 5 x2 → P4 x1 x2) (hpost : ∀ (r : Int32), iv 0 31 r → post r) : q_m_doneFor_36 P4 a_lands f_land f_huts f_singers a_at a_knows a_snow a_level f_begun x2 y0 y1 post := by
  intro w1 ew1
  have hw1 := iv_eq ew1 (iv_or 5 (l := 0) (h := 31) hy0 hy1 (by decide))
  intro w2 ew2
  have hw2 := iv_eq ew2 (iv_add (l := 1) (h := 5) hx2 (iv_lit (l := 1) (h := 1) (by decide)) (by decide))
  exact hP4 _ _ (ml_up hm4 (inc_lt ew2 hx2 (by decide))) hw1 (iv_w hw2 (by decide))
set_option maxRecDepth 20000 in
theorem s_m_doneFor_35 {P4 : Int32 → Int32 → Prop} {a_lands : Nat → Int32} {f_land : Int32} {f_huts : Int32} {f_singers : Int32} {a_at : Nat → Int32} {a_knows : Nat → Int32} {a_snow : Nat → Int32} {a_level : Nat → Int32} {f_begun : Int32} {x2 : Int32} {y0 : Int32} {post : Int32 → Prop} (k_a_lands : mLand a_lands) (k_f_land : iv 0 1 f_land) (k_f_huts : iv 0 9 f_huts) (k_f_singers : iv 0 6 f_singers) (k_a_at : ∀ j, iv 0 8 (a_at j)) (k_a_knows : ∀ j, iv 0 31 (a_knows j)) (k_a_level : ∀ j, iv (-9) 108 (a_level j)) (k_f_begun : iv 0 31 f_begun) (hx2 : iv 0 4 x2) (hy0 : iv 0 31 y0) (m4 : Int) (hm4 : m4 ≤ x2.toInt) (hP4 : ∀ (x1 : Int32) (x2 : Int32), m4 < x2.toInt → iv 0 31 x1 → iv 0 5 x2 → P4 x1 x2) (hpost : ∀ (r : Int32), iv 0 31 r → post r) : q_m_doneFor_35 P4 a_lands f_land f_huts f_singers a_at a_knows a_snow a_level f_begun x2 y0 post := by
  exact s_m_doneFor_36 k_a_lands k_f_land k_f_huts k_f_singers k_a_at k_a_knows k_a_level k_f_begun hx2 hy0 (iv_w (iv_lit (l := 0) (h := 0) (by decide)) (by decide)) m4 hm4 hP4 hpost
set_option maxRecDepth 20000 in
theorem s_m_doneFor_4 {a_lands : Nat → Int32} {f_land : Int32} {f_huts : Int32} {f_singers : Int32} {a_at : Nat → Int32} {a_knows : Nat → Int32} {a_snow : Nat → Int32} {a_level : Nat → Int32} {f_begun : Int32} {x1 : Int32} {x2 : Int32} {post : Int32 → Prop} (k_a_lands : mLand a_lands) (k_f_land : iv 0 1 f_land) (k_f_huts : iv 0 9 f_huts) (k_f_singers : iv 0 6 f_singers) (k_a_at : ∀ j, iv 0 8 (a_at j)) (k_a_knows : ∀ j, iv 0 31 (a_knows j)) (k_a_level : ∀ j, iv (-9) 108 (a_level j)) (k_f_begun : iv 0 31 f_begun) (hx1 : iv 0 31 x1) (hx2 : iv 0 5 x2) (hpost : ∀ (r : Int32), iv 0 31 r → post r) : q_m_doneFor_4 a_lands f_land f_huts f_singers a_at a_knows a_snow a_level f_begun x1 x2 post := by
  intro P hP
  have loop : ∀ (n : Nat) (x1 : Int32) (x2 : Int32), (5 - x2.toInt < (n : Int)) → (iv 0 31 x1) → (iv 0 5 x2) → P x1 x2 := by
    intro n
    induction n with
    | zero => intro x1 x2 hm hx1 hx2; exact (ms0_up hm hx2).elim
    | succ n ih =>
      intro x1 x2 hm hx1 hx2
      apply hP
      refine ⟨fun c1 => ?_, fun c1 => ?_⟩
      · skip
        exact hpost _ hx1
      · skip
        refine ⟨fun c2 => ?_, fun c2 => ?_⟩
        · skip
          refine ⟨fun c3 => ?_, fun c3 => ?_⟩
          · skip
            exact s_m_doneFor_35 k_a_lands k_f_land k_f_huts k_f_singers k_a_at k_a_knows k_a_level k_f_begun (iv_lta (l := 0) (h := 4) (r_nle c1) hx2 (iv_lit (l := 5) (h := 5) (by decide)) (by decide)) hx1 x2.toInt (Int.le_refl _) (fun u0 u1 hq g0 g1 => ih u0 u1 (ms_up hm hq) g0 g1) hpost
          · skip
            exact (iv_emp (iv_ne (l := 1) (h := 0) c3 (iv_lit (l := 0) (h := 0) (by decide)) (iv_lit (l := 0) (h := 0) (by decide)) (by decide)) (by decide)).elim
        · skip
          refine ⟨fun c4 => ?_, fun c4 => ?_⟩
          · skip
            exact (iv_emp (iv_eqa (l := 1) (h := 0) c4 (iv_lit (l := 1) (h := 1) (by decide)) (iv_lit (l := 0) (h := 0) (by decide)) (by decide)) (by decide)).elim
          · skip
            refine s_m_isDone_0 k_a_lands k_f_land k_f_huts k_f_singers k_a_at k_a_knows k_a_level (iv_lta (l := 0) (h := 4) (r_nle c1) hx2 (iv_lit (l := 5) (h := 5) (by decide)) (by decide)) (fun r5 hr5 => ?_)
            refine ⟨fun c6 => ?_, fun c6 => ?_⟩
            · skip
              exact s_m_doneFor_35 k_a_lands k_f_land k_f_huts k_f_singers k_a_at k_a_knows k_a_level k_f_begun (iv_lta (l := 0) (h := 4) (r_nle c1) hx2 (iv_lit (l := 5) (h := 5) (by decide)) (by decide)) hx1 x2.toInt (Int.le_refl _) (fun u0 u1 hq g0 g1 => ih u0 u1 (ms_up hm hq) g0 g1) hpost
            · skip
              exact s_m_doneFor_36 k_a_lands k_f_land k_f_huts k_f_singers k_a_at k_a_knows k_a_level k_f_begun (iv_lta (l := 0) (h := 4) (r_nle c1) hx2 (iv_lit (l := 5) (h := 5) (by decide)) (by decide)) hx1 (iv_w (iv_shl1 (l := 1) (h := 16) (iv_lit (l := 1) (h := 1) (by decide)) (iv_lta (l := 0) (h := 4) (r_nle c1) hx2 (iv_lit (l := 5) (h := 5) (by decide)) (by decide)) (by decide)) (by decide)) x2.toInt (Int.le_refl _) (fun u0 u1 hq g0 g1 => ih u0 u1 (ms_up hm hq) g0 g1) hpost
  exact loop _ _ _ (ms_init_up _ _) hx1 hx2
set_option maxRecDepth 20000 in
theorem s_m_doneFor_0 {a_lands : Nat → Int32} {f_land : Int32} {f_huts : Int32} {f_singers : Int32} {a_at : Nat → Int32} {a_knows : Nat → Int32} {a_snow : Nat → Int32} {a_level : Nat → Int32} {f_begun : Int32} {post : Int32 → Prop} (k_a_lands : mLand a_lands) (k_f_land : iv 0 1 f_land) (k_f_huts : iv 0 9 f_huts) (k_f_singers : iv 0 6 f_singers) (k_a_at : ∀ j, iv 0 8 (a_at j)) (k_a_knows : ∀ j, iv 0 31 (a_knows j)) (k_a_level : ∀ j, iv (-9) 108 (a_level j)) (k_f_begun : iv 0 31 f_begun) (hpost : ∀ (r : Int32), iv 0 31 r → post r) : q_m_doneFor_0 a_lands f_land f_huts f_singers a_at a_knows a_snow a_level f_begun post := by
  exact s_m_doneFor_4 k_a_lands k_f_land k_f_huts k_f_singers k_a_at k_a_knows k_a_level k_f_begun (iv_w (iv_lit (l := 0) (h := 0) (by decide)) (by decide)) (iv_w (iv_lit (l := 0) (h := 0) (by decide)) (by decide)) hpost
-- m_fame
set_option maxRecDepth 20000 in
theorem s_m_fame_31 {P4 : Int32 → Int32 → Prop} {f_singers : Int32} {a_knows : Nat → Int32} {x1 : Int32} {x3 : Int32} {y0 : Int32} {y1 : Int32} {post : Int32 → Prop} (k_f_singers : iv 1 6 f_singers) (k_a_knows : ∀ j, iv 0 31 (a_knows j)) (hx1 : iv 0 4 x1) (hx3 : iv 0 5 x3) (hy1 : iv 0 1 y1) (m4 : Int) (hm4 : m4 ≤ x3.toInt) (hP4 : ∀ (x2 : Int32) (x3 : Int32), m4 < x3.toInt → iv 0 6 x3 → P4 x2 x3) (hpost : ∀ (r : Int32), post r) : q_m_fame_31 P4 f_singers a_knows x1 x3 y0 y1 post := by
  intro w1 ew1
  intro w2 ew2
  have hw2 := iv_eq ew2 (iv_add (l := 1) (h := 6) hx3 (iv_lit (l := 1) (h := 1) (by decide)) (by decide))
  exact hP4 _ _ (ml_up hm4 (inc_lt ew2 hx3 (by decide))) (iv_w hw2 (by decide))
set_option maxRecDepth 20000 in
theorem s_m_fame_4 {f_singers : Int32} {a_knows : Nat → Int32} {x1 : Int32} {x2 : Int32} {x3 : Int32} {post : Int32 → Prop} (k_f_singers : iv 0 6 f_singers) (k_a_knows : ∀ j, iv 0 31 (a_knows j)) (hx1 : iv 0 4 x1) (hx3 : iv 0 6 x3) (hpost : ∀ (r : Int32), post r) : q_m_fame_4 f_singers a_knows x1 x2 x3 post := by
  intro P hP
  have loop : ∀ (n : Nat) (x2 : Int32) (x3 : Int32), (6 - x3.toInt < (n : Int)) → (iv 0 6 x3) → P x2 x3 := by
    intro n
    induction n with
    | zero => intro x2 x3 hm hx3; exact (ms0_up hm hx3).elim
    | succ n ih =>
      intro x2 x3 hm hx3
      apply hP
      refine ⟨fun c1 => ?_, fun c1 => ?_⟩
      · skip
        exact hpost _
      · skip
        refine ⟨iv_in (iv_lta (l := 0) (h := 5) (r_nle c1) hx3 k_f_singers (by decide)) (by decide), ?_⟩
        refine ⟨fun c2 => ?_, fun c2 => ?_⟩
        · skip
          refine ⟨fun c3 => ?_, fun c3 => ?_⟩
          · skip
            exact s_m_fame_31 (iv_ltb (l := 1) (h := 6) (r_nle c1) hx3 k_f_singers (by decide)) k_a_knows hx1 (iv_lta (l := 0) (h := 5) (r_nle c1) hx3 k_f_singers (by decide)) (iv_w (iv_lit (l := 0) (h := 0) (by decide)) (by decide)) x3.toInt (Int.le_refl _) (fun u0 u1 hq g0 => ih u0 u1 (ms_up hm hq) g0) hpost
          · skip
            exact (iv_emp (iv_ne (l := 1) (h := 0) c3 (iv_lit (l := 0) (h := 0) (by decide)) (iv_lit (l := 0) (h := 0) (by decide)) (by decide)) (by decide)).elim
        · skip
          refine ⟨fun c4 => ?_, fun c4 => ?_⟩
          · skip
            exact (iv_emp (iv_eqa (l := 1) (h := 0) c4 (iv_lit (l := 1) (h := 1) (by decide)) (iv_lit (l := 0) (h := 0) (by decide)) (by decide)) (by decide)).elim
          · skip
            exact s_m_fame_31 (iv_ltb (l := 1) (h := 6) (r_nle c1) hx3 k_f_singers (by decide)) k_a_knows hx1 (iv_lta (l := 0) (h := 5) (r_nle c1) hx3 k_f_singers (by decide)) (iv_w (iv_lit (l := 1) (h := 1) (by decide)) (by decide)) x3.toInt (Int.le_refl _) (fun u0 u1 hq g0 => ih u0 u1 (ms_up hm hq) g0) hpost
  exact loop _ _ _ (ms_init_up _ _) hx3
set_option maxRecDepth 20000 in
theorem s_m_fame_0 {f_singers : Int32} {a_knows : Nat → Int32} {x1 : Int32} {post : Int32 → Prop} (k_f_singers : iv 0 6 f_singers) (k_a_knows : ∀ j, iv 0 31 (a_knows j)) (hx1 : iv 0 4 x1) (hpost : ∀ (r : Int32), post r) : q_m_fame_0 f_singers a_knows x1 post := by
  exact s_m_fame_4 k_f_singers k_a_knows hx1 (iv_w (iv_lit (l := 0) (h := 0) (by decide)) (by decide)) hpost
-- m_seers
set_option maxRecDepth 20000 in
theorem s_m_seers_36 {P4 : Int32 → Int32 → Prop} {f_singers : Int32} {a_knows : Nat → Int32} {f_begun : Int32} {x2 : Int32} {y0 : Int32} {y1 : Int32} {post : Int32 → Prop} (k_f_singers : iv 1 6 f_singers) (k_a_knows : ∀ j, iv 0 31 (a_knows j)) (k_f_begun : iv 0 31 f_begun) (hx2 : iv 0 5 x2) (hy0 : iv 0 63 y0) (hy1 : iv 0 32 y1) (m4 : Int) (hm4 : m4 ≤ x2.toInt) (hP4 : ∀ (x1 : Int32) (x2 : Int32), m4 < x2.toInt → iv 0 63 x1 → iv 0 6 x2 → P4 x1 x2) (hpost : ∀ (r : Int32), iv 0 63 r → post r) : q_m_seers_36 P4 f_singers a_knows f_begun x2 y0 y1 post := by
  intro w1 ew1
  have hw1 := iv_eq ew1 (iv_or 6 (l := 0) (h := 63) hy0 hy1 (by decide))
  intro w2 ew2
  have hw2 := iv_eq ew2 (iv_add (l := 1) (h := 6) hx2 (iv_lit (l := 1) (h := 1) (by decide)) (by decide))
  exact hP4 _ _ (ml_up hm4 (inc_lt ew2 hx2 (by decide))) hw1 (iv_w hw2 (by decide))
set_option maxRecDepth 20000 in
theorem s_m_seers_4 {f_singers : Int32} {a_knows : Nat → Int32} {f_begun : Int32} {x1 : Int32} {x2 : Int32} {post : Int32 → Prop} (k_f_singers : iv 0 6 f_singers) (k_a_knows : ∀ j, iv 0 31 (a_knows j)) (k_f_begun : iv 0 31 f_begun) (hx1 : iv 0 63 x1) (hx2 : iv 0 6 x2) (hpost : ∀ (r : Int32), iv 0 63 r → post r) : q_m_seers_4 f_singers a_knows f_begun x1 x2 post := by
  intro P hP
  have loop : ∀ (n : Nat) (x1 : Int32) (x2 : Int32), (6 - x2.toInt < (n : Int)) → (iv 0 63 x1) → (iv 0 6 x2) → P x1 x2 := by
    intro n
    induction n with
    | zero => intro x1 x2 hm hx1 hx2; exact (ms0_up hm hx2).elim
    | succ n ih =>
      intro x1 x2 hm hx1 hx2
      apply hP
      refine ⟨fun c1 => ?_, fun c1 => ?_⟩
      · skip
        exact hpost _ hx1
      · skip
        refine ⟨iv_in (iv_lta (l := 0) (h := 5) (r_nle c1) hx2 k_f_singers (by decide)) (by decide), ?_⟩
        refine ⟨fun c2 => ?_, fun c2 => ?_⟩
        · skip
          exact s_m_seers_36 (iv_ltb (l := 1) (h := 6) (r_nle c1) hx2 k_f_singers (by decide)) k_a_knows k_f_begun (iv_lta (l := 0) (h := 5) (r_nle c1) hx2 k_f_singers (by decide)) hx1 (iv_w (iv_lit (l := 0) (h := 0) (by decide)) (by decide)) x2.toInt (Int.le_refl _) (fun u0 u1 hq g0 g1 => ih u0 u1 (ms_up hm hq) g0 g1) hpost
        · skip
          exact s_m_seers_36 (iv_ltb (l := 1) (h := 6) (r_nle c1) hx2 k_f_singers (by decide)) k_a_knows k_f_begun (iv_lta (l := 0) (h := 5) (r_nle c1) hx2 k_f_singers (by decide)) hx1 (iv_w (iv_shl1 (l := 1) (h := 32) (iv_lit (l := 1) (h := 1) (by decide)) (iv_lta (l := 0) (h := 5) (r_nle c1) hx2 k_f_singers (by decide)) (by decide)) (by decide)) x2.toInt (Int.le_refl _) (fun u0 u1 hq g0 g1 => ih u0 u1 (ms_up hm hq) g0 g1) hpost
  exact loop _ _ _ (ms_init_up _ _) hx1 hx2
set_option maxRecDepth 20000 in
theorem s_m_seers_0 {f_singers : Int32} {a_knows : Nat → Int32} {f_begun : Int32} {post : Int32 → Prop} (k_f_singers : iv 0 6 f_singers) (k_a_knows : ∀ j, iv 0 31 (a_knows j)) (k_f_begun : iv 0 31 f_begun) (hpost : ∀ (r : Int32), iv 0 63 r → post r) : q_m_seers_0 f_singers a_knows f_begun post := by
  exact s_m_seers_4 k_f_singers k_a_knows k_f_begun (iv_w (iv_lit (l := 0) (h := 0) (by decide)) (by decide)) (iv_w (iv_lit (l := 0) (h := 0) (by decide)) (by decide)) hpost
-- m_ofSinger
set_option maxRecDepth 20000 in
theorem s_m_ofSinger_0 {a_lands : Nat → Int32} {f_land : Int32} {f_singers : Int32} {a_at : Nat → Int32} {a_knows : Nat → Int32} {a_climbed : Nat → Int32} {x1 : Int32} {post : Int32 → Prop} (k_a_lands : mLand a_lands) (k_f_land : iv 0 1 f_land) (k_f_singers : iv 0 6 f_singers) (k_a_at : ∀ j, iv 0 8 (a_at j)) (k_a_knows : ∀ j, iv 0 31 (a_knows j)) (k_a_climbed : ∀ j, iv 0 1 (a_climbed j)) (hx1 : iv 30 69 x1) (hpost : ∀ (r : Int32), iv (-1000) 108 r → post r) : q_m_ofSinger_0 a_lands f_land f_singers a_at a_knows a_climbed x1 post := by
  intro w1 ew1
  have hw1 := iv_eq ew1 (iv_rem (l := 0) (h := 9) hx1 (iv_lit (l := 10) (h := 10) (by decide)) (by decide))
  refine ⟨fun c2 => ?_, fun c2 => ?_⟩
  · skip
    exact (iv_emp (iv_lta (l := 0) (h := (-1)) (r_lt c2) hw1 (iv_lit (l := 0) (h := 0) (by decide)) (by decide)) (by decide)).elim
  · skip
    refine ⟨fun c3 => ?_, fun c3 => ?_⟩
    · skip
      refine ⟨iv_nb (iv_lit (l := 0) (h := 0) (by decide)) (by decide), ?_⟩
      refine ⟨fun c4 => ?_, fun c4 => ?_⟩
      · skip
        exact (iv_emp (iv_ne (l := 1) (h := 0) c4 (iv_lit (l := 0) (h := 0) (by decide)) (iv_lit (l := 0) (h := 0) (by decide)) (by decide)) (by decide)).elim
      · skip
        exact hpost _ (iv_w (iv_lit (l := (-1000)) (h := (-1000)) (by decide)) (by decide))
    · skip
      refine ⟨iv_nb (iv_lit (l := 1) (h := 1) (by decide)) (by decide), ?_⟩
      refine ⟨fun c5 => ?_, fun c5 => ?_⟩
      · skip
        refine ⟨fun c6 => ?_, fun c6 => ?_, fun c6 => ?_, fun c6 => ?_⟩
        · skip
          refine ⟨iv_in (iv_lea (l := 0) (h := 5) (r_nlt c3) hw1 (iv_sub (l := (-1)) (h := 5) k_f_singers (iv_lit (l := 1) (h := 1) (by decide)) (by decide)) (by decide)) (by decide), ?_⟩
          refine sp_of (a := 0) (b := 99) k_a_lands k_f_land (iv_add (l := 7) (h := 15) (iv_lit (l := 7) (h := 7) (by decide)) (k_a_at _) (by decide)) (by decide +kernel) (fun r7 hr7 er7 => ?_)
          refine sp_of (a := 0) (b := 9) k_a_lands k_f_land (iv_add (l := 31) (h := 36) (iv_lit (l := 31) (h := 31) (by decide)) (iv_lea (l := 0) (h := 5) (r_nlt c3) hw1 (iv_sub (l := (-1)) (h := 5) k_f_singers (iv_lit (l := 1) (h := 1) (by decide)) (by decide)) (by decide)) (by decide)) (by decide +kernel) (fun r8 hr8 er8 => ?_)
          refine ⟨iv_in (iv_lea (l := 0) (h := 5) (r_nlt c3) hw1 (iv_sub (l := (-1)) (h := 5) k_f_singers (iv_lit (l := 1) (h := 1) (by decide)) (by decide)) (by decide)) (by decide), ?_⟩
          refine ⟨iv_in (iv_lea (l := 0) (h := 5) (r_nlt c3) hw1 (iv_sub (l := (-1)) (h := 5) k_f_singers (iv_lit (l := 1) (h := 1) (by decide)) (by decide)) (by decide)) (by decide), ?_⟩
          refine sp_of (a := 0) (b := 9) k_a_lands k_f_land (iv_add (l := 16) (h := 24) (iv_lit (l := 16) (h := 16) (by decide)) (k_a_at _) (by decide)) (by decide +kernel) (fun r9 hr9 er9 => ?_)
          exact hpost _ (iv_w (iv_add (l := (-9)) (h := 108) (iv_sub (l := (-9)) (h := 99) hr7 hr8 (by decide)) (iv_mul (l := 0) (h := 9) (k_a_climbed _) hr9 (by decide)) (by decide)) (by decide))
        · skip
          refine ⟨iv_in (iv_lea (l := 0) (h := 5) (r_nlt c3) hw1 (iv_sub (l := (-1)) (h := 5) k_f_singers (iv_lit (l := 1) (h := 1) (by decide)) (by decide)) (by decide)) (by decide), ?_⟩
          exact hpost _ (iv_w (k_a_at _) (by decide))
        · skip
          refine ⟨iv_in (iv_lea (l := 0) (h := 5) (r_nlt c3) hw1 (iv_sub (l := (-1)) (h := 5) k_f_singers (iv_lit (l := 1) (h := 1) (by decide)) (by decide)) (by decide)) (by decide), ?_⟩
          exact hpost _ (iv_w (k_a_knows _) (by decide))
        · skip
          refine ⟨iv_in (iv_lea (l := 0) (h := 5) (r_nlt c3) hw1 (iv_sub (l := (-1)) (h := 5) k_f_singers (iv_lit (l := 1) (h := 1) (by decide)) (by decide)) (by decide)) (by decide), ?_⟩
          exact hpost _ (iv_w (k_a_climbed _) (by decide))
      · skip
        exact (iv_emp (iv_eqa (l := 1) (h := 0) c5 (iv_lit (l := 1) (h := 1) (by decide)) (iv_lit (l := 0) (h := 0) (by decide)) (by decide)) (by decide)).elim
-- m_ofState
set_option maxRecDepth 20000 in
theorem s_m_ofState_0 {a_lands : Nat → Int32} {f_land : Int32} {f_huts : Int32} {f_singers : Int32} {a_at : Nat → Int32} {a_knows : Nat → Int32} {a_climbed : Nat → Int32} {a_snow : Nat → Int32} {a_level : Nat → Int32} {f_begun : Int32} {f_minute : Int32} {f_avalanches : Int32} {x1 : Int32} {post : Int32 → Prop} (k_a_lands : mLand a_lands) (k_f_land : iv 0 1 f_land) (k_f_huts : iv 0 9 f_huts) (k_f_singers : iv 0 6 f_singers) (k_a_at : ∀ j, iv 0 8 (a_at j)) (k_a_knows : ∀ j, iv 0 31 (a_knows j)) (k_a_climbed : ∀ j, iv 0 1 (a_climbed j)) (k_a_level : ∀ j, iv (-9) 108 (a_level j)) (k_f_begun : iv 0 31 f_begun) (hpost : ∀ (r : Int32), post r) : q_m_ofState_0 a_lands f_land f_huts f_singers a_at a_knows a_climbed a_snow a_level f_begun f_minute f_avalanches x1 post := by
  refine ⟨fun c1 => ?_, fun c1 => ?_⟩
  · skip
    refine ⟨fun c2 => ?_, fun c2 => ?_⟩
    · skip
      refine ⟨fun c3 => ?_, fun c3 => ?_⟩
      · skip
        refine ⟨fun c4 => ?_, fun c4 => ?_⟩
        · skip
          refine ⟨fun c5 => ?_, fun c5 => ?_⟩
          · skip
            refine ⟨fun c6 => ?_, fun c6 => ?_⟩
            · skip
              refine ⟨fun c7 => ?_, fun c7 => ?_⟩
              · skip
                refine ⟨fun c8 => ?_, fun c8 => ?_⟩
                · skip
                  refine ⟨fun c9 => ?_, fun c9 => ?_, fun c9 => ?_, fun c9 => ?_, fun c9 => ?_, fun c9 => ?_⟩
                  · skip
                    exact hpost _
                  · skip
                    exact hpost _
                  · skip
                    exact hpost _
                  · skip
                    refine s_m_seers_0 k_f_singers k_a_knows k_f_begun (fun r10 hr10 => ?_)
                    exact hpost _
                  · skip
                    exact hpost _
                  · skip
                    refine s_m_doneFor_0 k_a_lands k_f_land k_f_huts k_f_singers k_a_at k_a_knows k_a_level k_f_begun (fun r11 hr11 => ?_)
                    exact hpost _
                · skip
                  exact (iv_emp (iv_ne (l := 1) (h := 0) c8 (iv_lit (l := 0) (h := 0) (by decide)) (iv_lit (l := 0) (h := 0) (by decide)) (by decide)) (by decide)).elim
              · skip
                exact (iv_emp (iv_lea (l := 70) (h := 9) (r_nlt c7) (iv_lit (l := 70) (h := 70) (by decide)) (iv_lta (l := (-2147483648)) (h := 9) (r_lt c1) (iv_top x1) (iv_lit (l := 10) (h := 10) (by decide)) (by decide)) (by decide)) (by decide)).elim
            · skip
              exact (iv_emp (iv_ne (l := 1) (h := 0) c6 (iv_lit (l := 0) (h := 0) (by decide)) (iv_lit (l := 0) (h := 0) (by decide)) (by decide)) (by decide)).elim
          · skip
            exact (iv_emp (iv_lea (l := 30) (h := 9) (r_nlt c5) (iv_lit (l := 30) (h := 30) (by decide)) (iv_lta (l := (-2147483648)) (h := 9) (r_lt c1) (iv_top x1) (iv_lit (l := 10) (h := 10) (by decide)) (by decide)) (by decide)) (by decide)).elim
        · skip
          exact (iv_emp (iv_ne (l := 1) (h := 0) c4 (iv_lit (l := 0) (h := 0) (by decide)) (iv_lit (l := 0) (h := 0) (by decide)) (by decide)) (by decide)).elim
      · skip
        exact (iv_emp (iv_lea (l := 20) (h := 9) (r_nlt c3) (iv_lit (l := 20) (h := 20) (by decide)) (iv_lta (l := (-2147483648)) (h := 9) (r_lt c1) (iv_top x1) (iv_lit (l := 10) (h := 10) (by decide)) (by decide)) (by decide)) (by decide)).elim
    · skip
      exact (iv_emp (iv_ne (l := 1) (h := 0) c2 (iv_lit (l := 0) (h := 0) (by decide)) (iv_lit (l := 0) (h := 0) (by decide)) (by decide)) (by decide)).elim
  · skip
    refine ⟨fun c12 => ?_, fun c12 => ?_⟩
    · skip
      refine ⟨fun c13 => ?_, fun c13 => ?_⟩
      · skip
        refine ⟨fun c14 => ?_, fun c14 => ?_⟩
        · skip
          refine ⟨fun c15 => ?_, fun c15 => ?_⟩
          · skip
            refine ⟨fun c16 => ?_, fun c16 => ?_⟩
            · skip
              refine ⟨fun c17 => ?_, fun c17 => ?_⟩
              · skip
                refine ⟨fun c18 => ?_, fun c18 => ?_⟩
                · skip
                  refine ⟨fun c19 => ?_, fun c19 => ?_⟩
                  · skip
                    refine ⟨fun c20 => ?_, fun c20 => ?_, fun c20 => ?_, fun c20 => ?_, fun c20 => ?_, fun c20 => ?_⟩
                    · skip
                      exact hpost _
                    · skip
                      exact (iv_emp (iv_eqa (l := 15) (h := 0) c20 (iv_lta (l := 15) (h := 19) (r_lt c14) (iv_ltb (l := 15) (h := 2147483647) (r_lt c12) (iv_lit (l := 14) (h := 14) (by decide)) (iv_leb (l := 10) (h := 2147483647) (r_nlt c1) (iv_lit (l := 10) (h := 10) (by decide)) (iv_top x1) (by decide)) (by decide)) (iv_lit (l := 20) (h := 20) (by decide)) (by decide)) (iv_lit (l := 0) (h := 0) (by decide)) (by decide)) (by decide)).elim
                    · skip
                      exact (iv_emp (iv_eqa (l := 15) (h := 1) c20 (iv_lta (l := 15) (h := 19) (r_lt c14) (iv_ltb (l := 15) (h := 2147483647) (r_lt c12) (iv_lit (l := 14) (h := 14) (by decide)) (iv_leb (l := 10) (h := 2147483647) (r_nlt c1) (iv_lit (l := 10) (h := 10) (by decide)) (iv_top x1) (by decide)) (by decide)) (iv_lit (l := 20) (h := 20) (by decide)) (by decide)) (iv_lit (l := 1) (h := 1) (by decide)) (by decide)) (by decide)).elim
                    · skip
                      exact (iv_emp (iv_eqa (l := 15) (h := 2) c20 (iv_lta (l := 15) (h := 19) (r_lt c14) (iv_ltb (l := 15) (h := 2147483647) (r_lt c12) (iv_lit (l := 14) (h := 14) (by decide)) (iv_leb (l := 10) (h := 2147483647) (r_nlt c1) (iv_lit (l := 10) (h := 10) (by decide)) (iv_top x1) (by decide)) (by decide)) (iv_lit (l := 20) (h := 20) (by decide)) (by decide)) (iv_lit (l := 2) (h := 2) (by decide)) (by decide)) (by decide)).elim
                    · skip
                      exact (iv_emp (iv_eqa (l := 15) (h := 3) c20 (iv_lta (l := 15) (h := 19) (r_lt c14) (iv_ltb (l := 15) (h := 2147483647) (r_lt c12) (iv_lit (l := 14) (h := 14) (by decide)) (iv_leb (l := 10) (h := 2147483647) (r_nlt c1) (iv_lit (l := 10) (h := 10) (by decide)) (iv_top x1) (by decide)) (by decide)) (iv_lit (l := 20) (h := 20) (by decide)) (by decide)) (iv_lit (l := 3) (h := 3) (by decide)) (by decide)) (by decide)).elim
                    · skip
                      exact (iv_emp (iv_eqa (l := 15) (h := 4) c20 (iv_lta (l := 15) (h := 19) (r_lt c14) (iv_ltb (l := 15) (h := 2147483647) (r_lt c12) (iv_lit (l := 14) (h := 14) (by decide)) (iv_leb (l := 10) (h := 2147483647) (r_nlt c1) (iv_lit (l := 10) (h := 10) (by decide)) (iv_top x1) (by decide)) (by decide)) (iv_lit (l := 20) (h := 20) (by decide)) (by decide)) (iv_lit (l := 4) (h := 4) (by decide)) (by decide)) (by decide)).elim
                  · skip
                    exact (iv_emp (iv_ne (l := 1) (h := 0) c19 (iv_lit (l := 0) (h := 0) (by decide)) (iv_lit (l := 0) (h := 0) (by decide)) (by decide)) (by decide)).elim
                · skip
                  exact (iv_emp (iv_lea (l := 70) (h := 19) (r_nlt c18) (iv_lit (l := 70) (h := 70) (by decide)) (iv_lta (l := 15) (h := 19) (r_lt c14) (iv_ltb (l := 15) (h := 2147483647) (r_lt c12) (iv_lit (l := 14) (h := 14) (by decide)) (iv_leb (l := 10) (h := 2147483647) (r_nlt c1) (iv_lit (l := 10) (h := 10) (by decide)) (iv_top x1) (by decide)) (by decide)) (iv_lit (l := 20) (h := 20) (by decide)) (by decide)) (by decide)) (by decide)).elim
              · skip
                exact (iv_emp (iv_ne (l := 1) (h := 0) c17 (iv_lit (l := 0) (h := 0) (by decide)) (iv_lit (l := 0) (h := 0) (by decide)) (by decide)) (by decide)).elim
            · skip
              exact (iv_emp (iv_lea (l := 30) (h := 19) (r_nlt c16) (iv_lit (l := 30) (h := 30) (by decide)) (iv_lta (l := 15) (h := 19) (r_lt c14) (iv_ltb (l := 15) (h := 2147483647) (r_lt c12) (iv_lit (l := 14) (h := 14) (by decide)) (iv_leb (l := 10) (h := 2147483647) (r_nlt c1) (iv_lit (l := 10) (h := 10) (by decide)) (iv_top x1) (by decide)) (by decide)) (iv_lit (l := 20) (h := 20) (by decide)) (by decide)) (by decide)) (by decide)).elim
          · skip
            exact (iv_emp (iv_ne (l := 1) (h := 0) c15 (iv_lit (l := 0) (h := 0) (by decide)) (iv_lit (l := 0) (h := 0) (by decide)) (by decide)) (by decide)).elim
        · skip
          refine ⟨fun c21 => ?_, fun c21 => ?_⟩
          · skip
            refine ⟨fun c22 => ?_, fun c22 => ?_⟩
            · skip
              refine ⟨fun c23 => ?_, fun c23 => ?_⟩
              · skip
                refine ⟨fun c24 => ?_, fun c24 => ?_⟩
                · skip
                  refine ⟨fun c25 => ?_, fun c25 => ?_⟩
                  · skip
                    refine ⟨fun c26 => ?_, fun c26 => ?_⟩
                    · skip
                      refine ⟨fun c27 => ?_, fun c27 => ?_, fun c27 => ?_, fun c27 => ?_, fun c27 => ?_, fun c27 => ?_⟩
                      · skip
                        exact hpost _
                      · skip
                        exact (iv_emp (iv_eqa (l := 25) (h := 0) c27 (iv_lta (l := 25) (h := 29) (r_lt c23) (iv_ltb (l := 25) (h := 2147483647) (r_lt c21) (iv_lit (l := 24) (h := 24) (by decide)) (iv_leb (l := 20) (h := 2147483647) (r_nlt c14) (iv_lit (l := 20) (h := 20) (by decide)) (iv_ltb (l := 15) (h := 2147483647) (r_lt c12) (iv_lit (l := 14) (h := 14) (by decide)) (iv_leb (l := 10) (h := 2147483647) (r_nlt c1) (iv_lit (l := 10) (h := 10) (by decide)) (iv_top x1) (by decide)) (by decide)) (by decide)) (by decide)) (iv_lit (l := 30) (h := 30) (by decide)) (by decide)) (iv_lit (l := 0) (h := 0) (by decide)) (by decide)) (by decide)).elim
                      · skip
                        exact (iv_emp (iv_eqa (l := 25) (h := 1) c27 (iv_lta (l := 25) (h := 29) (r_lt c23) (iv_ltb (l := 25) (h := 2147483647) (r_lt c21) (iv_lit (l := 24) (h := 24) (by decide)) (iv_leb (l := 20) (h := 2147483647) (r_nlt c14) (iv_lit (l := 20) (h := 20) (by decide)) (iv_ltb (l := 15) (h := 2147483647) (r_lt c12) (iv_lit (l := 14) (h := 14) (by decide)) (iv_leb (l := 10) (h := 2147483647) (r_nlt c1) (iv_lit (l := 10) (h := 10) (by decide)) (iv_top x1) (by decide)) (by decide)) (by decide)) (by decide)) (iv_lit (l := 30) (h := 30) (by decide)) (by decide)) (iv_lit (l := 1) (h := 1) (by decide)) (by decide)) (by decide)).elim
                      · skip
                        exact (iv_emp (iv_eqa (l := 25) (h := 2) c27 (iv_lta (l := 25) (h := 29) (r_lt c23) (iv_ltb (l := 25) (h := 2147483647) (r_lt c21) (iv_lit (l := 24) (h := 24) (by decide)) (iv_leb (l := 20) (h := 2147483647) (r_nlt c14) (iv_lit (l := 20) (h := 20) (by decide)) (iv_ltb (l := 15) (h := 2147483647) (r_lt c12) (iv_lit (l := 14) (h := 14) (by decide)) (iv_leb (l := 10) (h := 2147483647) (r_nlt c1) (iv_lit (l := 10) (h := 10) (by decide)) (iv_top x1) (by decide)) (by decide)) (by decide)) (by decide)) (iv_lit (l := 30) (h := 30) (by decide)) (by decide)) (iv_lit (l := 2) (h := 2) (by decide)) (by decide)) (by decide)).elim
                      · skip
                        exact (iv_emp (iv_eqa (l := 25) (h := 3) c27 (iv_lta (l := 25) (h := 29) (r_lt c23) (iv_ltb (l := 25) (h := 2147483647) (r_lt c21) (iv_lit (l := 24) (h := 24) (by decide)) (iv_leb (l := 20) (h := 2147483647) (r_nlt c14) (iv_lit (l := 20) (h := 20) (by decide)) (iv_ltb (l := 15) (h := 2147483647) (r_lt c12) (iv_lit (l := 14) (h := 14) (by decide)) (iv_leb (l := 10) (h := 2147483647) (r_nlt c1) (iv_lit (l := 10) (h := 10) (by decide)) (iv_top x1) (by decide)) (by decide)) (by decide)) (by decide)) (iv_lit (l := 30) (h := 30) (by decide)) (by decide)) (iv_lit (l := 3) (h := 3) (by decide)) (by decide)) (by decide)).elim
                      · skip
                        exact (iv_emp (iv_eqa (l := 25) (h := 4) c27 (iv_lta (l := 25) (h := 29) (r_lt c23) (iv_ltb (l := 25) (h := 2147483647) (r_lt c21) (iv_lit (l := 24) (h := 24) (by decide)) (iv_leb (l := 20) (h := 2147483647) (r_nlt c14) (iv_lit (l := 20) (h := 20) (by decide)) (iv_ltb (l := 15) (h := 2147483647) (r_lt c12) (iv_lit (l := 14) (h := 14) (by decide)) (iv_leb (l := 10) (h := 2147483647) (r_nlt c1) (iv_lit (l := 10) (h := 10) (by decide)) (iv_top x1) (by decide)) (by decide)) (by decide)) (by decide)) (iv_lit (l := 30) (h := 30) (by decide)) (by decide)) (iv_lit (l := 4) (h := 4) (by decide)) (by decide)) (by decide)).elim
                    · skip
                      exact (iv_emp (iv_ne (l := 1) (h := 0) c26 (iv_lit (l := 0) (h := 0) (by decide)) (iv_lit (l := 0) (h := 0) (by decide)) (by decide)) (by decide)).elim
                  · skip
                    exact (iv_emp (iv_lea (l := 70) (h := 29) (r_nlt c25) (iv_lit (l := 70) (h := 70) (by decide)) (iv_lta (l := 25) (h := 29) (r_lt c23) (iv_ltb (l := 25) (h := 2147483647) (r_lt c21) (iv_lit (l := 24) (h := 24) (by decide)) (iv_leb (l := 20) (h := 2147483647) (r_nlt c14) (iv_lit (l := 20) (h := 20) (by decide)) (iv_ltb (l := 15) (h := 2147483647) (r_lt c12) (iv_lit (l := 14) (h := 14) (by decide)) (iv_leb (l := 10) (h := 2147483647) (r_nlt c1) (iv_lit (l := 10) (h := 10) (by decide)) (iv_top x1) (by decide)) (by decide)) (by decide)) (by decide)) (iv_lit (l := 30) (h := 30) (by decide)) (by decide)) (by decide)) (by decide)).elim
                · skip
                  exact (iv_emp (iv_ne (l := 1) (h := 0) c24 (iv_lit (l := 0) (h := 0) (by decide)) (iv_lit (l := 0) (h := 0) (by decide)) (by decide)) (by decide)).elim
              · skip
                refine ⟨fun c28 => ?_, fun c28 => ?_⟩
                · skip
                  refine ⟨fun c29 => ?_, fun c29 => ?_⟩
                  · skip
                    refine ⟨fun c30 => ?_, fun c30 => ?_⟩
                    · skip
                      exact (iv_emp (iv_lta (l := 70) (h := 69) (r_lt c30) (iv_ltb (l := 70) (h := 2147483647) (r_lt c28) (iv_lit (l := 69) (h := 69) (by decide)) (iv_leb (l := 30) (h := 2147483647) (r_nlt c23) (iv_lit (l := 30) (h := 30) (by decide)) (iv_ltb (l := 25) (h := 2147483647) (r_lt c21) (iv_lit (l := 24) (h := 24) (by decide)) (iv_leb (l := 20) (h := 2147483647) (r_nlt c14) (iv_lit (l := 20) (h := 20) (by decide)) (iv_ltb (l := 15) (h := 2147483647) (r_lt c12) (iv_lit (l := 14) (h := 14) (by decide)) (iv_leb (l := 10) (h := 2147483647) (r_nlt c1) (iv_lit (l := 10) (h := 10) (by decide)) (iv_top x1) (by decide)) (by decide)) (by decide)) (by decide)) (by decide)) (by decide)) (iv_lit (l := 70) (h := 70) (by decide)) (by decide)) (by decide)).elim
                    · skip
                      refine ⟨fun c31 => ?_, fun c31 => ?_⟩
                      · skip
                        refine ⟨fun c32 => ?_, fun c32 => ?_⟩
                        · skip
                          refine ⟨fun c33 => ?_, fun c33 => ?_, fun c33 => ?_, fun c33 => ?_, fun c33 => ?_, fun c33 => ?_⟩
                          · skip
                            exact hpost _
                          · skip
                            exact (iv_emp (iv_eqa (l := 80) (h := 0) c33 (iv_ltb (l := 80) (h := 2147483647) (r_lt c31) (iv_lit (l := 79) (h := 79) (by decide)) (iv_ltb (l := 70) (h := 2147483647) (r_lt c28) (iv_lit (l := 69) (h := 69) (by decide)) (iv_leb (l := 30) (h := 2147483647) (r_nlt c23) (iv_lit (l := 30) (h := 30) (by decide)) (iv_ltb (l := 25) (h := 2147483647) (r_lt c21) (iv_lit (l := 24) (h := 24) (by decide)) (iv_leb (l := 20) (h := 2147483647) (r_nlt c14) (iv_lit (l := 20) (h := 20) (by decide)) (iv_ltb (l := 15) (h := 2147483647) (r_lt c12) (iv_lit (l := 14) (h := 14) (by decide)) (iv_leb (l := 10) (h := 2147483647) (r_nlt c1) (iv_lit (l := 10) (h := 10) (by decide)) (iv_top x1) (by decide)) (by decide)) (by decide)) (by decide)) (by decide)) (by decide)) (by decide)) (iv_lit (l := 0) (h := 0) (by decide)) (by decide)) (by decide)).elim
                          · skip
                            exact (iv_emp (iv_eqa (l := 80) (h := 1) c33 (iv_ltb (l := 80) (h := 2147483647) (r_lt c31) (iv_lit (l := 79) (h := 79) (by decide)) (iv_ltb (l := 70) (h := 2147483647) (r_lt c28) (iv_lit (l := 69) (h := 69) (by decide)) (iv_leb (l := 30) (h := 2147483647) (r_nlt c23) (iv_lit (l := 30) (h := 30) (by decide)) (iv_ltb (l := 25) (h := 2147483647) (r_lt c21) (iv_lit (l := 24) (h := 24) (by decide)) (iv_leb (l := 20) (h := 2147483647) (r_nlt c14) (iv_lit (l := 20) (h := 20) (by decide)) (iv_ltb (l := 15) (h := 2147483647) (r_lt c12) (iv_lit (l := 14) (h := 14) (by decide)) (iv_leb (l := 10) (h := 2147483647) (r_nlt c1) (iv_lit (l := 10) (h := 10) (by decide)) (iv_top x1) (by decide)) (by decide)) (by decide)) (by decide)) (by decide)) (by decide)) (by decide)) (iv_lit (l := 1) (h := 1) (by decide)) (by decide)) (by decide)).elim
                          · skip
                            exact (iv_emp (iv_eqa (l := 80) (h := 2) c33 (iv_ltb (l := 80) (h := 2147483647) (r_lt c31) (iv_lit (l := 79) (h := 79) (by decide)) (iv_ltb (l := 70) (h := 2147483647) (r_lt c28) (iv_lit (l := 69) (h := 69) (by decide)) (iv_leb (l := 30) (h := 2147483647) (r_nlt c23) (iv_lit (l := 30) (h := 30) (by decide)) (iv_ltb (l := 25) (h := 2147483647) (r_lt c21) (iv_lit (l := 24) (h := 24) (by decide)) (iv_leb (l := 20) (h := 2147483647) (r_nlt c14) (iv_lit (l := 20) (h := 20) (by decide)) (iv_ltb (l := 15) (h := 2147483647) (r_lt c12) (iv_lit (l := 14) (h := 14) (by decide)) (iv_leb (l := 10) (h := 2147483647) (r_nlt c1) (iv_lit (l := 10) (h := 10) (by decide)) (iv_top x1) (by decide)) (by decide)) (by decide)) (by decide)) (by decide)) (by decide)) (by decide)) (iv_lit (l := 2) (h := 2) (by decide)) (by decide)) (by decide)).elim
                          · skip
                            exact (iv_emp (iv_eqa (l := 80) (h := 3) c33 (iv_ltb (l := 80) (h := 2147483647) (r_lt c31) (iv_lit (l := 79) (h := 79) (by decide)) (iv_ltb (l := 70) (h := 2147483647) (r_lt c28) (iv_lit (l := 69) (h := 69) (by decide)) (iv_leb (l := 30) (h := 2147483647) (r_nlt c23) (iv_lit (l := 30) (h := 30) (by decide)) (iv_ltb (l := 25) (h := 2147483647) (r_lt c21) (iv_lit (l := 24) (h := 24) (by decide)) (iv_leb (l := 20) (h := 2147483647) (r_nlt c14) (iv_lit (l := 20) (h := 20) (by decide)) (iv_ltb (l := 15) (h := 2147483647) (r_lt c12) (iv_lit (l := 14) (h := 14) (by decide)) (iv_leb (l := 10) (h := 2147483647) (r_nlt c1) (iv_lit (l := 10) (h := 10) (by decide)) (iv_top x1) (by decide)) (by decide)) (by decide)) (by decide)) (by decide)) (by decide)) (by decide)) (iv_lit (l := 3) (h := 3) (by decide)) (by decide)) (by decide)).elim
                          · skip
                            exact (iv_emp (iv_eqa (l := 80) (h := 4) c33 (iv_ltb (l := 80) (h := 2147483647) (r_lt c31) (iv_lit (l := 79) (h := 79) (by decide)) (iv_ltb (l := 70) (h := 2147483647) (r_lt c28) (iv_lit (l := 69) (h := 69) (by decide)) (iv_leb (l := 30) (h := 2147483647) (r_nlt c23) (iv_lit (l := 30) (h := 30) (by decide)) (iv_ltb (l := 25) (h := 2147483647) (r_lt c21) (iv_lit (l := 24) (h := 24) (by decide)) (iv_leb (l := 20) (h := 2147483647) (r_nlt c14) (iv_lit (l := 20) (h := 20) (by decide)) (iv_ltb (l := 15) (h := 2147483647) (r_lt c12) (iv_lit (l := 14) (h := 14) (by decide)) (iv_leb (l := 10) (h := 2147483647) (r_nlt c1) (iv_lit (l := 10) (h := 10) (by decide)) (iv_top x1) (by decide)) (by decide)) (by decide)) (by decide)) (by decide)) (by decide)) (by decide)) (iv_lit (l := 4) (h := 4) (by decide)) (by decide)) (by decide)).elim
                        · skip
                          exact (iv_emp (iv_ne (l := 1) (h := 0) c32 (iv_lit (l := 0) (h := 0) (by decide)) (iv_lit (l := 0) (h := 0) (by decide)) (by decide)) (by decide)).elim
                      · skip
                        refine ⟨fun c34 => ?_, fun c34 => ?_⟩
                        · skip
                          exact (iv_emp (iv_eqa (l := 1) (h := 0) c34 (iv_lit (l := 1) (h := 1) (by decide)) (iv_lit (l := 0) (h := 0) (by decide)) (by decide)) (by decide)).elim
                        · skip
                          refine ⟨fun c35 => ?_, fun c35 => ?_⟩
                          · skip
                            exact (iv_emp (iv_lta (l := 0) (h := (-1)) (r_lt c35) (iv_sub (l := 0) (h := 9) (iv_lea (l := 70) (h := 79) (r_nlt c31) (iv_ltb (l := 70) (h := 2147483647) (r_lt c28) (iv_lit (l := 69) (h := 69) (by decide)) (iv_leb (l := 30) (h := 2147483647) (r_nlt c23) (iv_lit (l := 30) (h := 30) (by decide)) (iv_ltb (l := 25) (h := 2147483647) (r_lt c21) (iv_lit (l := 24) (h := 24) (by decide)) (iv_leb (l := 20) (h := 2147483647) (r_nlt c14) (iv_lit (l := 20) (h := 20) (by decide)) (iv_ltb (l := 15) (h := 2147483647) (r_lt c12) (iv_lit (l := 14) (h := 14) (by decide)) (iv_leb (l := 10) (h := 2147483647) (r_nlt c1) (iv_lit (l := 10) (h := 10) (by decide)) (iv_top x1) (by decide)) (by decide)) (by decide)) (by decide)) (by decide)) (by decide)) (iv_lit (l := 79) (h := 79) (by decide)) (by decide)) (iv_lit (l := 70) (h := 70) (by decide)) (by decide)) (iv_lit (l := 0) (h := 0) (by decide)) (by decide)) (by decide)).elim
                          · skip
                            refine ⟨fun c36 => ?_, fun c36 => ?_⟩
                            · skip
                              refine ⟨iv_nb (iv_lit (l := 0) (h := 0) (by decide)) (by decide), ?_⟩
                              refine ⟨fun c37 => ?_, fun c37 => ?_⟩
                              · skip
                                exact hpost _
                              · skip
                                exact (iv_emp (iv_ne (l := 1) (h := 0) c37 (iv_lit (l := 0) (h := 0) (by decide)) (iv_lit (l := 0) (h := 0) (by decide)) (by decide)) (by decide)).elim
                            · skip
                              refine ⟨iv_nb (iv_lit (l := 1) (h := 1) (by decide)) (by decide), ?_⟩
                              refine ⟨fun c38 => ?_, fun c38 => ?_⟩
                              · skip
                                exact (iv_emp (iv_eqa (l := 1) (h := 0) c38 (iv_lit (l := 1) (h := 1) (by decide)) (iv_lit (l := 0) (h := 0) (by decide)) (by decide)) (by decide)).elim
                              · skip
                                refine ⟨iv_in (iv_lea (l := 0) (h := 8) (r_nlt c36) (iv_sub (l := 0) (h := 9) (iv_lea (l := 70) (h := 79) (r_nlt c31) (iv_ltb (l := 70) (h := 2147483647) (r_lt c28) (iv_lit (l := 69) (h := 69) (by decide)) (iv_leb (l := 30) (h := 2147483647) (r_nlt c23) (iv_lit (l := 30) (h := 30) (by decide)) (iv_ltb (l := 25) (h := 2147483647) (r_lt c21) (iv_lit (l := 24) (h := 24) (by decide)) (iv_leb (l := 20) (h := 2147483647) (r_nlt c14) (iv_lit (l := 20) (h := 20) (by decide)) (iv_ltb (l := 15) (h := 2147483647) (r_lt c12) (iv_lit (l := 14) (h := 14) (by decide)) (iv_leb (l := 10) (h := 2147483647) (r_nlt c1) (iv_lit (l := 10) (h := 10) (by decide)) (iv_top x1) (by decide)) (by decide)) (by decide)) (by decide)) (by decide)) (by decide)) (iv_lit (l := 79) (h := 79) (by decide)) (by decide)) (iv_lit (l := 70) (h := 70) (by decide)) (by decide)) (iv_sub (l := (-1)) (h := 8) k_f_huts (iv_lit (l := 1) (h := 1) (by decide)) (by decide)) (by decide)) (by decide), ?_⟩
                                exact hpost _
                  · skip
                    exact (iv_emp (iv_ne (l := 1) (h := 0) c29 (iv_lit (l := 0) (h := 0) (by decide)) (iv_lit (l := 0) (h := 0) (by decide)) (by decide)) (by decide)).elim
                · skip
                  refine ⟨fun c39 => ?_, fun c39 => ?_⟩
                  · skip
                    exact (iv_emp (iv_eqa (l := 1) (h := 0) c39 (iv_lit (l := 1) (h := 1) (by decide)) (iv_lit (l := 0) (h := 0) (by decide)) (by decide)) (by decide)).elim
                  · skip
                    refine s_m_ofSinger_0 k_a_lands k_f_land k_f_singers k_a_at k_a_knows k_a_climbed (iv_lea (l := 30) (h := 69) (r_nlt c28) (iv_leb (l := 30) (h := 2147483647) (r_nlt c23) (iv_lit (l := 30) (h := 30) (by decide)) (iv_ltb (l := 25) (h := 2147483647) (r_lt c21) (iv_lit (l := 24) (h := 24) (by decide)) (iv_leb (l := 20) (h := 2147483647) (r_nlt c14) (iv_lit (l := 20) (h := 20) (by decide)) (iv_ltb (l := 15) (h := 2147483647) (r_lt c12) (iv_lit (l := 14) (h := 14) (by decide)) (iv_leb (l := 10) (h := 2147483647) (r_nlt c1) (iv_lit (l := 10) (h := 10) (by decide)) (iv_top x1) (by decide)) (by decide)) (by decide)) (by decide)) (by decide)) (iv_lit (l := 69) (h := 69) (by decide)) (by decide)) (fun r40 hr40 => ?_)
                    exact hpost _
            · skip
              exact (iv_emp (iv_ne (l := 1) (h := 0) c22 (iv_lit (l := 0) (h := 0) (by decide)) (iv_lit (l := 0) (h := 0) (by decide)) (by decide)) (by decide)).elim
          · skip
            refine ⟨fun c41 => ?_, fun c41 => ?_⟩
            · skip
              exact (iv_emp (iv_eqa (l := 1) (h := 0) c41 (iv_lit (l := 1) (h := 1) (by decide)) (iv_lit (l := 0) (h := 0) (by decide)) (by decide)) (by decide)).elim
            · skip
              refine s_m_fame_0 k_f_singers k_a_knows (iv_sub (l := 0) (h := 4) (iv_lea (l := 20) (h := 24) (r_nlt c21) (iv_leb (l := 20) (h := 2147483647) (r_nlt c14) (iv_lit (l := 20) (h := 20) (by decide)) (iv_ltb (l := 15) (h := 2147483647) (r_lt c12) (iv_lit (l := 14) (h := 14) (by decide)) (iv_leb (l := 10) (h := 2147483647) (r_nlt c1) (iv_lit (l := 10) (h := 10) (by decide)) (iv_top x1) (by decide)) (by decide)) (by decide)) (iv_lit (l := 24) (h := 24) (by decide)) (by decide)) (iv_lit (l := 20) (h := 20) (by decide)) (by decide)) (fun r42 => ?_)
              exact hpost _
      · skip
        exact (iv_emp (iv_ne (l := 1) (h := 0) c13 (iv_lit (l := 0) (h := 0) (by decide)) (iv_lit (l := 0) (h := 0) (by decide)) (by decide)) (by decide)).elim
    · skip
      refine ⟨fun c43 => ?_, fun c43 => ?_⟩
      · skip
        exact (iv_emp (iv_eqa (l := 1) (h := 0) c43 (iv_lit (l := 1) (h := 1) (by decide)) (iv_lit (l := 0) (h := 0) (by decide)) (by decide)) (by decide)).elim
      · skip
        refine ⟨fun c44 => ?_, fun c44 => ?_⟩
        · skip
          refine ⟨fun c45 => ?_, fun c45 => ?_⟩
          · skip
            exact hpost _
          · skip
            exact (iv_emp (iv_ne (l := 1) (h := 0) c45 (iv_lit (l := 0) (h := 0) (by decide)) (iv_lit (l := 0) (h := 0) (by decide)) (by decide)) (by decide)).elim
        · skip
          refine ⟨fun c46 => ?_, fun c46 => ?_⟩
          · skip
            exact (iv_emp (iv_eqa (l := 1) (h := 0) c46 (iv_lit (l := 1) (h := 1) (by decide)) (iv_lit (l := 0) (h := 0) (by decide)) (by decide)) (by decide)).elim
          · skip
            refine ⟨iv_in (iv_sub (l := 0) (h := 4) (iv_lea (l := 10) (h := 14) (r_nlt c12) (iv_leb (l := 10) (h := 2147483647) (r_nlt c1) (iv_lit (l := 10) (h := 10) (by decide)) (iv_top x1) (by decide)) (iv_lit (l := 14) (h := 14) (by decide)) (by decide)) (iv_lit (l := 10) (h := 10) (by decide)) (by decide)) (by decide), ?_⟩
            exact hpost _
-- m_state
set_option maxRecDepth 20000 in
theorem s_m_state_0 {f_code : Int32} {a_many : Nat → Int32} {a_lands : Nat → Int32} {a_evenings : Nat → Int32} {f_land : Int32} {f_huts : Int32} {f_singers : Int32} {f_evening : Int32} {a_at : Nat → Int32} {a_knows : Nat → Int32} {a_climbed : Nat → Int32} {a_snow : Nat → Int32} {a_level : Nat → Int32} {f_begun : Int32} {f_minute : Int32} {f_avalanches : Int32} {x1 : Int32} {x2 : Int32} {x3 : Int32} {x4 : Int32} {post : Int32 → (Int32) → (Int32) → (Int32) → (Int32) → (Int32) → (Nat → Int32) → (Nat → Int32) → (Nat → Int32) → (Nat → Int32) → (Nat → Int32) → (Int32) → (Int32) → (Int32) → Prop} (k_f_code : iv 0 0 f_code) (k_a_many : ∀ j, iv 0 2 (a_many j)) (k_a_lands : mLand a_lands) (k_a_evenings : mEve a_evenings) (k_f_land : iv 0 1 f_land) (k_f_huts : iv 0 9 f_huts) (k_f_singers : iv 0 6 f_singers) (k_a_at : ∀ j, iv 0 8 (a_at j)) (k_a_knows : ∀ j, iv 0 31 (a_knows j)) (k_a_climbed : ∀ j, iv 0 1 (a_climbed j)) (k_a_level : ∀ j, iv (-9) 108 (a_level j)) (k_f_begun : iv 0 31 f_begun) (hpost : ∀ (r : Int32) (f_code : Int32) (f_land : Int32) (f_huts : Int32) (f_singers : Int32) (f_evening : Int32) (a_at : Nat → Int32) (a_knows : Nat → Int32) (a_climbed : Nat → Int32) (a_snow : Nat → Int32) (a_level : Nat → Int32) (f_begun : Int32) (f_minute : Int32) (f_avalanches : Int32), (iv 0 0 f_code) → (iv 0 1 f_land) → (iv 0 9 f_huts) → (iv 0 6 f_singers) → (∀ j, iv 0 8 (a_at j)) → (∀ j, iv 0 31 (a_knows j)) → (∀ j, iv 0 1 (a_climbed j)) → (∀ j, iv (-9) 108 (a_level j)) → (iv 0 31 f_begun) → post r f_code f_land f_huts f_singers f_evening a_at a_knows a_climbed a_snow a_level f_begun f_minute f_avalanches) : q_m_state_0 f_code a_many a_lands a_evenings f_land f_huts f_singers f_evening a_at a_knows a_climbed a_snow a_level f_begun f_minute f_avalanches x1 x2 x3 x4 post := by
  refine ⟨iv_in (iv_lit (l := 1) (h := 1) (by decide)) (by decide), ?_⟩
  refine ⟨fun c1 => ?_, fun c1 => ?_⟩
  · skip
    refine ⟨iv_nb (iv_lit (l := 0) (h := 0) (by decide)) (by decide), ?_⟩
    refine ⟨iv_nb (iv_lit (l := 0) (h := 0) (by decide)) (by decide), ?_⟩
    refine ⟨fun c2 => ?_, fun c2 => ?_⟩
    · skip
      refine ⟨fun c3 => ?_, fun c3 => ?_⟩
      · skip
        exact hpost _ _ _ _ _ _ _ _ _ _ _ _ _ _ (iv_lit (l := 0) (h := 0) (by decide)) k_f_land k_f_huts k_f_singers k_a_at k_a_knows k_a_climbed k_a_level k_f_begun
      · skip
        exact (iv_emp (iv_ne (l := 1) (h := 0) c3 (iv_lit (l := 0) (h := 0) (by decide)) (iv_lit (l := 0) (h := 0) (by decide)) (by decide)) (by decide)).elim
    · skip
      exact (iv_emp (iv_ne (l := 1) (h := 0) c2 (iv_lit (l := 0) (h := 0) (by decide)) (iv_lit (l := 0) (h := 0) (by decide)) (by decide)) (by decide)).elim
  · skip
    refine ⟨fun c4 => ?_, fun c4 => ?_⟩
    · skip
      refine ⟨iv_nb (iv_lit (l := 0) (h := 0) (by decide)) (by decide), ?_⟩
      refine ⟨iv_nb (iv_lit (l := 0) (h := 0) (by decide)) (by decide), ?_⟩
      refine ⟨fun c5 => ?_, fun c5 => ?_⟩
      · skip
        refine ⟨fun c6 => ?_, fun c6 => ?_⟩
        · skip
          exact hpost _ _ _ _ _ _ _ _ _ _ _ _ _ _ (iv_lit (l := 0) (h := 0) (by decide)) k_f_land k_f_huts k_f_singers k_a_at k_a_knows k_a_climbed k_a_level k_f_begun
        · skip
          exact (iv_emp (iv_ne (l := 1) (h := 0) c6 (iv_lit (l := 0) (h := 0) (by decide)) (iv_lit (l := 0) (h := 0) (by decide)) (by decide)) (by decide)).elim
      · skip
        exact (iv_emp (iv_ne (l := 1) (h := 0) c5 (iv_lit (l := 0) (h := 0) (by decide)) (iv_lit (l := 0) (h := 0) (by decide)) (by decide)) (by decide)).elim
    · skip
      refine ⟨iv_nb (iv_lit (l := 1) (h := 1) (by decide)) (by decide), ?_⟩
      refine ⟨iv_nb (iv_lit (l := 1) (h := 1) (by decide)) (by decide), ?_⟩
      refine ⟨fun c7 => ?_, fun c7 => ?_⟩
      · skip
        exact (iv_emp (iv_eqa (l := 1) (h := 0) c7 (iv_lit (l := 1) (h := 1) (by decide)) (iv_lit (l := 0) (h := 0) (by decide)) (by decide)) (by decide)).elim
      · skip
        refine ⟨iv_in (iv_lit (l := 0) (h := 0) (by decide)) (by decide), ?_⟩
        refine ⟨fun c8 => ?_, fun c8 => ?_⟩
        · skip
          refine ⟨iv_nb (iv_lit (l := 0) (h := 0) (by decide)) (by decide), ?_⟩
          refine ⟨fun c9 => ?_, fun c9 => ?_⟩
          · skip
            exact (iv_emp (iv_ne (l := 1) (h := 0) c9 (iv_lit (l := 0) (h := 0) (by decide)) (iv_lit (l := 0) (h := 0) (by decide)) (by decide)) (by decide)).elim
          · skip
            refine ⟨fun c10 => ?_, fun c10 => ?_⟩
            · skip
              refine ⟨fun c11 => ?_, fun c11 => ?_⟩
              · skip
                exact hpost _ _ _ _ _ _ _ _ _ _ _ _ _ _ (iv_lit (l := 0) (h := 0) (by decide)) k_f_land k_f_huts k_f_singers k_a_at k_a_knows k_a_climbed k_a_level k_f_begun
              · skip
                exact (iv_emp (iv_ne (l := 1) (h := 0) c11 (iv_lit (l := 0) (h := 0) (by decide)) (iv_lit (l := 0) (h := 0) (by decide)) (by decide)) (by decide)).elim
            · skip
              exact (iv_emp (iv_ne (l := 1) (h := 0) c10 (iv_lit (l := 0) (h := 0) (by decide)) (iv_lit (l := 0) (h := 0) (by decide)) (by decide)) (by decide)).elim
        · skip
          refine ⟨fun c12 => ?_, fun c12 => ?_⟩
          · skip
            refine ⟨iv_nb (iv_lit (l := 0) (h := 0) (by decide)) (by decide), ?_⟩
            refine ⟨fun c13 => ?_, fun c13 => ?_⟩
            · skip
              exact (iv_emp (iv_ne (l := 1) (h := 0) c13 (iv_lit (l := 0) (h := 0) (by decide)) (iv_lit (l := 0) (h := 0) (by decide)) (by decide)) (by decide)).elim
            · skip
              refine ⟨fun c14 => ?_, fun c14 => ?_⟩
              · skip
                refine ⟨fun c15 => ?_, fun c15 => ?_⟩
                · skip
                  exact hpost _ _ _ _ _ _ _ _ _ _ _ _ _ _ (iv_lit (l := 0) (h := 0) (by decide)) k_f_land k_f_huts k_f_singers k_a_at k_a_knows k_a_climbed k_a_level k_f_begun
                · skip
                  exact (iv_emp (iv_ne (l := 1) (h := 0) c15 (iv_lit (l := 0) (h := 0) (by decide)) (iv_lit (l := 0) (h := 0) (by decide)) (by decide)) (by decide)).elim
              · skip
                exact (iv_emp (iv_ne (l := 1) (h := 0) c14 (iv_lit (l := 0) (h := 0) (by decide)) (iv_lit (l := 0) (h := 0) (by decide)) (by decide)) (by decide)).elim
          · skip
            refine ⟨iv_nb (iv_lit (l := 1) (h := 1) (by decide)) (by decide), ?_⟩
            refine ⟨fun c16 => ?_, fun c16 => ?_⟩
            · skip
              refine sp_of (a := 0) (b := 9) k_a_lands (iv_lea (l := 0) (h := 1) (r_nlt c12) (iv_leb (l := 0) (h := 2147483647) (r_nlt c8) (iv_lit (l := 0) (h := 0) (by decide)) (iv_top x1) (by decide)) (iv_sub (l := (-1)) (h := 1) (k_a_many _) (iv_lit (l := 1) (h := 1) (by decide)) (by decide)) (by decide)) (iv_lit (l := 0) (h := 0) (by decide)) (by decide +kernel) (fun r17 hr17 er17 => ?_)
              refine sp_of (a := 0) (b := 6) k_a_lands (iv_lea (l := 0) (h := 1) (r_nlt c12) (iv_leb (l := 0) (h := 2147483647) (r_nlt c8) (iv_lit (l := 0) (h := 0) (by decide)) (iv_top x1) (by decide)) (iv_sub (l := (-1)) (h := 1) (k_a_many _) (iv_lit (l := 1) (h := 1) (by decide)) (by decide)) (by decide)) (iv_lit (l := 1) (h := 1) (by decide)) (by decide +kernel) (fun r18 hr18 er18 => ?_)
              refine ⟨fun c19 => ?_, fun c19 => ?_⟩
              · skip
                exact (iv_emp (iv_eqa (l := 1) (h := 0) c19 (iv_lit (l := 1) (h := 1) (by decide)) (iv_lit (l := 0) (h := 0) (by decide)) (by decide)) (by decide)).elim
              · skip
                refine ⟨fun c20 => ?_, fun c20 => ?_⟩
                · skip
                  exact (iv_emp (iv_eqa (l := 1) (h := 0) c20 (iv_lit (l := 1) (h := 1) (by decide)) (iv_lit (l := 0) (h := 0) (by decide)) (by decide)) (by decide)).elim
                · skip
                  refine sp_deeds k_a_evenings (iv_lea (l := 0) (h := 1) (r_nlt c4) (iv_leb (l := 0) (h := 2147483647) (r_nlt c1) (iv_lit (l := 0) (h := 0) (by decide)) (iv_top x2) (by decide)) (iv_sub (l := (-1)) (h := 1) (k_a_many _) (iv_lit (l := 1) (h := 1) (by decide)) (by decide)) (by decide)) (fun r21 hr21 => ?_)
                  refine ⟨fun c22 => ?_, fun c22 => ?_⟩
                  · skip
                    refine ⟨fun c23 => ?_, fun c23 => ?_⟩
                    · skip
                      exact hpost _ _ _ _ _ _ _ _ _ _ _ _ _ _ (iv_lit (l := 0) (h := 0) (by decide)) (iv_lea (l := 0) (h := 1) (r_nlt c12) (iv_leb (l := 0) (h := 2147483647) (r_nlt c8) (iv_lit (l := 0) (h := 0) (by decide)) (iv_top x1) (by decide)) (iv_sub (l := (-1)) (h := 1) (k_a_many _) (iv_lit (l := 1) (h := 1) (by decide)) (by decide)) (by decide)) hr17 hr18 k_a_at k_a_knows k_a_climbed k_a_level k_f_begun
                    · skip
                      exact (iv_emp (iv_ne (l := 1) (h := 0) c23 (iv_lit (l := 0) (h := 0) (by decide)) (iv_lit (l := 0) (h := 0) (by decide)) (by decide)) (by decide)).elim
                  · skip
                    refine ⟨fun c24 => ?_, fun c24 => ?_⟩
                    · skip
                      refine ⟨fun c25 => ?_, fun c25 => ?_⟩
                      · skip
                        exact hpost _ _ _ _ _ _ _ _ _ _ _ _ _ _ (iv_lit (l := 0) (h := 0) (by decide)) (iv_lea (l := 0) (h := 1) (r_nlt c12) (iv_leb (l := 0) (h := 2147483647) (r_nlt c8) (iv_lit (l := 0) (h := 0) (by decide)) (iv_top x1) (by decide)) (iv_sub (l := (-1)) (h := 1) (k_a_many _) (iv_lit (l := 1) (h := 1) (by decide)) (by decide)) (by decide)) hr17 hr18 k_a_at k_a_knows k_a_climbed k_a_level k_f_begun
                      · skip
                        exact (iv_emp (iv_ne (l := 1) (h := 0) c25 (iv_lit (l := 0) (h := 0) (by decide)) (iv_lit (l := 0) (h := 0) (by decide)) (by decide)) (by decide)).elim
                    · skip
                      refine ⟨fun c26 => ?_, fun c26 => ?_⟩
                      · skip
                        exact (iv_emp (iv_eqa (l := 1) (h := 0) c26 (iv_lit (l := 1) (h := 1) (by decide)) (iv_lit (l := 0) (h := 0) (by decide)) (by decide)) (by decide)).elim
                      · skip
                        refine s_m_play_0 k_a_lands k_a_evenings (iv_lea (l := 0) (h := 1) (r_nlt c12) (iv_leb (l := 0) (h := 2147483647) (r_nlt c8) (iv_lit (l := 0) (h := 0) (by decide)) (iv_top x1) (by decide)) (iv_sub (l := (-1)) (h := 1) (k_a_many _) (iv_lit (l := 1) (h := 1) (by decide)) (by decide)) (by decide)) hr17 hr18 (iv_lea (l := 0) (h := 1) (r_nlt c4) (iv_leb (l := 0) (h := 2147483647) (r_nlt c1) (iv_lit (l := 0) (h := 0) (by decide)) (iv_top x2) (by decide)) (iv_sub (l := (-1)) (h := 1) (k_a_many _) (iv_lit (l := 1) (h := 1) (by decide)) (by decide)) (by decide)) k_a_at k_a_knows k_a_climbed k_a_level k_f_begun (iv_lea (l := 0) (h := 40) (r_nlt c24) (iv_leb (l := 0) (h := 2147483647) (r_nlt c22) (iv_lit (l := 0) (h := 0) (by decide)) (iv_top x3) (by decide)) hr21 (by decide)) (fun r27 o28 o29 o30 o31 o32 o33 o34 o35 hr27 k_o28 k_o29 k_o30 k_o32 k_o33 => ?_)
                        refine ⟨fun c36 => ?_, fun c36 => ?_⟩
                        · skip
                          exact hpost _ _ _ _ _ _ _ _ _ _ _ _ _ _ (iv_lit (l := 0) (h := 0) (by decide)) (iv_lea (l := 0) (h := 1) (r_nlt c12) (iv_leb (l := 0) (h := 2147483647) (r_nlt c8) (iv_lit (l := 0) (h := 0) (by decide)) (iv_top x1) (by decide)) (iv_sub (l := (-1)) (h := 1) (k_a_many _) (iv_lit (l := 1) (h := 1) (by decide)) (by decide)) (by decide)) hr17 hr18 k_o28 k_o29 k_o30 k_o32 k_o33
                        · skip
                          refine s_m_ofState_0 k_a_lands (iv_lea (l := 0) (h := 1) (r_nlt c12) (iv_leb (l := 0) (h := 2147483647) (r_nlt c8) (iv_lit (l := 0) (h := 0) (by decide)) (iv_top x1) (by decide)) (iv_sub (l := (-1)) (h := 1) (k_a_many _) (iv_lit (l := 1) (h := 1) (by decide)) (by decide)) (by decide)) hr17 hr18 k_o28 k_o29 k_o30 k_o32 k_o33 (fun r37 => ?_)
                          exact hpost _ _ _ _ _ _ _ _ _ _ _ _ _ _ (iv_lit (l := 0) (h := 0) (by decide)) (iv_lea (l := 0) (h := 1) (r_nlt c12) (iv_leb (l := 0) (h := 2147483647) (r_nlt c8) (iv_lit (l := 0) (h := 0) (by decide)) (iv_top x1) (by decide)) (iv_sub (l := (-1)) (h := 1) (k_a_many _) (iv_lit (l := 1) (h := 1) (by decide)) (by decide)) (by decide)) hr17 hr18 k_o28 k_o29 k_o30 k_o32 k_o33
            · skip
              exact (iv_emp (iv_eqa (l := 1) (h := 0) c16 (iv_lit (l := 1) (h := 1) (by decide)) (iv_lit (l := 0) (h := 0) (by decide)) (by decide)) (by decide)).elim
-- m_findRun
set_option maxRecDepth 20000 in
theorem s_m_findRun_46 {P11 : Int32 → (Nat → Int32) → Prop} {a_lands : Nat → Int32} {f_land : Int32} {f_huts : Int32} {a_run : Nat → Int32} {x1 : Int32} {x3 : Int32} {x4 : Int32} {y0 : Int32} {y1 : Int32} {post : (Nat → Int32) → Prop} (k_a_lands : mLand a_lands) (k_f_land : iv 0 1 f_land) (k_f_huts : iv 0 9 f_huts) (k_a_run : ∀ j, iv 0 1000000 (a_run j)) (hx1 : iv 0 8 x1) (hx3 : iv 0 511 x3) (hx4 : iv 0 8 x4) (hy0 : iv 0 8 y0) (hy1 : iv 0 1000000 y1) (m11 : Int) (hm11 : m11 ≤ x4.toInt) (hP11 : ∀ (x4 : Int32) (a_run : Nat → Int32), m11 < x4.toInt → iv 0 9 x4 → (∀ j, iv 0 1000000 (a_run j)) → P11 x4 a_run) (hpost : ∀ (a_run : Nat → Int32), (∀ j, iv 0 1000000 (a_run j)) → post a_run) : q_m_findRun_46 P11 a_lands f_land f_huts a_run x1 x3 x4 y0 y1 post := by
  refine ⟨iv_in hy0 (by decide), ?_⟩
  intro a1 ea1
  have k_a1 := iv_upd ea1 k_a_run hy1
  intro w2 ew2
  have hw2 := iv_eq ew2 (iv_add (l := 1) (h := 9) hx4 (iv_lit (l := 1) (h := 1) (by decide)) (by decide))
  exact hP11 _ _ (ml_up hm11 (inc_lt ew2 hx4 (by decide))) (iv_w hw2 (by decide)) k_a1
set_option maxRecDepth 20000 in
theorem s_m_findRun_43 {P11 : Int32 → (Nat → Int32) → Prop} {a_lands : Nat → Int32} {f_land : Int32} {f_huts : Int32} {a_run : Nat → Int32} {x1 : Int32} {x3 : Int32} {x4 : Int32} {y0 : Int32} {post : (Nat → Int32) → Prop} (k_a_lands : mLand a_lands) (k_f_land : iv 0 1 f_land) (k_f_huts : iv 0 9 f_huts) (k_a_run : ∀ j, iv 0 1000000 (a_run j)) (hx1 : iv 0 8 x1) (hx3 : iv 0 511 x3) (hx4 : iv 0 8 x4) (hy0 : iv 0 8 y0) (m11 : Int) (hm11 : m11 ≤ x4.toInt) (hP11 : ∀ (x4 : Int32) (a_run : Nat → Int32), m11 < x4.toInt → iv 0 9 x4 → (∀ j, iv 0 1000000 (a_run j)) → P11 x4 a_run) (hpost : ∀ (a_run : Nat → Int32), (∀ j, iv 0 1000000 (a_run j)) → post a_run) : q_m_findRun_43 P11 a_lands f_land f_huts a_run x1 x3 x4 y0 post := by
  exact s_m_findRun_46 k_a_lands k_f_land k_f_huts k_a_run hx1 hx3 hx4 hy0 (iv_w (iv_lit (l := 1000000) (h := 1000000) (by decide)) (by decide)) m11 hm11 hP11 hpost
set_option maxRecDepth 20000 in
theorem s_m_findRun_270 {P56 : Int32 → (Nat → Int32) → Prop} {P194 : Int32 → (Nat → Int32) → Prop} {a_lands : Nat → Int32} {f_land : Int32} {f_huts : Int32} {a_run : Nat → Int32} {x3 : Int32} {x4 : Int32} {x5 : Int32} {y0 : Int32} {y1 : Int32} {post : (Nat → Int32) → Prop} (k_a_lands : mLand a_lands) (k_f_land : iv 0 1 f_land) (k_f_huts : iv 1 9 f_huts) (k_a_run : ∀ j, iv 0 1000000 (a_run j)) (hx3 : iv 0 511 x3) (hx4 : iv 0 8 x4) (hx5 : iv 0 3 x5) (hy0 : iv 0 8 y0) (hy1 : iv 0 1000000 y1) (m56 : Int) (hm56 : m56 ≤ x4.toInt) (hP56 : ∀ (x4 : Int32) (a_run : Nat → Int32), m56 < x4.toInt → iv 0 9 x4 → (∀ j, iv 0 1000000 (a_run j)) → P56 x4 a_run) (m194 : Int) (hm194 : m194 ≤ x5.toInt) (hP194 : ∀ (x5 : Int32) (a_run : Nat → Int32), m194 < x5.toInt → iv 0 4 x5 → (∀ j, iv 0 1000000 (a_run j)) → P194 x5 a_run) (hpost : ∀ (a_run : Nat → Int32), (∀ j, iv 0 1000000 (a_run j)) → post a_run) : q_m_findRun_270 P56 P194 a_lands f_land f_huts a_run x3 x4 x5 y0 y1 post := by
  refine ⟨iv_in hy0 (by decide), ?_⟩
  intro a1 ea1
  have k_a1 := iv_upd ea1 k_a_run hy1
  intro w2 ew2
  have hw2 := iv_eq ew2 (iv_add (l := 1) (h := 4) hx5 (iv_lit (l := 1) (h := 1) (by decide)) (by decide))
  exact hP194 _ _ (ml_up hm194 (inc_lt ew2 hx5 (by decide))) (iv_w hw2 (by decide)) k_a1
set_option maxRecDepth 20000 in
theorem s_m_findRun_194 {P56 : Int32 → (Nat → Int32) → Prop} {a_lands : Nat → Int32} {f_land : Int32} {f_huts : Int32} {a_run : Nat → Int32} {x3 : Int32} {x4 : Int32} {x5 : Int32} {post : (Nat → Int32) → Prop} (k_a_lands : mLand a_lands) (k_f_land : iv 0 1 f_land) (k_f_huts : iv 1 9 f_huts) (k_a_run : ∀ j, iv 0 1000000 (a_run j)) (hx3 : iv 0 511 x3) (hx4 : iv 0 8 x4) (hx5 : iv 0 4 x5) (m56 : Int) (hm56 : m56 ≤ x4.toInt) (hP56 : ∀ (x4 : Int32) (a_run : Nat → Int32), m56 < x4.toInt → iv 0 9 x4 → (∀ j, iv 0 1000000 (a_run j)) → P56 x4 a_run) (hpost : ∀ (a_run : Nat → Int32), (∀ j, iv 0 1000000 (a_run j)) → post a_run) : q_m_findRun_194 P56 a_lands f_land f_huts a_run x3 x4 x5 post := by
  intro P hP
  have loop : ∀ (n : Nat) (x5 : Int32) (a_run : Nat → Int32), (4 - x5.toInt < (n : Int)) → (iv 0 4 x5) → (∀ j, iv 0 1000000 (a_run j)) → P x5 a_run := by
    intro n
    induction n with
    | zero => intro x5 a_run hm hx5 k_a_run; exact (ms0_up hm hx5).elim
    | succ n ih =>
      intro x5 a_run hm hx5 k_a_run
      apply hP
      refine sp_of (a := 0) (b := 4) k_a_lands k_f_land (iv_lit (l := 4) (h := 4) (by decide)) (by decide +kernel) (fun r1 hr1 er1 => ?_)
      refine ⟨fun c2 => ?_, fun c2 => ?_⟩
      · skip
        intro w3 ew3
        have hw3 := iv_eq ew3 (iv_add (l := 1) (h := 9) hx4 (iv_lit (l := 1) (h := 1) (by decide)) (by decide))
        exact hP56 _ _ (ml_up hm56 (inc_lt ew3 hx4 (by decide))) (iv_w hw3 (by decide)) k_a_run
      · skip
        refine sp_of (a := 0) (b := 8) k_a_lands k_f_land (iv_add (l := 44) (h := 50) (iv_add (l := 43) (h := 49) (iv_lit (l := 43) (h := 43) (by decide)) (iv_mul (l := 0) (h := 6) (iv_lit (l := 2) (h := 2) (by decide)) (iv_lta (l := 0) (h := 3) (r_nle c2) hx5 hr1 (by decide)) (by decide)) (by decide)) (iv_lit (l := 1) (h := 1) (by decide)) (by decide)) (by decide +kernel) (fun r4 hr4 er4 => ?_)
        refine ⟨fun c5 => ?_, fun c5 => ?_⟩
        · skip
          refine ⟨fun c6 => ?_, fun c6 => ?_⟩
          · skip
            refine ⟨iv_in hr4 (by decide), ?_⟩
            refine sp_of (a := 0) (b := 8) k_a_lands k_f_land (iv_add (l := 43) (h := 49) (iv_lit (l := 43) (h := 43) (by decide)) (iv_mul (l := 0) (h := 6) (iv_lit (l := 2) (h := 2) (by decide)) (iv_lta (l := 0) (h := 3) (r_nle c2) hx5 hr1 (by decide)) (by decide)) (by decide)) (by decide +kernel) (fun r7 hr7 er7 => ?_)
            refine ⟨iv_in hr7 (by decide), ?_⟩
            refine ⟨fun c8 => ?_, fun c8 => ?_⟩
            · skip
              exact s_m_findRun_270 k_a_lands k_f_land k_f_huts k_a_run hx3 hx4 (iv_lta (l := 0) (h := 3) (r_nle c2) hx5 hr1 (by decide)) hr4 (k_a_run _) m56 hm56 hP56 x5.toInt (Int.le_refl _) (fun u0 u1 hq g0 g1 => ih u0 u1 (ms_up hm hq) g0 g1) hpost
            · skip
              exact s_m_findRun_270 k_a_lands k_f_land k_f_huts k_a_run hx3 hx4 (iv_lta (l := 0) (h := 3) (r_nle c2) hx5 hr1 (by decide)) hr4 (iv_w (iv_lta (l := 0) (h := 999999) (r_nle c8) (k_a_run _) (k_a_run _) (by decide)) (by decide)) m56 hm56 hP56 x5.toInt (Int.le_refl _) (fun u0 u1 hq g0 g1 => ih u0 u1 (ms_up hm hq) g0 g1) hpost
          · skip
            exact (iv_emp (iv_ne (l := 1) (h := 0) c6 (iv_lit (l := 0) (h := 0) (by decide)) (iv_lit (l := 0) (h := 0) (by decide)) (by decide)) (by decide)).elim
        · skip
          refine ⟨fun c9 => ?_, fun c9 => ?_⟩
          · skip
            exact (iv_emp (iv_eqa (l := 1) (h := 0) c9 (iv_lit (l := 1) (h := 1) (by decide)) (iv_lit (l := 0) (h := 0) (by decide)) (by decide)) (by decide)).elim
          · skip
            refine ⟨iv_in hr4 (by decide), ?_⟩
            exact s_m_findRun_270 k_a_lands k_f_land k_f_huts k_a_run hx3 hx4 (iv_lta (l := 0) (h := 3) (r_nle c2) hx5 hr1 (by decide)) hr4 (k_a_run _) m56 hm56 hP56 x5.toInt (Int.le_refl _) (fun u0 u1 hq g0 g1 => ih u0 u1 (ms_up hm hq) g0 g1) hpost
  exact loop _ _ _ (ms_init_up _ _) hx5 k_a_run
set_option maxRecDepth 20000 in
theorem s_m_findRun_178 {P56 : Int32 → (Nat → Int32) → Prop} {P68 : Int32 → (Nat → Int32) → Prop} {P80 : Int32 → (Nat → Int32) → Prop} {a_lands : Nat → Int32} {f_land : Int32} {f_huts : Int32} {a_run : Nat → Int32} {x3 : Int32} {x4 : Int32} {x5 : Int32} {x6 : Int32} {y0 : Int32} {y1 : Int32} {post : (Nat → Int32) → Prop} (k_a_lands : mLand a_lands) (k_f_land : iv 0 1 f_land) (k_f_huts : iv 1 9 f_huts) (k_a_run : ∀ j, iv 0 1000000 (a_run j)) (hx3 : iv 0 511 x3) (hx4 : iv 0 8 x4) (hx5 : iv 0 8 x5) (hx6 : iv 0 8 x6) (hy0 : iv 0 8 y0) (hy1 : iv 0 1000000 y1) (m56 : Int) (hm56 : m56 ≤ x4.toInt) (hP56 : ∀ (x4 : Int32) (a_run : Nat → Int32), m56 < x4.toInt → iv 0 9 x4 → (∀ j, iv 0 1000000 (a_run j)) → P56 x4 a_run) (m68 : Int) (hm68 : m68 ≤ x5.toInt) (hP68 : ∀ (x5 : Int32) (a_run : Nat → Int32), m68 < x5.toInt → iv 0 9 x5 → (∀ j, iv 0 1000000 (a_run j)) → P68 x5 a_run) (m80 : Int) (hm80 : m80 ≤ x6.toInt) (hP80 : ∀ (x6 : Int32) (a_run : Nat → Int32), m80 < x6.toInt → iv 0 9 x6 → (∀ j, iv 0 1000000 (a_run j)) → P80 x6 a_run) (hpost : ∀ (a_run : Nat → Int32), (∀ j, iv 0 1000000 (a_run j)) → post a_run) : q_m_findRun_178 P56 P68 P80 a_lands f_land f_huts a_run x3 x4 x5 x6 y0 y1 post := by
  refine ⟨iv_in hy0 (by decide), ?_⟩
  intro a1 ea1
  have k_a1 := iv_upd ea1 k_a_run hy1
  intro w2 ew2
  have hw2 := iv_eq ew2 (iv_add (l := 1) (h := 9) hx6 (iv_lit (l := 1) (h := 1) (by decide)) (by decide))
  exact hP80 _ _ (ml_up hm80 (inc_lt ew2 hx6 (by decide))) (iv_w hw2 (by decide)) k_a1
set_option maxRecDepth 20000 in
theorem s_m_findRun_129 {P56 : Int32 → (Nat → Int32) → Prop} {P68 : Int32 → (Nat → Int32) → Prop} {P80 : Int32 → (Nat → Int32) → Prop} {a_lands : Nat → Int32} {f_land : Int32} {f_huts : Int32} {a_run : Nat → Int32} {x3 : Int32} {x4 : Int32} {x5 : Int32} {x6 : Int32} {y0 : Int32} {post : (Nat → Int32) → Prop} (k_a_lands : mLand a_lands) (k_f_land : iv 0 1 f_land) (k_f_huts : iv 1 9 f_huts) (k_a_run : ∀ j, iv 0 1000000 (a_run j)) (hx3 : iv 0 511 x3) (hx4 : iv 0 8 x4) (hx5 : iv 0 8 x5) (hx6 : iv 0 8 x6) (hy0 : iv 0 1 y0) (m56 : Int) (hm56 : m56 ≤ x4.toInt) (hP56 : ∀ (x4 : Int32) (a_run : Nat → Int32), m56 < x4.toInt → iv 0 9 x4 → (∀ j, iv 0 1000000 (a_run j)) → P56 x4 a_run) (m68 : Int) (hm68 : m68 ≤ x5.toInt) (hP68 : ∀ (x5 : Int32) (a_run : Nat → Int32), m68 < x5.toInt → iv 0 9 x5 → (∀ j, iv 0 1000000 (a_run j)) → P68 x5 a_run) (m80 : Int) (hm80 : m80 ≤ x6.toInt) (hP80 : ∀ (x6 : Int32) (a_run : Nat → Int32), m80 < x6.toInt → iv 0 9 x6 → (∀ j, iv 0 1000000 (a_run j)) → P80 x6 a_run) (hpost : ∀ (a_run : Nat → Int32), (∀ j, iv 0 1000000 (a_run j)) → post a_run) : q_m_findRun_129 P56 P68 P80 a_lands f_land f_huts a_run x3 x4 x5 x6 y0 post := by
  refine ⟨fun c1 => ?_, fun c1 => ?_⟩
  · skip
    refine ⟨iv_in hx6 (by decide), ?_⟩
    exact s_m_findRun_178 k_a_lands k_f_land k_f_huts k_a_run hx3 hx4 hx5 hx6 hx6 (k_a_run _) m56 hm56 hP56 m68 hm68 hP68 m80 hm80 hP80 hpost
  · skip
    refine ⟨iv_in hx6 (by decide), ?_⟩
    refine ⟨iv_in hx5 (by decide), ?_⟩
    refine sp_of (a := 0) (b := 9) k_a_lands k_f_land (iv_add (l := 51) (h := 131) (iv_add (l := 51) (h := 123) (iv_lit (l := 51) (h := 51) (by decide)) (iv_mul (l := 0) (h := 72) (iv_lit (l := 9) (h := 9) (by decide)) hx5 (by decide)) (by decide)) hx6 (by decide)) (by decide +kernel) (fun r2 hr2 er2 => ?_)
    refine ⟨fun c3 => ?_, fun c3 => ?_⟩
    · skip
      exact s_m_findRun_178 k_a_lands k_f_land k_f_huts k_a_run hx3 hx4 hx5 hx6 hx6 (iv_lea (l := 0) (h := 1000000) (r_le c3) (iv_add (l := 0) (h := 1000009) (k_a_run _) hr2 (by decide)) (k_a_run _) (by decide)) m56 hm56 hP56 m68 hm68 hP68 m80 hm80 hP80 hpost
    · skip
      exact s_m_findRun_178 k_a_lands k_f_land k_f_huts k_a_run hx3 hx4 hx5 hx6 hx6 (k_a_run _) m56 hm56 hP56 m68 hm68 hP68 m80 hm80 hP80 hpost
set_option maxRecDepth 20000 in
theorem s_m_findRun_128 {P56 : Int32 → (Nat → Int32) → Prop} {P68 : Int32 → (Nat → Int32) → Prop} {P80 : Int32 → (Nat → Int32) → Prop} {a_lands : Nat → Int32} {f_land : Int32} {f_huts : Int32} {a_run : Nat → Int32} {x3 : Int32} {x4 : Int32} {x5 : Int32} {x6 : Int32} {post : (Nat → Int32) → Prop} (k_a_lands : mLand a_lands) (k_f_land : iv 0 1 f_land) (k_f_huts : iv 1 9 f_huts) (k_a_run : ∀ j, iv 0 1000000 (a_run j)) (hx3 : iv 0 511 x3) (hx4 : iv 0 8 x4) (hx5 : iv 0 8 x5) (hx6 : iv 0 8 x6) (m56 : Int) (hm56 : m56 ≤ x4.toInt) (hP56 : ∀ (x4 : Int32) (a_run : Nat → Int32), m56 < x4.toInt → iv 0 9 x4 → (∀ j, iv 0 1000000 (a_run j)) → P56 x4 a_run) (m68 : Int) (hm68 : m68 ≤ x5.toInt) (hP68 : ∀ (x5 : Int32) (a_run : Nat → Int32), m68 < x5.toInt → iv 0 9 x5 → (∀ j, iv 0 1000000 (a_run j)) → P68 x5 a_run) (m80 : Int) (hm80 : m80 ≤ x6.toInt) (hP80 : ∀ (x6 : Int32) (a_run : Nat → Int32), m80 < x6.toInt → iv 0 9 x6 → (∀ j, iv 0 1000000 (a_run j)) → P80 x6 a_run) (hpost : ∀ (a_run : Nat → Int32), (∀ j, iv 0 1000000 (a_run j)) → post a_run) : q_m_findRun_128 P56 P68 P80 a_lands f_land f_huts a_run x3 x4 x5 x6 post := by
  exact s_m_findRun_129 k_a_lands k_f_land k_f_huts k_a_run hx3 hx4 hx5 hx6 (iv_w (iv_lit (l := 0) (h := 0) (by decide)) (by decide)) m56 hm56 hP56 m68 hm68 hP68 m80 hm80 hP80 hpost
set_option maxRecDepth 20000 in
theorem s_m_findRun_80 {P56 : Int32 → (Nat → Int32) → Prop} {P68 : Int32 → (Nat → Int32) → Prop} {a_lands : Nat → Int32} {f_land : Int32} {f_huts : Int32} {a_run : Nat → Int32} {x3 : Int32} {x4 : Int32} {x5 : Int32} {x6 : Int32} {post : (Nat → Int32) → Prop} (k_a_lands : mLand a_lands) (k_f_land : iv 0 1 f_land) (k_f_huts : iv 1 9 f_huts) (k_a_run : ∀ j, iv 0 1000000 (a_run j)) (hx3 : iv 0 511 x3) (hx4 : iv 0 8 x4) (hx5 : iv 0 8 x5) (hx6 : iv 0 9 x6) (m56 : Int) (hm56 : m56 ≤ x4.toInt) (hP56 : ∀ (x4 : Int32) (a_run : Nat → Int32), m56 < x4.toInt → iv 0 9 x4 → (∀ j, iv 0 1000000 (a_run j)) → P56 x4 a_run) (m68 : Int) (hm68 : m68 ≤ x5.toInt) (hP68 : ∀ (x5 : Int32) (a_run : Nat → Int32), m68 < x5.toInt → iv 0 9 x5 → (∀ j, iv 0 1000000 (a_run j)) → P68 x5 a_run) (hpost : ∀ (a_run : Nat → Int32), (∀ j, iv 0 1000000 (a_run j)) → post a_run) : q_m_findRun_80 P56 P68 a_lands f_land f_huts a_run x3 x4 x5 x6 post := by
  intro P hP
  have loop : ∀ (n : Nat) (x6 : Int32) (a_run : Nat → Int32), (9 - x6.toInt < (n : Int)) → (iv 0 9 x6) → (∀ j, iv 0 1000000 (a_run j)) → P x6 a_run := by
    intro n
    induction n with
    | zero => intro x6 a_run hm hx6 k_a_run; exact (ms0_up hm hx6).elim
    | succ n ih =>
      intro x6 a_run hm hx6 k_a_run
      apply hP
      refine ⟨fun c1 => ?_, fun c1 => ?_⟩
      · skip
        intro w2 ew2
        have hw2 := iv_eq ew2 (iv_add (l := 1) (h := 9) hx5 (iv_lit (l := 1) (h := 1) (by decide)) (by decide))
        exact hP68 _ _ (ml_up hm68 (inc_lt ew2 hx5 (by decide))) (iv_w hw2 (by decide)) k_a_run
      · skip
        refine sp_of (a := 0) (b := 9) k_a_lands k_f_land (iv_add (l := 51) (h := 131) (iv_add (l := 51) (h := 123) (iv_lit (l := 51) (h := 51) (by decide)) (iv_mul (l := 0) (h := 72) (iv_lit (l := 9) (h := 9) (by decide)) hx5 (by decide)) (by decide)) (iv_lta (l := 0) (h := 8) (r_nle c1) hx6 k_f_huts (by decide)) (by decide)) (by decide +kernel) (fun r3 hr3 er3 => ?_)
        refine ⟨fun c4 => ?_, fun c4 => ?_⟩
        · skip
          exact s_m_findRun_128 k_a_lands k_f_land k_f_huts k_a_run hx3 hx4 hx5 (iv_lta (l := 0) (h := 8) (r_nle c1) hx6 k_f_huts (by decide)) m56 hm56 hP56 m68 hm68 hP68 x6.toInt (Int.le_refl _) (fun u0 u1 hq g0 g1 => ih u0 u1 (ms_up hm hq) g0 g1) hpost
        · skip
          refine sp_of (a := 0) (b := 99) k_a_lands k_f_land (iv_add (l := 7) (h := 15) (iv_lit (l := 7) (h := 7) (by decide)) (iv_lta (l := 0) (h := 8) (r_nle c1) hx6 k_f_huts (by decide)) (by decide)) (by decide +kernel) (fun r5 hr5 er5 => ?_)
          refine sp_of (a := 0) (b := 99) k_a_lands k_f_land (iv_add (l := 7) (h := 15) (iv_lit (l := 7) (h := 7) (by decide)) hx5 (by decide)) (by decide +kernel) (fun r6 hr6 er6 => ?_)
          refine ⟨fun c7 => ?_, fun c7 => ?_⟩
          · skip
            exact s_m_findRun_128 k_a_lands k_f_land k_f_huts k_a_run hx3 hx4 hx5 (iv_lta (l := 0) (h := 8) (r_nle c1) hx6 k_f_huts (by decide)) m56 hm56 hP56 m68 hm68 hP68 x6.toInt (Int.le_refl _) (fun u0 u1 hq g0 g1 => ih u0 u1 (ms_up hm hq) g0 g1) hpost
          · skip
            refine ⟨fun c8 => ?_, fun c8 => ?_⟩
            · skip
              refine ⟨fun c9 => ?_, fun c9 => ?_⟩
              · skip
                exact (iv_emp (iv_ne (l := 1) (h := 0) c9 (iv_lit (l := 0) (h := 0) (by decide)) (iv_lit (l := 0) (h := 0) (by decide)) (by decide)) (by decide)).elim
              · skip
                exact s_m_findRun_129 k_a_lands k_f_land k_f_huts k_a_run hx3 hx4 hx5 (iv_lta (l := 0) (h := 8) (r_nle c1) hx6 k_f_huts (by decide)) (iv_w (iv_lit (l := 1) (h := 1) (by decide)) (by decide)) m56 hm56 hP56 m68 hm68 hP68 x6.toInt (Int.le_refl _) (fun u0 u1 hq g0 g1 => ih u0 u1 (ms_up hm hq) g0 g1) hpost
            · skip
              refine ⟨fun c10 => ?_, fun c10 => ?_⟩
              · skip
                exact s_m_findRun_128 k_a_lands k_f_land k_f_huts k_a_run hx3 hx4 hx5 (iv_lta (l := 0) (h := 8) (r_nle c1) hx6 k_f_huts (by decide)) m56 hm56 hP56 m68 hm68 hP68 x6.toInt (Int.le_refl _) (fun u0 u1 hq g0 g1 => ih u0 u1 (ms_up hm hq) g0 g1) hpost
              · skip
                exact (iv_emp (iv_eqa (l := 1) (h := 0) c10 (iv_lit (l := 1) (h := 1) (by decide)) (iv_lit (l := 0) (h := 0) (by decide)) (by decide)) (by decide)).elim
  exact loop _ _ _ (ms_init_up _ _) hx6 k_a_run
set_option maxRecDepth 20000 in
theorem s_m_findRun_68 {P56 : Int32 → (Nat → Int32) → Prop} {a_lands : Nat → Int32} {f_land : Int32} {f_huts : Int32} {a_run : Nat → Int32} {x3 : Int32} {x4 : Int32} {x5 : Int32} {post : (Nat → Int32) → Prop} (k_a_lands : mLand a_lands) (k_f_land : iv 0 1 f_land) (k_f_huts : iv 1 9 f_huts) (k_a_run : ∀ j, iv 0 1000000 (a_run j)) (hx3 : iv 0 511 x3) (hx4 : iv 0 8 x4) (hx5 : iv 0 9 x5) (m56 : Int) (hm56 : m56 ≤ x4.toInt) (hP56 : ∀ (x4 : Int32) (a_run : Nat → Int32), m56 < x4.toInt → iv 0 9 x4 → (∀ j, iv 0 1000000 (a_run j)) → P56 x4 a_run) (hpost : ∀ (a_run : Nat → Int32), (∀ j, iv 0 1000000 (a_run j)) → post a_run) : q_m_findRun_68 P56 a_lands f_land f_huts a_run x3 x4 x5 post := by
  intro P hP
  have loop : ∀ (n : Nat) (x5 : Int32) (a_run : Nat → Int32), (9 - x5.toInt < (n : Int)) → (iv 0 9 x5) → (∀ j, iv 0 1000000 (a_run j)) → P x5 a_run := by
    intro n
    induction n with
    | zero => intro x5 a_run hm hx5 k_a_run; exact (ms0_up hm hx5).elim
    | succ n ih =>
      intro x5 a_run hm hx5 k_a_run
      apply hP
      refine ⟨fun c1 => ?_, fun c1 => ?_⟩
      · skip
        exact s_m_findRun_194 k_a_lands k_f_land k_f_huts k_a_run hx3 hx4 (iv_w (iv_lit (l := 0) (h := 0) (by decide)) (by decide)) m56 hm56 hP56 hpost
      · skip
        exact s_m_findRun_80 k_a_lands k_f_land k_f_huts k_a_run hx3 hx4 (iv_lta (l := 0) (h := 8) (r_nle c1) hx5 k_f_huts (by decide)) (iv_w (iv_lit (l := 0) (h := 0) (by decide)) (by decide)) m56 hm56 hP56 x5.toInt (Int.le_refl _) (fun u0 u1 hq g0 g1 => ih u0 u1 (ms_up hm hq) g0 g1) hpost
  exact loop _ _ _ (ms_init_up _ _) hx5 k_a_run
set_option maxRecDepth 20000 in
theorem s_m_findRun_56 {a_lands : Nat → Int32} {f_land : Int32} {f_huts : Int32} {a_run : Nat → Int32} {x3 : Int32} {x4 : Int32} {post : (Nat → Int32) → Prop} (k_a_lands : mLand a_lands) (k_f_land : iv 0 1 f_land) (k_f_huts : iv 0 9 f_huts) (k_a_run : ∀ j, iv 0 1000000 (a_run j)) (hx3 : iv 0 511 x3) (hx4 : iv 0 9 x4) (hpost : ∀ (a_run : Nat → Int32), (∀ j, iv 0 1000000 (a_run j)) → post a_run) : q_m_findRun_56 a_lands f_land f_huts a_run x3 x4 post := by
  intro P hP
  have loop : ∀ (n : Nat) (x4 : Int32) (a_run : Nat → Int32), (9 - x4.toInt < (n : Int)) → (iv 0 9 x4) → (∀ j, iv 0 1000000 (a_run j)) → P x4 a_run := by
    intro n
    induction n with
    | zero => intro x4 a_run hm hx4 k_a_run; exact (ms0_up hm hx4).elim
    | succ n ih =>
      intro x4 a_run hm hx4 k_a_run
      apply hP
      refine ⟨fun c1 => ?_, fun c1 => ?_⟩
      · skip
        exact hpost _ k_a_run
      · skip
        exact s_m_findRun_68 k_a_lands k_f_land (iv_ltb (l := 1) (h := 9) (r_nle c1) hx4 k_f_huts (by decide)) k_a_run hx3 (iv_lta (l := 0) (h := 8) (r_nle c1) hx4 k_f_huts (by decide)) (iv_w (iv_lit (l := 0) (h := 0) (by decide)) (by decide)) x4.toInt (Int.le_refl _) (fun u0 u1 hq g0 g1 => ih u0 u1 (ms_up hm hq) g0 g1) hpost
  exact loop _ _ _ (ms_init_up _ _) hx4 k_a_run
set_option maxRecDepth 20000 in
theorem s_m_findRun_11 {a_lands : Nat → Int32} {f_land : Int32} {f_huts : Int32} {a_run : Nat → Int32} {x1 : Int32} {x3 : Int32} {x4 : Int32} {post : (Nat → Int32) → Prop} (k_a_lands : mLand a_lands) (k_f_land : iv 0 1 f_land) (k_f_huts : iv 0 9 f_huts) (k_a_run : ∀ j, iv 0 1000000 (a_run j)) (hx1 : iv 0 8 x1) (hx3 : iv 0 511 x3) (hx4 : iv 0 9 x4) (hpost : ∀ (a_run : Nat → Int32), (∀ j, iv 0 1000000 (a_run j)) → post a_run) : q_m_findRun_11 a_lands f_land f_huts a_run x1 x3 x4 post := by
  intro P hP
  have loop : ∀ (n : Nat) (x4 : Int32) (a_run : Nat → Int32), (9 - x4.toInt < (n : Int)) → (iv 0 9 x4) → (∀ j, iv 0 1000000 (a_run j)) → P x4 a_run := by
    intro n
    induction n with
    | zero => intro x4 a_run hm hx4 k_a_run; exact (ms0_up hm hx4).elim
    | succ n ih =>
      intro x4 a_run hm hx4 k_a_run
      apply hP
      refine ⟨fun c1 => ?_, fun c1 => ?_⟩
      · skip
        exact s_m_findRun_56 k_a_lands k_f_land k_f_huts k_a_run hx3 (iv_w (iv_lit (l := 0) (h := 0) (by decide)) (by decide)) hpost
      · skip
        refine ⟨fun c2 => ?_, fun c2 => ?_⟩
        · skip
          exact s_m_findRun_43 k_a_lands k_f_land k_f_huts k_a_run hx1 hx3 (iv_lta (l := 0) (h := 8) (r_nle c1) hx4 (iv_lit (l := 9) (h := 9) (by decide)) (by decide)) (iv_lta (l := 0) (h := 8) (r_nle c1) hx4 (iv_lit (l := 9) (h := 9) (by decide)) (by decide)) x4.toInt (Int.le_refl _) (fun u0 u1 hq g0 g1 => ih u0 u1 (ms_up hm hq) g0 g1) hpost
        · skip
          refine ⟨fun c3 => ?_, fun c3 => ?_⟩
          · skip
            refine ⟨fun c4 => ?_, fun c4 => ?_⟩
            · skip
              exact (iv_emp (iv_ne (l := 1) (h := 0) c4 (iv_lit (l := 0) (h := 0) (by decide)) (iv_lit (l := 0) (h := 0) (by decide)) (by decide)) (by decide)).elim
            · skip
              exact s_m_findRun_46 k_a_lands k_f_land k_f_huts k_a_run hx1 hx3 (iv_lta (l := 0) (h := 8) (r_nle c1) hx4 (iv_lit (l := 9) (h := 9) (by decide)) (by decide)) (iv_lta (l := 0) (h := 8) (r_nle c1) hx4 (iv_lit (l := 9) (h := 9) (by decide)) (by decide)) (iv_w (iv_lit (l := 0) (h := 0) (by decide)) (by decide)) x4.toInt (Int.le_refl _) (fun u0 u1 hq g0 g1 => ih u0 u1 (ms_up hm hq) g0 g1) hpost
          · skip
            refine ⟨fun c5 => ?_, fun c5 => ?_⟩
            · skip
              exact s_m_findRun_43 k_a_lands k_f_land k_f_huts k_a_run hx1 hx3 (iv_lta (l := 0) (h := 8) (r_nle c1) hx4 (iv_lit (l := 9) (h := 9) (by decide)) (by decide)) (iv_lta (l := 0) (h := 8) (r_nle c1) hx4 (iv_lit (l := 9) (h := 9) (by decide)) (by decide)) x4.toInt (Int.le_refl _) (fun u0 u1 hq g0 g1 => ih u0 u1 (ms_up hm hq) g0 g1) hpost
            · skip
              exact (iv_emp (iv_eqa (l := 1) (h := 0) c5 (iv_lit (l := 1) (h := 1) (by decide)) (iv_lit (l := 0) (h := 0) (by decide)) (by decide)) (by decide)).elim
  exact loop _ _ _ (ms_init_up _ _) hx4 k_a_run
set_option maxRecDepth 20000 in
theorem s_m_findRun_0 {a_lands : Nat → Int32} {f_land : Int32} {f_huts : Int32} {a_run : Nat → Int32} {x1 : Int32} {x2 : Int32} {post : (Nat → Int32) → Prop} (k_a_lands : mLand a_lands) (k_f_land : iv 0 1 f_land) (k_f_huts : iv 0 9 f_huts) (k_a_run : ∀ j, iv 0 1000000 (a_run j)) (hx1 : iv 0 8 x1) (hx2 : iv 0 511 x2) (hpost : ∀ (a_run : Nat → Int32), (∀ j, iv 0 1000000 (a_run j)) → post a_run) : q_m_findRun_0 a_lands f_land f_huts a_run x1 x2 post := by
  refine sp_of (a := 0) (b := 511) k_a_lands k_f_land (iv_lit (l := 3) (h := 3) (by decide)) (by decide +kernel) (fun r1 hr1 er1 => ?_)
  intro w2 ew2
  have hw2 := iv_eq ew2 (iv_or 9 (l := 0) (h := 511) hr1 hx2 (by decide))
  exact s_m_findRun_11 k_a_lands k_f_land k_f_huts k_a_run hx1 hw2 (iv_w (iv_lit (l := 0) (h := 0) (by decide)) (by decide)) hpost
