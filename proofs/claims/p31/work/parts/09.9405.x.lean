section
-- wp_X7_fewestCovering
set_option maxRecDepth 20000 in
theorem s_wp_X7_fewestCovering_52 {P10 : Int32 → Int32 → Int32 → Prop} {a_cover : Nat → Int32} {x1 : Int32} {x2 : Int32} {x3 : Int32} {x4 : Int32} {x5 : Int32} {post : Int32 → Prop} (k_a_cover : ∀ j, iv 0 511 (a_cover j)) (hx1 : iv 0 511 x1) (hx2 : iv 0 9 x2) (hx3 : iv (-1) 2147483647 x3) (hx4 : iv 0 63 x4) (hx5 : iv 0 511 x5) (m10 : Int) (hm10 : m10 ≤ x5.toInt) (hP10 : ∀ (x3 : Int32) (x4 : Int32) (x5 : Int32), m10 < x5.toInt → iv (-1) 2147483647 x3 → iv 0 63 x4 → iv 0 512 x5 → P10 x3 x4 x5) (hpost : ∀ (r : Int32), iv (-1) 2147483647 r → post r) : q_wp_X7_fewestCovering_52 P10 a_cover x1 x2 x3 x4 x5 post := by
  intro w1 ew1
  have hw1 := iv_eq ew1 (iv_add (l := 1) (h := 512) hx5 (iv_lit (l := 1) (h := 1) (by decide)) (by decide))
  exact hP10 _ _ _ (ml_up hm10 (inc_lt ew1 hx5 (by decide))) hx3 hx4 (iv_w hw1 (by decide))
set_option maxRecDepth 20000 in
theorem s_wp_X7_fewestCovering_10 {a_cover : Nat → Int32} {x1 : Int32} {x2 : Int32} {x3 : Int32} {x4 : Int32} {x5 : Int32} {post : Int32 → Prop} (k_a_cover : ∀ j, iv 0 511 (a_cover j)) (hx1 : iv 0 511 x1) (hx2 : iv 0 9 x2) (hx3 : iv (-1) 2147483647 x3) (hx4 : iv 0 63 x4) (hx5 : iv 0 512 x5) (hpost : ∀ (r : Int32), iv (-1) 2147483647 r → post r) : q_wp_X7_fewestCovering_10 a_cover x1 x2 x3 x4 x5 post := by
  intro P hP
  have loop : ∀ (n : Nat) (x3 : Int32) (x4 : Int32) (x5 : Int32), (512 - x5.toInt < (n : Int)) → (iv (-1) 2147483647 x3) → (iv 0 63 x4) → (iv 0 512 x5) → P x3 x4 x5 := by
    intro n
    induction n with
    | zero => intro x3 x4 x5 hm hx3 hx4 hx5; exact (ms0_up hm hx5).elim
    | succ n ih =>
      intro x3 x4 x5 hm hx3 hx4 hx5
      apply hP
      refine ⟨fun c1 => ?_, fun c1 => ?_⟩
      · skip
        exact hpost _ hx3
      · skip
        refine s_z_J6_bitCount_0f7a4_0 (iv_w (iv_lta (l := 0) (h := 511) (r_nle c1) hx5 (iv_shl1 (l := 1) (h := 512) (iv_lit (l := 1) (h := 1) (by decide)) hx2 (by decide)) (by decide)) (by decide)) (fun r2 hr2 => ?_)
        refine ⟨fun c3 => ?_, fun c3 => ?_⟩
        · skip
          exact s_wp_X7_fewestCovering_52 k_a_cover hx1 hx2 hx3 hx4 (iv_lta (l := 0) (h := 511) (r_nle c1) hx5 (iv_shl1 (l := 1) (h := 512) (iv_lit (l := 1) (h := 1) (by decide)) hx2 (by decide)) (by decide)) x5.toInt (Int.le_refl _) (fun u0 u1 u2 hq g0 g1 g2 => ih u0 u1 u2 (ms_up hm hq) g0 g1 g2) hpost
        · skip
          refine s_wp_X7_covered_0 k_a_cover (iv_lta (l := 0) (h := 511) (r_nle c1) hx5 (iv_shl1 (l := 1) (h := 512) (iv_lit (l := 1) (h := 1) (by decide)) hx2 (by decide)) (by decide)) hx2 (fun r4 hr4 => ?_)
          refine ⟨fun c5 => ?_, fun c5 => ?_⟩
          · skip
            exact s_wp_X7_fewestCovering_52 k_a_cover hx1 hx2 hx3 (iv_w (iv_ltb (l := 1) (h := 63) (r_nle c3) hr2 hx4 (by decide)) (by decide)) (iv_lta (l := 0) (h := 511) (r_nle c1) hx5 (iv_shl1 (l := 1) (h := 512) (iv_lit (l := 1) (h := 1) (by decide)) hx2 (by decide)) (by decide)) x5.toInt (Int.le_refl _) (fun u0 u1 u2 hq g0 g1 g2 => ih u0 u1 u2 (ms_up hm hq) g0 g1 g2) hpost
          · skip
            refine s_z_J6_bitCount_0f7a4_0 (iv_w (iv_lta (l := 0) (h := 511) (r_nle c1) hx5 (iv_shl1 (l := 1) (h := 512) (iv_lit (l := 1) (h := 1) (by decide)) hx2 (by decide)) (by decide)) (by decide)) (fun r6 hr6 => ?_)
            exact s_wp_X7_fewestCovering_52 k_a_cover hx1 hx2 (iv_w (iv_lta (l := 0) (h := 511) (r_nle c1) hx5 (iv_shl1 (l := 1) (h := 512) (iv_lit (l := 1) (h := 1) (by decide)) hx2 (by decide)) (by decide)) (by decide)) hr6 (iv_lta (l := 0) (h := 511) (r_nle c1) hx5 (iv_shl1 (l := 1) (h := 512) (iv_lit (l := 1) (h := 1) (by decide)) hx2 (by decide)) (by decide)) x5.toInt (Int.le_refl _) (fun u0 u1 u2 hq g0 g1 g2 => ih u0 u1 u2 (ms_up hm hq) g0 g1 g2) hpost
  exact loop _ _ _ _ (ms_init_up _ _) hx3 hx4 hx5
set_option maxRecDepth 20000 in
theorem s_wp_X7_fewestCovering_0 {a_cover : Nat → Int32} {x1 : Int32} {x2 : Int32} {post : Int32 → Prop} (k_a_cover : ∀ j, iv 0 511 (a_cover j)) (hx1 : iv 0 511 x1) (hx2 : iv 0 9 x2) (hpost : ∀ (r : Int32), iv (-1) 2147483647 r → post r) : q_wp_X7_fewestCovering_0 a_cover x1 x2 post := by
  intro w1 ew1
  have hw1 := iv_eq ew1 (iv_add (l := 1) (h := 10) hx2 (iv_lit (l := 1) (h := 1) (by decide)) (by decide))
  exact s_wp_X7_fewestCovering_10 k_a_cover hx1 hx2 (iv_w (iv_lit (l := (-1)) (h := (-1)) (by decide)) (by decide)) (iv_w hw1 (by decide)) (iv_w (iv_lit (l := 0) (h := 0) (by decide)) (by decide)) hpost
-- wp_X7_coverBy_2
set_option maxRecDepth 20000 in
theorem s_wp_X7_coverBy_2_54 {P3 : Int32 → (Nat → Int32) → Prop} {P20 : Int32 → (Nat → Int32) → Prop} {a_walked : Nat → Int32} {a_cover : Nat → Int32} {x2 : Int32} {x3 : Int32} {x4 : Int32} {x5 : Int32} {post : (Nat → Int32) → Prop} (k_a_walked : ∀ j, iv 0 1000 (a_walked j)) (k_a_cover : ∀ j, iv 0 511 (a_cover j)) (hx2 : iv 1 9 x2) (hx3 : iv 0 99 x3) (hx4 : iv 0 8 x4) (hx5 : iv 0 8 x5) (m3 : Int) (hm3 : m3 ≤ x4.toInt) (hP3 : ∀ (x4 : Int32) (a_cover : Nat → Int32), m3 < x4.toInt → iv 0 9 x4 → (∀ j, iv 0 511 (a_cover j)) → P3 x4 a_cover) (m20 : Int) (hm20 : m20 ≤ x5.toInt) (hP20 : ∀ (x5 : Int32) (a_cover : Nat → Int32), m20 < x5.toInt → iv 0 9 x5 → (∀ j, iv 0 511 (a_cover j)) → P20 x5 a_cover) (hpost : ∀ (a_cover : Nat → Int32), (∀ j, iv 0 511 (a_cover j)) → post a_cover) : q_wp_X7_coverBy_2_54 P3 P20 a_walked a_cover x2 x3 x4 x5 post := by
  intro w1 ew1
  have hw1 := iv_eq ew1 (iv_add (l := 1) (h := 9) hx5 (iv_lit (l := 1) (h := 1) (by decide)) (by decide))
  exact hP20 _ _ (ml_up hm20 (inc_lt ew1 hx5 (by decide))) (iv_w hw1 (by decide)) k_a_cover
set_option maxRecDepth 20000 in
theorem s_wp_X7_coverBy_2_20 {P3 : Int32 → (Nat → Int32) → Prop} {a_walked : Nat → Int32} {a_cover : Nat → Int32} {x2 : Int32} {x3 : Int32} {x4 : Int32} {x5 : Int32} {post : (Nat → Int32) → Prop} (k_a_walked : ∀ j, iv 0 1000 (a_walked j)) (k_a_cover : ∀ j, iv 0 511 (a_cover j)) (hx2 : iv 1 9 x2) (hx3 : iv 0 99 x3) (hx4 : iv 0 8 x4) (hx5 : iv 0 9 x5) (m3 : Int) (hm3 : m3 ≤ x4.toInt) (hP3 : ∀ (x4 : Int32) (a_cover : Nat → Int32), m3 < x4.toInt → iv 0 9 x4 → (∀ j, iv 0 511 (a_cover j)) → P3 x4 a_cover) (hpost : ∀ (a_cover : Nat → Int32), (∀ j, iv 0 511 (a_cover j)) → post a_cover) : q_wp_X7_coverBy_2_20 P3 a_walked a_cover x2 x3 x4 x5 post := by
  intro P hP
  have loop : ∀ (n : Nat) (x5 : Int32) (a_cover : Nat → Int32), (9 - x5.toInt < (n : Int)) → (iv 0 9 x5) → (∀ j, iv 0 511 (a_cover j)) → P x5 a_cover := by
    intro n
    induction n with
    | zero => intro x5 a_cover hm hx5 k_a_cover; exact (ms0_up hm hx5).elim
    | succ n ih =>
      intro x5 a_cover hm hx5 k_a_cover
      apply hP
      refine ⟨fun c1 => ?_, fun c1 => ?_⟩
      · skip
        intro w2 ew2
        have hw2 := iv_eq ew2 (iv_add (l := 1) (h := 9) hx4 (iv_lit (l := 1) (h := 1) (by decide)) (by decide))
        exact hP3 _ _ (ml_up hm3 (inc_lt ew2 hx4 (by decide))) (iv_w hw2 (by decide)) k_a_cover
      · skip
        refine ⟨iv_in (iv_add (l := 0) (h := 80) (iv_mul (l := 0) (h := 72) hx4 (iv_lit (l := 9) (h := 9) (by decide)) (by decide)) (iv_lta (l := 0) (h := 8) (r_nle c1) hx5 hx2 (by decide)) (by decide)) (by decide), ?_⟩
        refine ⟨fun c3 => ?_, fun c3 => ?_⟩
        · skip
          exact s_wp_X7_coverBy_2_54 k_a_walked k_a_cover hx2 hx3 hx4 (iv_lta (l := 0) (h := 8) (r_nle c1) hx5 hx2 (by decide)) m3 hm3 hP3 x5.toInt (Int.le_refl _) (fun u0 u1 hq g0 g1 => ih u0 u1 (ms_up hm hq) g0 g1) hpost
        · skip
          refine ⟨iv_in hx4 (by decide), ?_⟩
          intro w4 ew4
          have hw4 := iv_eq ew4 (iv_or 9 (l := 0) (h := 511) (k_a_cover _) (iv_shl1 (l := 1) (h := 256) (iv_lit (l := 1) (h := 1) (by decide)) (iv_lta (l := 0) (h := 8) (r_nle c1) hx5 hx2 (by decide)) (by decide)) (by decide))
          refine ⟨iv_in hx4 (by decide), ?_⟩
          intro a5 ea5
          have k_a5 := iv_upd ea5 k_a_cover hw4
          exact s_wp_X7_coverBy_2_54 k_a_walked k_a5 hx2 hx3 hx4 (iv_lta (l := 0) (h := 8) (r_nle c1) hx5 hx2 (by decide)) m3 hm3 hP3 x5.toInt (Int.le_refl _) (fun u0 u1 hq g0 g1 => ih u0 u1 (ms_up hm hq) g0 g1) hpost
  exact loop _ _ _ (ms_init_up _ _) hx5 k_a_cover
set_option maxRecDepth 20000 in
theorem s_wp_X7_coverBy_2_3 {a_walked : Nat → Int32} {a_cover : Nat → Int32} {x2 : Int32} {x3 : Int32} {x4 : Int32} {post : (Nat → Int32) → Prop} (k_a_walked : ∀ j, iv 0 1000 (a_walked j)) (k_a_cover : ∀ j, iv 0 511 (a_cover j)) (hx2 : iv 0 9 x2) (hx3 : iv 0 99 x3) (hx4 : iv 0 9 x4) (hpost : ∀ (a_cover : Nat → Int32), (∀ j, iv 0 511 (a_cover j)) → post a_cover) : q_wp_X7_coverBy_2_3 a_walked a_cover x2 x3 x4 post := by
  intro P hP
  have loop : ∀ (n : Nat) (x4 : Int32) (a_cover : Nat → Int32), (9 - x4.toInt < (n : Int)) → (iv 0 9 x4) → (∀ j, iv 0 511 (a_cover j)) → P x4 a_cover := by
    intro n
    induction n with
    | zero => intro x4 a_cover hm hx4 k_a_cover; exact (ms0_up hm hx4).elim
    | succ n ih =>
      intro x4 a_cover hm hx4 k_a_cover
      apply hP
      refine ⟨fun c1 => ?_, fun c1 => ?_⟩
      · skip
        exact hpost _ k_a_cover
      · skip
        refine ⟨iv_in (iv_lta (l := 0) (h := 8) (r_nle c1) hx4 hx2 (by decide)) (by decide), ?_⟩
        intro a2 ea2
        have k_a2 := iv_upd ea2 k_a_cover (iv_w (iv_lit (l := 0) (h := 0) (by decide)) (by decide))
        exact s_wp_X7_coverBy_2_20 k_a_walked k_a2 (iv_ltb (l := 1) (h := 9) (r_nle c1) hx4 hx2 (by decide)) hx3 (iv_lta (l := 0) (h := 8) (r_nle c1) hx4 hx2 (by decide)) (iv_w (iv_lit (l := 0) (h := 0) (by decide)) (by decide)) x4.toInt (Int.le_refl _) (fun u0 u1 hq g0 g1 => ih u0 u1 (ms_up hm hq) g0 g1) hpost
  exact loop _ _ _ (ms_init_up _ _) hx4 k_a_cover
set_option maxRecDepth 20000 in
theorem s_wp_X7_coverBy_2_0 {a_walked : Nat → Int32} {a_cover : Nat → Int32} {x2 : Int32} {x3 : Int32} {post : (Nat → Int32) → Prop} (k_a_walked : ∀ j, iv 0 1000 (a_walked j)) (k_a_cover : ∀ j, iv 0 511 (a_cover j)) (hx2 : iv 0 9 x2) (hx3 : iv 0 99 x3) (hpost : ∀ (a_cover : Nat → Int32), (∀ j, iv 0 511 (a_cover j)) → post a_cover) : q_wp_X7_coverBy_2_0 a_walked a_cover x2 x3 post := by
  exact s_wp_X7_coverBy_2_3 k_a_walked k_a_cover hx2 hx3 (iv_w (iv_lit (l := 0) (h := 0) (by decide)) (by decide)) hpost
-- wp_J7_fill_53178_3
set_option maxRecDepth 20000 in
theorem s_wp_J7_fill_53178_3_5 {a_total : Nat → Int32} {x1 : Int32} {x2 : Int32} {x3 : Int32} {post : (Nat → Int32) → Prop} (hx1 : iv 0 0 x1) (hx2 : iv 0 9 x2) (hx3 : iv 9 9 x3) (hpost : ∀ (a_total : Nat → Int32), post a_total) : q_wp_J7_fill_53178_3_5 a_total x1 x2 x3 post := by
  intro P hP
  have loop : ∀ (n : Nat) (x2 : Int32) (a_total : Nat → Int32), (9 - x2.toInt < (n : Int)) → (iv 0 9 x2) → P x2 a_total := by
    intro n
    induction n with
    | zero => intro x2 a_total hm hx2; exact (ms0_up hm hx2).elim
    | succ n ih =>
      intro x2 a_total hm hx2
      apply hP
      refine ⟨fun c1 => ?_, fun c1 => ?_⟩
      · skip
        exact hpost _
      · skip
        refine ⟨iv_in (iv_lta (l := 0) (h := 8) (r_nle c1) hx2 hx3 (by decide)) (by decide), ?_⟩
        intro a2 ea2
        intro w3 ew3
        have hw3 := iv_eq ew3 (iv_add (l := 1) (h := 9) (iv_lta (l := 0) (h := 8) (r_nle c1) hx2 hx3 (by decide)) (iv_lit (l := 1) (h := 1) (by decide)) (by decide))
        exact ih _ _ (ms_up hm (inc_lt ew3 (iv_lta (l := 0) (h := 8) (r_nle c1) hx2 hx3 (by decide)) (by decide))) (iv_w hw3 (by decide))
  exact loop _ _ _ (ms_init_up _ _) hx2
set_option maxRecDepth 20000 in
theorem s_wp_J7_fill_53178_3_0 {a_total : Nat → Int32} {x1 : Int32} {post : (Nat → Int32) → Prop} (hx1 : iv 0 0 x1) (hpost : ∀ (a_total : Nat → Int32), post a_total) : q_wp_J7_fill_53178_3_0 a_total x1 post := by
  exact s_wp_J7_fill_53178_3_5 hx1 (iv_w (iv_lit (l := 0) (h := 0) (by decide)) (by decide)) (iv_lit (l := 9) (h := 9) (by decide)) hpost
-- wp_J7_fill_53178_4
set_option maxRecDepth 20000 in
theorem s_wp_J7_fill_53178_4_5 {a_longest : Nat → Int32} {x1 : Int32} {x2 : Int32} {x3 : Int32} {post : (Nat → Int32) → Prop} (k_a_longest : ∀ j, iv 0 8 (a_longest j)) (hx1 : iv 0 0 x1) (hx2 : iv 0 9 x2) (hx3 : iv 9 9 x3) (hpost : ∀ (a_longest : Nat → Int32), (∀ j, iv 0 8 (a_longest j)) → post a_longest) : q_wp_J7_fill_53178_4_5 a_longest x1 x2 x3 post := by
  intro P hP
  have loop : ∀ (n : Nat) (x2 : Int32) (a_longest : Nat → Int32), (9 - x2.toInt < (n : Int)) → (iv 0 9 x2) → (∀ j, iv 0 8 (a_longest j)) → P x2 a_longest := by
    intro n
    induction n with
    | zero => intro x2 a_longest hm hx2 k_a_longest; exact (ms0_up hm hx2).elim
    | succ n ih =>
      intro x2 a_longest hm hx2 k_a_longest
      apply hP
      refine ⟨fun c1 => ?_, fun c1 => ?_⟩
      · skip
        exact hpost _ k_a_longest
      · skip
        refine ⟨iv_in (iv_lta (l := 0) (h := 8) (r_nle c1) hx2 hx3 (by decide)) (by decide), ?_⟩
        intro a2 ea2
        have k_a2 := iv_upd ea2 k_a_longest (iv_w hx1 (by decide))
        intro w3 ew3
        have hw3 := iv_eq ew3 (iv_add (l := 1) (h := 9) (iv_lta (l := 0) (h := 8) (r_nle c1) hx2 hx3 (by decide)) (iv_lit (l := 1) (h := 1) (by decide)) (by decide))
        exact ih _ _ (ms_up hm (inc_lt ew3 (iv_lta (l := 0) (h := 8) (r_nle c1) hx2 hx3 (by decide)) (by decide))) (iv_w hw3 (by decide)) k_a2
  exact loop _ _ _ (ms_init_up _ _) hx2 k_a_longest
set_option maxRecDepth 20000 in
theorem s_wp_J7_fill_53178_4_0 {a_longest : Nat → Int32} {x1 : Int32} {post : (Nat → Int32) → Prop} (k_a_longest : ∀ j, iv 0 8 (a_longest j)) (hx1 : iv 0 0 x1) (hpost : ∀ (a_longest : Nat → Int32), (∀ j, iv 0 8 (a_longest j)) → post a_longest) : q_wp_J7_fill_53178_4_0 a_longest x1 post := by
  exact s_wp_J7_fill_53178_4_5 k_a_longest hx1 (iv_w (iv_lit (l := 0) (h := 0) (by decide)) (by decide)) (iv_lit (l := 9) (h := 9) (by decide)) hpost
-- wp_J7_fill_53178_7
set_option maxRecDepth 20000 in
theorem s_wp_J7_fill_53178_7_5 {a_now : Nat → Int32} {x1 : Int32} {x2 : Int32} {x3 : Int32} {post : (Nat → Int32) → Prop} (hx1 : iv 0 1000 x1) (hx2 : iv 0 9 x2) (hx3 : iv 9 9 x3) (hpost : ∀ (a_now : Nat → Int32), post a_now) : q_wp_J7_fill_53178_7_5 a_now x1 x2 x3 post := by
  intro P hP
  have loop : ∀ (n : Nat) (x2 : Int32) (a_now : Nat → Int32), (9 - x2.toInt < (n : Int)) → (iv 0 9 x2) → P x2 a_now := by
    intro n
    induction n with
    | zero => intro x2 a_now hm hx2; exact (ms0_up hm hx2).elim
    | succ n ih =>
      intro x2 a_now hm hx2
      apply hP
      refine ⟨fun c1 => ?_, fun c1 => ?_⟩
      · skip
        exact hpost _
      · skip
        refine ⟨iv_in (iv_lta (l := 0) (h := 8) (r_nle c1) hx2 hx3 (by decide)) (by decide), ?_⟩
        intro a2 ea2
        intro w3 ew3
        have hw3 := iv_eq ew3 (iv_add (l := 1) (h := 9) (iv_lta (l := 0) (h := 8) (r_nle c1) hx2 hx3 (by decide)) (iv_lit (l := 1) (h := 1) (by decide)) (by decide))
        exact ih _ _ (ms_up hm (inc_lt ew3 (iv_lta (l := 0) (h := 8) (r_nle c1) hx2 hx3 (by decide)) (by decide))) (iv_w hw3 (by decide))
  exact loop _ _ _ (ms_init_up _ _) hx2
set_option maxRecDepth 20000 in
theorem s_wp_J7_fill_53178_7_0 {a_now : Nat → Int32} {x1 : Int32} {post : (Nat → Int32) → Prop} (hx1 : iv 0 1000 x1) (hpost : ∀ (a_now : Nat → Int32), post a_now) : q_wp_J7_fill_53178_7_0 a_now x1 post := by
  exact s_wp_J7_fill_53178_7_5 hx1 (iv_w (iv_lit (l := 0) (h := 0) (by decide)) (by decide)) (iv_lit (l := 9) (h := 9) (by decide)) hpost
-- wp_X7_routesOn_9
set_option maxRecDepth 20000 in
theorem s_wp_X7_routesOn_9_34 {P5 : Int32 → Int32 → Prop} {a_now : Nat → Int32} {lf_huts : Int32} {lf_dams : Int32} {la_heights : Nat → Int32} {la_minutes : Nat → Int32} {x2 : Int32} {x3 : Int32} {x4 : Int32} {post : Int32 → Prop} (k_lf_huts : iv 2 9 lf_huts) (k_lf_dams : iv 0 511 lf_dams) (k_la_heights : ∀ j, iv 0 99 (la_heights j)) (k_la_minutes : ∀ j, iv 0 9 (la_minutes j)) (hx2 : iv 0 8 x2) (hx4 : iv 0 8 x4) (m5 : Int) (hm5 : m5 ≤ x4.toInt) (hP5 : ∀ (x3 : Int32) (x4 : Int32), m5 < x4.toInt → iv 0 9 x4 → P5 x3 x4) (hpost : ∀ (r : Int32), post r) : q_wp_X7_routesOn_9_34 P5 a_now lf_huts lf_dams la_heights la_minutes x2 x3 x4 post := by
  intro w1 ew1
  have hw1 := iv_eq ew1 (iv_add (l := 1) (h := 9) hx4 (iv_lit (l := 1) (h := 1) (by decide)) (by decide))
  exact hP5 _ _ (ml_up hm5 (inc_lt ew1 hx4 (by decide))) (iv_w hw1 (by decide))
set_option maxRecDepth 20000 in
theorem s_wp_X7_routesOn_9_5 {a_now : Nat → Int32} {lf_huts : Int32} {lf_dams : Int32} {la_heights : Nat → Int32} {la_minutes : Nat → Int32} {x2 : Int32} {x3 : Int32} {x4 : Int32} {post : Int32 → Prop} (k_lf_huts : iv 2 9 lf_huts) (k_lf_dams : iv 0 511 lf_dams) (k_la_heights : ∀ j, iv 0 99 (la_heights j)) (k_la_minutes : ∀ j, iv 0 9 (la_minutes j)) (hx2 : iv 0 8 x2) (hx4 : iv 0 9 x4) (hpost : ∀ (r : Int32), post r) : q_wp_X7_routesOn_9_5 a_now lf_huts lf_dams la_heights la_minutes x2 x3 x4 post := by
  intro P hP
  have loop : ∀ (n : Nat) (x3 : Int32) (x4 : Int32), (9 - x4.toInt < (n : Int)) → (iv 0 9 x4) → P x3 x4 := by
    intro n
    induction n with
    | zero => intro x3 x4 hm hx4; exact (ms0_up hm hx4).elim
    | succ n ih =>
      intro x3 x4 hm hx4
      apply hP
      refine ⟨fun c1 => ?_, fun c1 => ?_⟩
      · skip
        exact hpost _
      · skip
        refine ⟨iv_in (iv_add (l := 0) (h := 80) (iv_mul (l := 0) (h := 72) (iv_lta (l := 0) (h := 8) (r_nle c1) hx4 k_lf_huts (by decide)) (iv_lit (l := 9) (h := 9) (by decide)) (by decide)) hx2 (by decide)) (by decide), ?_⟩
        refine ⟨fun c2 => ?_, fun c2 => ?_⟩
        · skip
          refine ⟨fun c3 => ?_, fun c3 => ?_⟩
          · skip
            exact s_wp_X7_routesOn_9_34 k_lf_huts k_lf_dams k_la_heights k_la_minutes hx2 (iv_lta (l := 0) (h := 8) (r_nle c1) hx4 k_lf_huts (by decide)) x4.toInt (Int.le_refl _) (fun u0 u1 hq g0 => ih u0 u1 (ms_up hm hq) g0) hpost
          · skip
            exact (iv_emp (iv_ne (l := 1) (h := 0) c3 (iv_lit (l := 0) (h := 0) (by decide)) (iv_lit (l := 0) (h := 0) (by decide)) (by decide)) (by decide)).elim
        · skip
          refine ⟨iv_in hx2 (by decide), ?_⟩
          refine ⟨iv_in (iv_lta (l := 0) (h := 8) (r_nle c1) hx4 k_lf_huts (by decide)) (by decide), ?_⟩
          refine ⟨fun c4 => ?_, fun c4 => ?_⟩
          · skip
            refine ⟨fun c5 => ?_, fun c5 => ?_⟩
            · skip
              exact s_wp_X7_routesOn_9_34 k_lf_huts k_lf_dams k_la_heights k_la_minutes hx2 (iv_lta (l := 0) (h := 8) (r_nle c1) hx4 k_lf_huts (by decide)) x4.toInt (Int.le_refl _) (fun u0 u1 hq g0 => ih u0 u1 (ms_up hm hq) g0) hpost
            · skip
              exact (iv_emp (iv_ne (l := 1) (h := 0) c5 (iv_lit (l := 0) (h := 0) (by decide)) (iv_lit (l := 0) (h := 0) (by decide)) (by decide)) (by decide)).elim
          · skip
            refine ⟨fun c6 => ?_, fun c6 => ?_⟩
            · skip
              refine ⟨fun c7 => ?_, fun c7 => ?_⟩
              · skip
                exact (iv_emp (iv_ne (l := 1) (h := 0) c7 (iv_lit (l := 0) (h := 0) (by decide)) (iv_lit (l := 0) (h := 0) (by decide)) (by decide)) (by decide)).elim
              · skip
                refine ⟨fun c8 => ?_, fun c8 => ?_⟩
                · skip
                  refine ⟨fun c9 => ?_, fun c9 => ?_⟩
                  · skip
                    exact (iv_emp (iv_ne (l := 1) (h := 0) c9 (iv_lit (l := 0) (h := 0) (by decide)) (iv_lit (l := 0) (h := 0) (by decide)) (by decide)) (by decide)).elim
                  · skip
                    refine ⟨fun c10 => ?_, fun c10 => ?_⟩
                    · skip
                      exact (iv_emp (iv_eqa (l := 1) (h := 0) c10 (iv_lit (l := 1) (h := 1) (by decide)) (iv_lit (l := 0) (h := 0) (by decide)) (by decide)) (by decide)).elim
                    · skip
                      refine ⟨iv_in (iv_lta (l := 0) (h := 8) (r_nle c1) hx4 k_lf_huts (by decide)) (by decide), ?_⟩
                      intro w11 ew11
                      exact s_wp_X7_routesOn_9_34 k_lf_huts k_lf_dams k_la_heights k_la_minutes hx2 (iv_lta (l := 0) (h := 8) (r_nle c1) hx4 k_lf_huts (by decide)) x4.toInt (Int.le_refl _) (fun u0 u1 hq g0 => ih u0 u1 (ms_up hm hq) g0) hpost
                · skip
                  refine ⟨fun c12 => ?_, fun c12 => ?_⟩
                  · skip
                    refine ⟨fun c13 => ?_, fun c13 => ?_⟩
                    · skip
                      exact s_wp_X7_routesOn_9_34 k_lf_huts k_lf_dams k_la_heights k_la_minutes hx2 (iv_lta (l := 0) (h := 8) (r_nle c1) hx4 k_lf_huts (by decide)) x4.toInt (Int.le_refl _) (fun u0 u1 hq g0 => ih u0 u1 (ms_up hm hq) g0) hpost
                    · skip
                      exact (iv_emp (iv_ne (l := 1) (h := 0) c13 (iv_lit (l := 0) (h := 0) (by decide)) (iv_lit (l := 0) (h := 0) (by decide)) (by decide)) (by decide)).elim
                  · skip
                    exact (iv_emp (iv_eqa (l := 1) (h := 0) c12 (iv_lit (l := 1) (h := 1) (by decide)) (iv_lit (l := 0) (h := 0) (by decide)) (by decide)) (by decide)).elim
            · skip
              refine ⟨fun c14 => ?_, fun c14 => ?_⟩
              · skip
                refine ⟨fun c15 => ?_, fun c15 => ?_⟩
                · skip
                  exact s_wp_X7_routesOn_9_34 k_lf_huts k_lf_dams k_la_heights k_la_minutes hx2 (iv_lta (l := 0) (h := 8) (r_nle c1) hx4 k_lf_huts (by decide)) x4.toInt (Int.le_refl _) (fun u0 u1 hq g0 => ih u0 u1 (ms_up hm hq) g0) hpost
                · skip
                  exact (iv_emp (iv_ne (l := 1) (h := 0) c15 (iv_lit (l := 0) (h := 0) (by decide)) (iv_lit (l := 0) (h := 0) (by decide)) (by decide)) (by decide)).elim
              · skip
                exact (iv_emp (iv_eqa (l := 1) (h := 0) c14 (iv_lit (l := 1) (h := 1) (by decide)) (iv_lit (l := 0) (h := 0) (by decide)) (by decide)) (by decide)).elim
  exact loop _ _ _ (ms_init_up _ _) hx4
set_option maxRecDepth 20000 in
theorem s_wp_X7_routesOn_9_0 {a_now : Nat → Int32} {lf_huts : Int32} {lf_dams : Int32} {la_heights : Nat → Int32} {la_minutes : Nat → Int32} {x2 : Int32} {post : Int32 → Prop} (k_lf_huts : iv 2 9 lf_huts) (k_lf_dams : iv 0 511 lf_dams) (k_la_heights : ∀ j, iv 0 99 (la_heights j)) (k_la_minutes : ∀ j, iv 0 9 (la_minutes j)) (hx2 : iv 0 8 x2) (hpost : ∀ (r : Int32), post r) : q_wp_X7_routesOn_9_0 a_now lf_huts lf_dams la_heights la_minutes x2 post := by
  exact s_wp_X7_routesOn_9_5 k_lf_huts k_lf_dams k_la_heights k_la_minutes hx2 (iv_w (iv_lit (l := 0) (h := 0) (by decide)) (by decide)) hpost
-- wp_X7_trace_9
set_option maxRecDepth 20000 in
theorem s_wp_X7_trace_9_102 {P33 : Int32 → (Nat → Int32) → (Nat → Int32) → (Nat → Int32) → (Nat → Int32) → Prop} {P44 : Int32 → (Nat → Int32) → (Nat → Int32) → (Nat → Int32) → Prop} {a_total : Nat → Int32} {a_longest : Nat → Int32} {a_now : Nat → Int32} {a_then : Nat → Int32} {lf_huts : Int32} {lf_dams : Int32} {la_heights : Nat → Int32} {la_minutes : Nat → Int32} {x3 : Int32} {x4 : Int32} {post : (Nat → Int32) → (Nat → Int32) → (Nat → Int32) → (Nat → Int32) → Prop} (k_a_longest : ∀ j, iv 0 8 (a_longest j)) (k_lf_huts : iv 2 9 lf_huts) (k_lf_dams : iv 0 511 lf_dams) (k_la_heights : ∀ j, iv 0 99 (la_heights j)) (k_la_minutes : ∀ j, iv 0 9 (la_minutes j)) (hx3 : iv 1 8 x3) (hx4 : iv 0 8 x4) (m33 : Int) (hm33 : m33 ≤ x3.toInt) (hP33 : ∀ (x3 : Int32) (a_total : Nat → Int32) (a_longest : Nat → Int32) (a_now : Nat → Int32) (a_then : Nat → Int32), m33 < x3.toInt → iv 1 9 x3 → (∀ j, iv 0 8 (a_longest j)) → P33 x3 a_total a_longest a_now a_then) (m44 : Int) (hm44 : m44 ≤ x4.toInt) (hP44 : ∀ (x4 : Int32) (a_total : Nat → Int32) (a_longest : Nat → Int32) (a_then : Nat → Int32), m44 < x4.toInt → iv 0 9 x4 → (∀ j, iv 0 8 (a_longest j)) → P44 x4 a_total a_longest a_then) (hpost : ∀ (a_total : Nat → Int32) (a_longest : Nat → Int32) (a_now : Nat → Int32) (a_then : Nat → Int32), (∀ j, iv 0 8 (a_longest j)) → post a_total a_longest a_now a_then) : q_wp_X7_trace_9_102 P33 P44 a_total a_longest a_now a_then lf_huts lf_dams la_heights la_minutes x3 x4 post := by
  intro w1 ew1
  have hw1 := iv_eq ew1 (iv_add (l := 1) (h := 9) hx4 (iv_lit (l := 1) (h := 1) (by decide)) (by decide))
  exact hP44 _ _ _ _ (ml_up hm44 (inc_lt ew1 hx4 (by decide))) (iv_w hw1 (by decide)) k_a_longest
set_option maxRecDepth 20000 in
theorem s_wp_X7_trace_9_44 {P33 : Int32 → (Nat → Int32) → (Nat → Int32) → (Nat → Int32) → (Nat → Int32) → Prop} {a_total : Nat → Int32} {a_longest : Nat → Int32} {a_now : Nat → Int32} {a_then : Nat → Int32} {lf_huts : Int32} {lf_dams : Int32} {la_heights : Nat → Int32} {la_minutes : Nat → Int32} {x3 : Int32} {x4 : Int32} {post : (Nat → Int32) → (Nat → Int32) → (Nat → Int32) → (Nat → Int32) → Prop} (k_a_longest : ∀ j, iv 0 8 (a_longest j)) (k_lf_huts : iv 2 9 lf_huts) (k_lf_dams : iv 0 511 lf_dams) (k_la_heights : ∀ j, iv 0 99 (la_heights j)) (k_la_minutes : ∀ j, iv 0 9 (la_minutes j)) (hx3 : iv 1 8 x3) (hx4 : iv 0 9 x4) (m33 : Int) (hm33 : m33 ≤ x3.toInt) (hP33 : ∀ (x3 : Int32) (a_total : Nat → Int32) (a_longest : Nat → Int32) (a_now : Nat → Int32) (a_then : Nat → Int32), m33 < x3.toInt → iv 1 9 x3 → (∀ j, iv 0 8 (a_longest j)) → P33 x3 a_total a_longest a_now a_then) (hpost : ∀ (a_total : Nat → Int32) (a_longest : Nat → Int32) (a_now : Nat → Int32) (a_then : Nat → Int32), (∀ j, iv 0 8 (a_longest j)) → post a_total a_longest a_now a_then) : q_wp_X7_trace_9_44 P33 a_total a_longest a_now a_then lf_huts lf_dams la_heights la_minutes x3 x4 post := by
  intro P hP
  have loop : ∀ (n : Nat) (x4 : Int32) (a_total : Nat → Int32) (a_longest : Nat → Int32) (a_then : Nat → Int32), (9 - x4.toInt < (n : Int)) → (iv 0 9 x4) → (∀ j, iv 0 8 (a_longest j)) → P x4 a_total a_longest a_then := by
    intro n
    induction n with
    | zero => intro x4 a_total a_longest a_then hm hx4 k_a_longest; exact (ms0_up hm hx4).elim
    | succ n ih =>
      intro x4 a_total a_longest a_then hm hx4 k_a_longest
      apply hP
      refine ⟨fun c1 => ?_, fun c1 => ?_⟩
      · skip
        intro a2 ea2
        intro w3 ew3
        have hw3 := iv_eq ew3 (iv_add (l := 2) (h := 9) hx3 (iv_lit (l := 1) (h := 1) (by decide)) (by decide))
        exact hP33 _ _ _ _ _ (ml_up hm33 (inc_lt ew3 hx3 (by decide))) (iv_w hw3 (by decide)) k_a_longest
      · skip
        refine s_wp_X7_routesOn_9_0 k_lf_huts k_lf_dams k_la_heights k_la_minutes (iv_lta (l := 0) (h := 8) (r_nle c1) hx4 k_lf_huts (by decide)) (fun r4 => ?_)
        refine ⟨iv_in (iv_lta (l := 0) (h := 8) (r_nle c1) hx4 k_lf_huts (by decide)) (by decide), ?_⟩
        intro a5 ea5
        refine ⟨iv_in (iv_lta (l := 0) (h := 8) (r_nle c1) hx4 k_lf_huts (by decide)) (by decide), ?_⟩
        refine ⟨fun c6 => ?_, fun c6 => ?_⟩
        · skip
          exact s_wp_X7_trace_9_102 k_a_longest k_lf_huts k_lf_dams k_la_heights k_la_minutes hx3 (iv_lta (l := 0) (h := 8) (r_nle c1) hx4 k_lf_huts (by decide)) m33 hm33 hP33 x4.toInt (Int.le_refl _) (fun u0 u1 u2 u3 hq g0 g1 => ih u0 u1 u2 u3 (ms_up hm hq) g0 g1) hpost
        · skip
          refine ⟨iv_in (iv_lta (l := 0) (h := 8) (r_nle c1) hx4 k_lf_huts (by decide)) (by decide), ?_⟩
          refine ⟨iv_in (iv_lta (l := 0) (h := 8) (r_nle c1) hx4 k_lf_huts (by decide)) (by decide), ?_⟩
          intro w7 ew7
          refine ⟨iv_in (iv_lta (l := 0) (h := 8) (r_nle c1) hx4 k_lf_huts (by decide)) (by decide), ?_⟩
          intro a8 ea8
          refine ⟨iv_in (iv_lta (l := 0) (h := 8) (r_nle c1) hx4 k_lf_huts (by decide)) (by decide), ?_⟩
          intro a9 ea9
          have k_a9 := iv_upd ea9 k_a_longest (iv_w hx3 (by decide))
          exact s_wp_X7_trace_9_102 k_a9 k_lf_huts k_lf_dams k_la_heights k_la_minutes hx3 (iv_lta (l := 0) (h := 8) (r_nle c1) hx4 k_lf_huts (by decide)) m33 hm33 hP33 x4.toInt (Int.le_refl _) (fun u0 u1 u2 u3 hq g0 g1 => ih u0 u1 u2 u3 (ms_up hm hq) g0 g1) hpost
  exact loop _ _ _ _ _ (ms_init_up _ _) hx4 k_a_longest
set_option maxRecDepth 20000 in
theorem s_wp_X7_trace_9_33 {a_total : Nat → Int32} {a_longest : Nat → Int32} {a_now : Nat → Int32} {a_then : Nat → Int32} {lf_huts : Int32} {lf_dams : Int32} {la_heights : Nat → Int32} {la_minutes : Nat → Int32} {x3 : Int32} {post : (Nat → Int32) → (Nat → Int32) → (Nat → Int32) → (Nat → Int32) → Prop} (k_a_longest : ∀ j, iv 0 8 (a_longest j)) (k_lf_huts : iv 1 9 lf_huts) (k_lf_dams : iv 0 511 lf_dams) (k_la_heights : ∀ j, iv 0 99 (la_heights j)) (k_la_minutes : ∀ j, iv 0 9 (la_minutes j)) (hx3 : iv 1 9 x3) (hpost : ∀ (a_total : Nat → Int32) (a_longest : Nat → Int32) (a_now : Nat → Int32) (a_then : Nat → Int32), (∀ j, iv 0 8 (a_longest j)) → post a_total a_longest a_now a_then) : q_wp_X7_trace_9_33 a_total a_longest a_now a_then lf_huts lf_dams la_heights la_minutes x3 post := by
  intro P hP
  have loop : ∀ (n : Nat) (x3 : Int32) (a_total : Nat → Int32) (a_longest : Nat → Int32) (a_now : Nat → Int32) (a_then : Nat → Int32), (9 - x3.toInt < (n : Int)) → (iv 1 9 x3) → (∀ j, iv 0 8 (a_longest j)) → P x3 a_total a_longest a_now a_then := by
    intro n
    induction n with
    | zero => intro x3 a_total a_longest a_now a_then hm hx3 k_a_longest; exact (ms0_up hm hx3).elim
    | succ n ih =>
      intro x3 a_total a_longest a_now a_then hm hx3 k_a_longest
      apply hP
      refine ⟨fun c1 => ?_, fun c1 => ?_⟩
      · skip
        exact hpost _ _ _ _ k_a_longest
      · skip
        exact s_wp_X7_trace_9_44 k_a_longest (iv_ltb (l := 2) (h := 9) (r_nle c1) hx3 k_lf_huts (by decide)) k_lf_dams k_la_heights k_la_minutes (iv_lta (l := 1) (h := 8) (r_nle c1) hx3 k_lf_huts (by decide)) (iv_w (iv_lit (l := 0) (h := 0) (by decide)) (by decide)) x3.toInt (Int.le_refl _) (fun u0 u1 u2 u3 u4 hq g0 g1 => ih u0 u1 u2 u3 u4 (ms_up hm hq) g0 g1) hpost
  exact loop _ _ _ _ _ _ (ms_init_up _ _) hx3 k_a_longest
set_option maxRecDepth 20000 in
theorem s_wp_X7_trace_9_0 {a_total : Nat → Int32} {a_longest : Nat → Int32} {a_now : Nat → Int32} {a_then : Nat → Int32} {lf_huts : Int32} {lf_dams : Int32} {la_heights : Nat → Int32} {la_minutes : Nat → Int32} {x2 : Int32} {post : (Nat → Int32) → (Nat → Int32) → (Nat → Int32) → (Nat → Int32) → Prop} (k_a_longest : ∀ j, iv 0 8 (a_longest j)) (k_lf_huts : iv 1 9 lf_huts) (k_lf_dams : iv 0 511 lf_dams) (k_la_heights : ∀ j, iv 0 99 (la_heights j)) (k_la_minutes : ∀ j, iv 0 9 (la_minutes j)) (hx2 : iv 0 8 x2) (hpost : ∀ (a_total : Nat → Int32) (a_longest : Nat → Int32) (a_now : Nat → Int32) (a_then : Nat → Int32), (∀ j, iv 0 8 (a_longest j)) → post a_total a_longest a_now a_then) : q_wp_X7_trace_9_0 a_total a_longest a_now a_then lf_huts lf_dams la_heights la_minutes x2 post := by
  refine s_wp_J7_fill_53178_3_0 (iv_lit (l := 0) (h := 0) (by decide)) (fun o1 => ?_)
  refine s_wp_J7_fill_53178_4_0 k_a_longest (iv_lit (l := 0) (h := 0) (by decide)) (fun o2 k_o2 => ?_)
  refine s_wp_J7_fill_53178_7_0 (iv_w (iv_lit (l := 0) (h := 0) (by decide)) (by decide)) (fun o3 => ?_)
  refine ⟨iv_in hx2 (by decide), ?_⟩
  intro a4 ea4
  exact s_wp_X7_trace_9_33 k_o2 k_lf_huts k_lf_dams k_la_heights k_la_minutes (iv_w (iv_lit (l := 1) (h := 1) (by decide)) (by decide)) hpost
-- wp_X7_leastFall_9
set_option maxRecDepth 20000 in
theorem s_wp_X7_leastFall_9_55 {P7 : Int32 → Int32 → Prop} {a_now : Nat → Int32} {lf_huts : Int32} {lf_dams : Int32} {la_heights : Nat → Int32} {la_minutes : Nat → Int32} {x2 : Int32} {x3 : Int32} {x4 : Int32} {post : Int32 → Prop} (k_lf_huts : iv 2 9 lf_huts) (k_lf_dams : iv 0 511 lf_dams) (k_la_heights : ∀ j, iv 0 99 (la_heights j)) (k_la_minutes : ∀ j, iv 0 9 (la_minutes j)) (hx2 : iv 0 8 x2) (hx3 : iv (-99) 1000 x3) (hx4 : iv 0 8 x4) (m7 : Int) (hm7 : m7 ≤ x4.toInt) (hP7 : ∀ (x3 : Int32) (x4 : Int32), m7 < x4.toInt → iv (-99) 1000 x3 → iv 0 9 x4 → P7 x3 x4) (hpost : ∀ (r : Int32), iv (-99) 1000 r → post r) : q_wp_X7_leastFall_9_55 P7 a_now lf_huts lf_dams la_heights la_minutes x2 x3 x4 post := by
  intro w1 ew1
  have hw1 := iv_eq ew1 (iv_add (l := 1) (h := 9) hx4 (iv_lit (l := 1) (h := 1) (by decide)) (by decide))
  exact hP7 _ _ (ml_up hm7 (inc_lt ew1 hx4 (by decide))) hx3 (iv_w hw1 (by decide))
set_option maxRecDepth 20000 in
theorem s_wp_X7_leastFall_9_7 {a_now : Nat → Int32} {lf_huts : Int32} {lf_dams : Int32} {la_heights : Nat → Int32} {la_minutes : Nat → Int32} {x2 : Int32} {x3 : Int32} {x4 : Int32} {post : Int32 → Prop} (k_lf_huts : iv 2 9 lf_huts) (k_lf_dams : iv 0 511 lf_dams) (k_la_heights : ∀ j, iv 0 99 (la_heights j)) (k_la_minutes : ∀ j, iv 0 9 (la_minutes j)) (hx2 : iv 0 8 x2) (hx3 : iv (-99) 1000 x3) (hx4 : iv 0 9 x4) (hpost : ∀ (r : Int32), iv (-99) 1000 r → post r) : q_wp_X7_leastFall_9_7 a_now lf_huts lf_dams la_heights la_minutes x2 x3 x4 post := by
  intro P hP
  have loop : ∀ (n : Nat) (x3 : Int32) (x4 : Int32), (9 - x4.toInt < (n : Int)) → (iv (-99) 1000 x3) → (iv 0 9 x4) → P x3 x4 := by
    intro n
    induction n with
    | zero => intro x3 x4 hm hx3 hx4; exact (ms0_up hm hx4).elim
    | succ n ih =>
      intro x3 x4 hm hx3 hx4
      apply hP
      refine ⟨fun c1 => ?_, fun c1 => ?_⟩
      · skip
        exact hpost _ hx3
      · skip
        refine ⟨iv_in (iv_add (l := 0) (h := 80) (iv_mul (l := 0) (h := 72) (iv_lta (l := 0) (h := 8) (r_nle c1) hx4 k_lf_huts (by decide)) (iv_lit (l := 9) (h := 9) (by decide)) (by decide)) hx2 (by decide)) (by decide), ?_⟩
        refine ⟨fun c2 => ?_, fun c2 => ?_⟩
        · skip
          refine ⟨fun c3 => ?_, fun c3 => ?_⟩
          · skip
            exact s_wp_X7_leastFall_9_55 k_lf_huts k_lf_dams k_la_heights k_la_minutes hx2 hx3 (iv_lta (l := 0) (h := 8) (r_nle c1) hx4 k_lf_huts (by decide)) x4.toInt (Int.le_refl _) (fun u0 u1 hq g0 g1 => ih u0 u1 (ms_up hm hq) g0 g1) hpost
          · skip
            exact (iv_emp (iv_ne (l := 1) (h := 0) c3 (iv_lit (l := 0) (h := 0) (by decide)) (iv_lit (l := 0) (h := 0) (by decide)) (by decide)) (by decide)).elim
        · skip
          refine ⟨iv_in hx2 (by decide), ?_⟩
          refine ⟨iv_in (iv_lta (l := 0) (h := 8) (r_nle c1) hx4 k_lf_huts (by decide)) (by decide), ?_⟩
          refine ⟨fun c4 => ?_, fun c4 => ?_⟩
          · skip
            refine ⟨fun c5 => ?_, fun c5 => ?_⟩
            · skip
              exact s_wp_X7_leastFall_9_55 k_lf_huts k_lf_dams k_la_heights k_la_minutes hx2 hx3 (iv_lta (l := 0) (h := 8) (r_nle c1) hx4 k_lf_huts (by decide)) x4.toInt (Int.le_refl _) (fun u0 u1 hq g0 g1 => ih u0 u1 (ms_up hm hq) g0 g1) hpost
            · skip
              exact (iv_emp (iv_ne (l := 1) (h := 0) c5 (iv_lit (l := 0) (h := 0) (by decide)) (iv_lit (l := 0) (h := 0) (by decide)) (by decide)) (by decide)).elim
          · skip
            refine ⟨fun c6 => ?_, fun c6 => ?_⟩
            · skip
              refine ⟨fun c7 => ?_, fun c7 => ?_⟩
              · skip
                exact (iv_emp (iv_ne (l := 1) (h := 0) c7 (iv_lit (l := 0) (h := 0) (by decide)) (iv_lit (l := 0) (h := 0) (by decide)) (by decide)) (by decide)).elim
              · skip
                refine ⟨fun c8 => ?_, fun c8 => ?_⟩
                · skip
                  refine ⟨fun c9 => ?_, fun c9 => ?_⟩
                  · skip
                    exact (iv_emp (iv_ne (l := 1) (h := 0) c9 (iv_lit (l := 0) (h := 0) (by decide)) (iv_lit (l := 0) (h := 0) (by decide)) (by decide)) (by decide)).elim
                  · skip
                    refine ⟨fun c10 => ?_, fun c10 => ?_⟩
                    · skip
                      exact (iv_emp (iv_eqa (l := 1) (h := 0) c10 (iv_lit (l := 1) (h := 1) (by decide)) (iv_lit (l := 0) (h := 0) (by decide)) (by decide)) (by decide)).elim
                    · skip
                      refine ⟨iv_in (iv_lta (l := 0) (h := 8) (r_nle c1) hx4 k_lf_huts (by decide)) (by decide), ?_⟩
                      refine ⟨iv_in (iv_lta (l := 0) (h := 8) (r_nle c1) hx4 k_lf_huts (by decide)) (by decide), ?_⟩
                      refine ⟨iv_in hx2 (by decide), ?_⟩
                      intro w11 ew11
                      have hw11 := iv_eq ew11 (iv_min (l := (-99)) (h := 1000) hx3 (iv_max (l := (-97)) (h := 2147483647) (iv_top _) (iv_sub (l := (-97)) (h := 99) (iv_ltb (l := 1) (h := 99) (r_nle c4) (k_la_heights _) (k_la_heights _) (by decide)) (iv_lta (l := 0) (h := 98) (r_nle c4) (k_la_heights _) (k_la_heights _) (by decide)) (by decide)) (by decide)) (by decide))
                      exact s_wp_X7_leastFall_9_55 k_lf_huts k_lf_dams k_la_heights k_la_minutes hx2 hw11 (iv_lta (l := 0) (h := 8) (r_nle c1) hx4 k_lf_huts (by decide)) x4.toInt (Int.le_refl _) (fun u0 u1 hq g0 g1 => ih u0 u1 (ms_up hm hq) g0 g1) hpost
                · skip
                  refine ⟨fun c12 => ?_, fun c12 => ?_⟩
                  · skip
                    refine ⟨fun c13 => ?_, fun c13 => ?_⟩
                    · skip
                      exact s_wp_X7_leastFall_9_55 k_lf_huts k_lf_dams k_la_heights k_la_minutes hx2 hx3 (iv_lta (l := 0) (h := 8) (r_nle c1) hx4 k_lf_huts (by decide)) x4.toInt (Int.le_refl _) (fun u0 u1 hq g0 g1 => ih u0 u1 (ms_up hm hq) g0 g1) hpost
                    · skip
                      exact (iv_emp (iv_ne (l := 1) (h := 0) c13 (iv_lit (l := 0) (h := 0) (by decide)) (iv_lit (l := 0) (h := 0) (by decide)) (by decide)) (by decide)).elim
                  · skip
                    exact (iv_emp (iv_eqa (l := 1) (h := 0) c12 (iv_lit (l := 1) (h := 1) (by decide)) (iv_lit (l := 0) (h := 0) (by decide)) (by decide)) (by decide)).elim
            · skip
              refine ⟨fun c14 => ?_, fun c14 => ?_⟩
              · skip
                refine ⟨fun c15 => ?_, fun c15 => ?_⟩
                · skip
                  exact s_wp_X7_leastFall_9_55 k_lf_huts k_lf_dams k_la_heights k_la_minutes hx2 hx3 (iv_lta (l := 0) (h := 8) (r_nle c1) hx4 k_lf_huts (by decide)) x4.toInt (Int.le_refl _) (fun u0 u1 hq g0 g1 => ih u0 u1 (ms_up hm hq) g0 g1) hpost
                · skip
                  exact (iv_emp (iv_ne (l := 1) (h := 0) c15 (iv_lit (l := 0) (h := 0) (by decide)) (iv_lit (l := 0) (h := 0) (by decide)) (by decide)) (by decide)).elim
              · skip
                exact (iv_emp (iv_eqa (l := 1) (h := 0) c14 (iv_lit (l := 1) (h := 1) (by decide)) (iv_lit (l := 0) (h := 0) (by decide)) (by decide)) (by decide)).elim
  exact loop _ _ _ (ms_init_up _ _) hx3 hx4
set_option maxRecDepth 20000 in
theorem s_wp_X7_leastFall_9_0 {a_now : Nat → Int32} {lf_huts : Int32} {lf_dams : Int32} {la_heights : Nat → Int32} {la_minutes : Nat → Int32} {x2 : Int32} {post : Int32 → Prop} (k_lf_huts : iv 2 9 lf_huts) (k_lf_dams : iv 0 511 lf_dams) (k_la_heights : ∀ j, iv 0 99 (la_heights j)) (k_la_minutes : ∀ j, iv 0 9 (la_minutes j)) (hx2 : iv 0 8 x2) (hpost : ∀ (r : Int32), iv (-99) 1000 r → post r) : q_wp_X7_leastFall_9_0 a_now lf_huts lf_dams la_heights la_minutes x2 post := by
  exact s_wp_X7_leastFall_9_7 k_lf_huts k_lf_dams k_la_heights k_la_minutes hx2 (iv_w (iv_lit (l := 1000) (h := 1000) (by decide)) (by decide)) (iv_w (iv_lit (l := 0) (h := 0) (by decide)) (by decide)) hpost
-- wp_X7_steepest_9
set_option maxRecDepth 20000 in
theorem s_wp_X7_steepest_9_32 {P20 : Int32 → (Nat → Int32) → Prop} {a_now : Nat → Int32} {lf_huts : Int32} {lf_dams : Int32} {la_heights : Nat → Int32} {la_minutes : Nat → Int32} {x3 : Int32} {x4 : Int32} {x5 : Int32} {post : Int32 → (Nat → Int32) → Prop} (k_lf_huts : iv 2 9 lf_huts) (k_lf_dams : iv 0 511 lf_dams) (k_la_heights : ∀ j, iv 0 99 (la_heights j)) (k_la_minutes : ∀ j, iv 0 9 (la_minutes j)) (hx3 : iv 0 8 x3) (hx4 : iv 1 8 x4) (hx5 : iv 0 9 x5) (m20 : Int) (hm20 : m20 ≤ x4.toInt) (hP20 : ∀ (x4 : Int32) (a_now : Nat → Int32), m20 < x4.toInt → iv 1 9 x4 → P20 x4 a_now) (hpost : ∀ (r : Int32) (a_now : Nat → Int32), post r a_now) : q_wp_X7_steepest_9_32 P20 a_now lf_huts lf_dams la_heights la_minutes x3 x4 x5 post := by
  intro P hP
  have loop : ∀ (n : Nat) (x5 : Int32) (a_now : Nat → Int32), (9 - x5.toInt < (n : Int)) → (iv 0 9 x5) → P x5 a_now := by
    intro n
    induction n with
    | zero => intro x5 a_now hm hx5; exact (ms0_up hm hx5).elim
    | succ n ih =>
      intro x5 a_now hm hx5
      apply hP
      refine ⟨fun c1 => ?_, fun c1 => ?_⟩
      · skip
        intro w2 ew2
        have hw2 := iv_eq ew2 (iv_add (l := 2) (h := 9) hx4 (iv_lit (l := 1) (h := 1) (by decide)) (by decide))
        exact hP20 _ _ (ml_up hm20 (inc_lt ew2 hx4 (by decide))) (iv_w hw2 (by decide))
      · skip
        refine ⟨iv_in (iv_lta (l := 0) (h := 8) (r_nle c1) hx5 k_lf_huts (by decide)) (by decide), ?_⟩
        refine s_wp_X7_leastFall_9_0 k_lf_huts k_lf_dams k_la_heights k_la_minutes (iv_lta (l := 0) (h := 8) (r_nle c1) hx5 k_lf_huts (by decide)) (fun r3 hr3 => ?_)
        intro w4 ew4
        have hw4 := iv_eq ew4 (iv_min (l := (-2147483648)) (h := 1000) (iv_top _) hr3 (by decide))
        refine ⟨iv_in (iv_lta (l := 0) (h := 8) (r_nle c1) hx5 k_lf_huts (by decide)) (by decide), ?_⟩
        intro a5 ea5
        intro w6 ew6
        have hw6 := iv_eq ew6 (iv_add (l := 1) (h := 9) (iv_lta (l := 0) (h := 8) (r_nle c1) hx5 k_lf_huts (by decide)) (iv_lit (l := 1) (h := 1) (by decide)) (by decide))
        exact ih _ _ (ms_up hm (inc_lt ew6 (iv_lta (l := 0) (h := 8) (r_nle c1) hx5 k_lf_huts (by decide)) (by decide))) (iv_w hw6 (by decide))
  exact loop _ _ _ (ms_init_up _ _) hx5
set_option maxRecDepth 20000 in
theorem s_wp_X7_steepest_9_20 {a_now : Nat → Int32} {lf_huts : Int32} {lf_dams : Int32} {la_heights : Nat → Int32} {la_minutes : Nat → Int32} {x3 : Int32} {x4 : Int32} {post : Int32 → (Nat → Int32) → Prop} (k_lf_huts : iv 1 9 lf_huts) (k_lf_dams : iv 0 511 lf_dams) (k_la_heights : ∀ j, iv 0 99 (la_heights j)) (k_la_minutes : ∀ j, iv 0 9 (la_minutes j)) (hx3 : iv 0 8 x3) (hx4 : iv 1 9 x4) (hpost : ∀ (r : Int32) (a_now : Nat → Int32), post r a_now) : q_wp_X7_steepest_9_20 a_now lf_huts lf_dams la_heights la_minutes x3 x4 post := by
  intro P hP
  have loop : ∀ (n : Nat) (x4 : Int32) (a_now : Nat → Int32), (9 - x4.toInt < (n : Int)) → (iv 1 9 x4) → P x4 a_now := by
    intro n
    induction n with
    | zero => intro x4 a_now hm hx4; exact (ms0_up hm hx4).elim
    | succ n ih =>
      intro x4 a_now hm hx4
      apply hP
      refine ⟨fun c1 => ?_, fun c1 => ?_⟩
      · skip
        refine ⟨iv_in hx3 (by decide), ?_⟩
        exact hpost _ _
      · skip
        exact s_wp_X7_steepest_9_32 (iv_ltb (l := 2) (h := 9) (r_nle c1) hx4 k_lf_huts (by decide)) k_lf_dams k_la_heights k_la_minutes hx3 (iv_lta (l := 1) (h := 8) (r_nle c1) hx4 k_lf_huts (by decide)) (iv_w (iv_lit (l := 0) (h := 0) (by decide)) (by decide)) x4.toInt (Int.le_refl _) (fun u0 u1 hq g0 => ih u0 u1 (ms_up hm hq) g0) hpost
  exact loop _ _ _ (ms_init_up _ _) hx4
set_option maxRecDepth 20000 in
theorem s_wp_X7_steepest_9_0 {a_now : Nat → Int32} {lf_huts : Int32} {lf_dams : Int32} {la_heights : Nat → Int32} {la_minutes : Nat → Int32} {x2 : Int32} {x3 : Int32} {post : Int32 → (Nat → Int32) → Prop} (k_lf_huts : iv 1 9 lf_huts) (k_lf_dams : iv 0 511 lf_dams) (k_la_heights : ∀ j, iv 0 99 (la_heights j)) (k_la_minutes : ∀ j, iv 0 9 (la_minutes j)) (hx2 : iv 0 8 x2) (hx3 : iv 0 8 x3) (hpost : ∀ (r : Int32) (a_now : Nat → Int32), post r a_now) : q_wp_X7_steepest_9_0 a_now lf_huts lf_dams la_heights la_minutes x2 x3 post := by
  refine s_wp_J7_fill_53178_7_0 (iv_w (iv_lit (l := 1000) (h := 1000) (by decide)) (by decide)) (fun o1 => ?_)
  refine ⟨iv_in hx2 (by decide), ?_⟩
  intro a2 ea2
  exact s_wp_X7_steepest_9_20 k_lf_huts k_lf_dams k_la_heights k_la_minutes hx3 (iv_w (iv_lit (l := 1) (h := 1) (by decide)) (by decide)) hpost
-- wp_X7_depth_9
set_option maxRecDepth 20000 in
theorem s_wp_X7_depth_9_21 {P4 : Int32 → Int32 → (Nat → Int32) → (Nat → Int32) → (Nat → Int32) → (Nat → Int32) → Prop} {a_total : Nat → Int32} {a_longest : Nat → Int32} {a_now : Nat → Int32} {a_then : Nat → Int32} {lf_huts : Int32} {lf_dams : Int32} {la_heights : Nat → Int32} {la_minutes : Nat → Int32} {x2 : Int32} {x3 : Int32} {x4 : Int32} {post : Int32 → (Nat → Int32) → (Nat → Int32) → (Nat → Int32) → (Nat → Int32) → Prop} (k_a_longest : ∀ j, iv 0 8 (a_longest j)) (k_lf_huts : iv 1 9 lf_huts) (k_lf_dams : iv 0 511 lf_dams) (k_la_heights : ∀ j, iv 0 99 (la_heights j)) (k_la_minutes : ∀ j, iv 0 9 (la_minutes j)) (hx2 : iv 0 8 x2) (hx3 : iv 0 8 x3) (hx4 : iv 0 9 x4) (m4 : Int) (hm4 : m4 ≤ x3.toInt) (hP4 : ∀ (x2 : Int32) (x3 : Int32) (a_total : Nat → Int32) (a_longest : Nat → Int32) (a_now : Nat → Int32) (a_then : Nat → Int32), m4 < x3.toInt → iv 0 8 x2 → iv 0 9 x3 → (∀ j, iv 0 8 (a_longest j)) → P4 x2 x3 a_total a_longest a_now a_then) (hpost : ∀ (r : Int32) (a_total : Nat → Int32) (a_longest : Nat → Int32) (a_now : Nat → Int32) (a_then : Nat → Int32), iv 0 8 r → (∀ j, iv 0 8 (a_longest j)) → post r a_total a_longest a_now a_then) : q_wp_X7_depth_9_21 P4 a_total a_longest a_now a_then lf_huts lf_dams la_heights la_minutes x2 x3 x4 post := by
  intro P hP
  have loop : ∀ (n : Nat) (x2 : Int32) (x4 : Int32), (9 - x4.toInt < (n : Int)) → (iv 0 8 x2) → (iv 0 9 x4) → P x2 x4 := by
    intro n
    induction n with
    | zero => intro x2 x4 hm hx2 hx4; exact (ms0_up hm hx4).elim
    | succ n ih =>
      intro x2 x4 hm hx2 hx4
      apply hP
      refine ⟨fun c1 => ?_, fun c1 => ?_⟩
      · skip
        intro w2 ew2
        have hw2 := iv_eq ew2 (iv_add (l := 1) (h := 9) hx3 (iv_lit (l := 1) (h := 1) (by decide)) (by decide))
        exact hP4 _ _ _ _ _ _ (ml_up hm4 (inc_lt ew2 hx3 (by decide))) hx2 (iv_w hw2 (by decide)) k_a_longest
      · skip
        refine ⟨iv_in (iv_lta (l := 0) (h := 8) (r_nle c1) hx4 k_lf_huts (by decide)) (by decide), ?_⟩
        intro w3 ew3
        have hw3 := iv_eq ew3 (iv_max (l := 0) (h := 8) hx2 (k_a_longest _) (by decide))
        intro w4 ew4
        have hw4 := iv_eq ew4 (iv_add (l := 1) (h := 9) (iv_lta (l := 0) (h := 8) (r_nle c1) hx4 k_lf_huts (by decide)) (iv_lit (l := 1) (h := 1) (by decide)) (by decide))
        exact ih _ _ (ms_up hm (inc_lt ew4 (iv_lta (l := 0) (h := 8) (r_nle c1) hx4 k_lf_huts (by decide)) (by decide))) hw3 (iv_w hw4 (by decide))
  exact loop _ _ _ (ms_init_up _ _) hx2 hx4
set_option maxRecDepth 20000 in
theorem s_wp_X7_depth_9_4 {a_total : Nat → Int32} {a_longest : Nat → Int32} {a_now : Nat → Int32} {a_then : Nat → Int32} {lf_huts : Int32} {lf_dams : Int32} {la_heights : Nat → Int32} {la_minutes : Nat → Int32} {x2 : Int32} {x3 : Int32} {post : Int32 → (Nat → Int32) → (Nat → Int32) → (Nat → Int32) → (Nat → Int32) → Prop} (k_a_longest : ∀ j, iv 0 8 (a_longest j)) (k_lf_huts : iv 0 9 lf_huts) (k_lf_dams : iv 0 511 lf_dams) (k_la_heights : ∀ j, iv 0 99 (la_heights j)) (k_la_minutes : ∀ j, iv 0 9 (la_minutes j)) (hx2 : iv 0 8 x2) (hx3 : iv 0 9 x3) (hpost : ∀ (r : Int32) (a_total : Nat → Int32) (a_longest : Nat → Int32) (a_now : Nat → Int32) (a_then : Nat → Int32), iv 0 8 r → (∀ j, iv 0 8 (a_longest j)) → post r a_total a_longest a_now a_then) : q_wp_X7_depth_9_4 a_total a_longest a_now a_then lf_huts lf_dams la_heights la_minutes x2 x3 post := by
  intro P hP
  have loop : ∀ (n : Nat) (x2 : Int32) (x3 : Int32) (a_total : Nat → Int32) (a_longest : Nat → Int32) (a_now : Nat → Int32) (a_then : Nat → Int32), (9 - x3.toInt < (n : Int)) → (iv 0 8 x2) → (iv 0 9 x3) → (∀ j, iv 0 8 (a_longest j)) → P x2 x3 a_total a_longest a_now a_then := by
    intro n
    induction n with
    | zero => intro x2 x3 a_total a_longest a_now a_then hm hx2 hx3 k_a_longest; exact (ms0_up hm hx3).elim
    | succ n ih =>
      intro x2 x3 a_total a_longest a_now a_then hm hx2 hx3 k_a_longest
      apply hP
      refine ⟨fun c1 => ?_, fun c1 => ?_⟩
      · skip
        exact hpost _ _ _ _ _ hx2 k_a_longest
      · skip
        refine s_wp_X7_trace_9_0 k_a_longest (iv_ltb (l := 1) (h := 9) (r_nle c1) hx3 k_lf_huts (by decide)) k_lf_dams k_la_heights k_la_minutes (iv_lta (l := 0) (h := 8) (r_nle c1) hx3 k_lf_huts (by decide)) (fun o2 o3 o4 o5 k_o3 => ?_)
        exact s_wp_X7_depth_9_21 k_o3 (iv_ltb (l := 1) (h := 9) (r_nle c1) hx3 k_lf_huts (by decide)) k_lf_dams k_la_heights k_la_minutes hx2 (iv_lta (l := 0) (h := 8) (r_nle c1) hx3 k_lf_huts (by decide)) (iv_w (iv_lit (l := 0) (h := 0) (by decide)) (by decide)) x3.toInt (Int.le_refl _) (fun u0 u1 u2 u3 u4 u5 hq g0 g1 g2 => ih u0 u1 u2 u3 u4 u5 (ms_up hm hq) g0 g1 g2) hpost
  exact loop _ _ _ _ _ _ _ (ms_init_up _ _) hx2 hx3 k_a_longest
set_option maxRecDepth 20000 in
theorem s_wp_X7_depth_9_0 {a_total : Nat → Int32} {a_longest : Nat → Int32} {a_now : Nat → Int32} {a_then : Nat → Int32} {lf_huts : Int32} {lf_dams : Int32} {la_heights : Nat → Int32} {la_minutes : Nat → Int32} {post : Int32 → (Nat → Int32) → (Nat → Int32) → (Nat → Int32) → (Nat → Int32) → Prop} (k_a_longest : ∀ j, iv 0 8 (a_longest j)) (k_lf_huts : iv 0 9 lf_huts) (k_lf_dams : iv 0 511 lf_dams) (k_la_heights : ∀ j, iv 0 99 (la_heights j)) (k_la_minutes : ∀ j, iv 0 9 (la_minutes j)) (hpost : ∀ (r : Int32) (a_total : Nat → Int32) (a_longest : Nat → Int32) (a_now : Nat → Int32) (a_then : Nat → Int32), iv 0 8 r → (∀ j, iv 0 8 (a_longest j)) → post r a_total a_longest a_now a_then) : q_wp_X7_depth_9_0 a_total a_longest a_now a_then lf_huts lf_dams la_heights la_minutes post := by
  exact s_wp_X7_depth_9_4 k_a_longest k_lf_huts k_lf_dams k_la_heights k_la_minutes (iv_w (iv_lit (l := 0) (h := 0) (by decide)) (by decide)) (iv_w (iv_lit (l := 0) (h := 0) (by decide)) (by decide)) hpost
-- wp_X7_reach_5
set_option maxRecDepth 20000 in
theorem s_wp_X7_reach_5_49 {P7 : Int32 → Int32 → Prop} {P20 : Int32 → Int32 → Prop} {a_next : Nat → Int32} {x2 : Int32} {x3 : Int32} {x4 : Int32} {x5 : Int32} {x6 : Int32} {post : Int32 → Prop} (k_a_next : ∀ j, iv 0 511 (a_next j)) (hx2 : iv 0 511 x2) (hx3 : iv 0 511 x3) (hx4 : iv 0 8 x4) (hx5 : iv 0 511 x5) (hx6 : iv 0 8 x6) (m7 : Int) (hm7 : m7 ≤ x4.toInt) (hP7 : ∀ (x3 : Int32) (x4 : Int32), m7 < x4.toInt → iv 0 511 x3 → iv 0 9 x4 → P7 x3 x4) (m20 : Int) (hm20 : m20 ≤ x6.toInt) (hP20 : ∀ (x5 : Int32) (x6 : Int32), m20 < x6.toInt → iv 0 511 x5 → iv 0 9 x6 → P20 x5 x6) (hpost : ∀ (r : Int32), iv 0 511 r → post r) : q_wp_X7_reach_5_49 P7 P20 a_next x2 x3 x4 x5 x6 post := by
  intro w1 ew1
  have hw1 := iv_eq ew1 (iv_add (l := 1) (h := 9) hx6 (iv_lit (l := 1) (h := 1) (by decide)) (by decide))
  exact hP20 _ _ (ml_up hm20 (inc_lt ew1 hx6 (by decide))) hx5 (iv_w hw1 (by decide))
set_option maxRecDepth 20000 in
theorem s_wp_X7_reach_5_20 {P7 : Int32 → Int32 → Prop} {a_next : Nat → Int32} {x2 : Int32} {x3 : Int32} {x4 : Int32} {x5 : Int32} {x6 : Int32} {post : Int32 → Prop} (k_a_next : ∀ j, iv 0 511 (a_next j)) (hx2 : iv 0 511 x2) (hx3 : iv 0 511 x3) (hx4 : iv 0 8 x4) (hx5 : iv 0 511 x5) (hx6 : iv 0 9 x6) (m7 : Int) (hm7 : m7 ≤ x4.toInt) (hP7 : ∀ (x3 : Int32) (x4 : Int32), m7 < x4.toInt → iv 0 511 x3 → iv 0 9 x4 → P7 x3 x4) (hpost : ∀ (r : Int32), iv 0 511 r → post r) : q_wp_X7_reach_5_20 P7 a_next x2 x3 x4 x5 x6 post := by
  intro P hP
  have loop : ∀ (n : Nat) (x5 : Int32) (x6 : Int32), (9 - x6.toInt < (n : Int)) → (iv 0 511 x5) → (iv 0 9 x6) → P x5 x6 := by
    intro n
    induction n with
    | zero => intro x5 x6 hm hx5 hx6; exact (ms0_up hm hx6).elim
    | succ n ih =>
      intro x5 x6 hm hx5 hx6
      apply hP
      refine ⟨fun c1 => ?_, fun c1 => ?_⟩
      · skip
        refine ⟨fun c2 => ?_, fun c2 => ?_⟩
        · skip
          intro w3 ew3
          have hw3 := iv_eq ew3 (iv_add (l := 1) (h := 9) hx4 (iv_lit (l := 1) (h := 1) (by decide)) (by decide))
          exact hP7 _ _ (ml_up hm7 (inc_lt ew3 hx4 (by decide))) hx5 (iv_w hw3 (by decide))
        · skip
          exact hpost _ hx3
      · skip
        refine ⟨fun c4 => ?_, fun c4 => ?_⟩
        · skip
          refine ⟨fun c5 => ?_, fun c5 => ?_⟩
          · skip
            exact s_wp_X7_reach_5_49 k_a_next hx2 hx3 hx4 hx5 (iv_lta (l := 0) (h := 8) (r_nle c1) hx6 (iv_lit (l := 9) (h := 9) (by decide)) (by decide)) m7 hm7 hP7 x6.toInt (Int.le_refl _) (fun u0 u1 hq g0 g1 => ih u0 u1 (ms_up hm hq) g0 g1) hpost
          · skip
            exact (iv_emp (iv_ne (l := 1) (h := 0) c5 (iv_lit (l := 0) (h := 0) (by decide)) (iv_lit (l := 0) (h := 0) (by decide)) (by decide)) (by decide)).elim
        · skip
          refine ⟨fun c6 => ?_, fun c6 => ?_⟩
          · skip
            exact (iv_emp (iv_eqa (l := 1) (h := 0) c6 (iv_lit (l := 1) (h := 1) (by decide)) (iv_lit (l := 0) (h := 0) (by decide)) (by decide)) (by decide)).elim
          · skip
            refine ⟨iv_in (iv_lta (l := 0) (h := 8) (r_nle c1) hx6 (iv_lit (l := 9) (h := 9) (by decide)) (by decide)) (by decide), ?_⟩
            intro w7 ew7
            have hw7 := iv_eq ew7 (iv_or 9 (l := 0) (h := 511) hx5 (iv_andl (l := 0) (h := 511) (k_a_next _) (by decide)) (by decide))
            exact s_wp_X7_reach_5_49 k_a_next hx2 hx3 hx4 hw7 (iv_lta (l := 0) (h := 8) (r_nle c1) hx6 (iv_lit (l := 9) (h := 9) (by decide)) (by decide)) m7 hm7 hP7 x6.toInt (Int.le_refl _) (fun u0 u1 hq g0 g1 => ih u0 u1 (ms_up hm hq) g0 g1) hpost
  exact loop _ _ _ (ms_init_up _ _) hx5 hx6
set_option maxRecDepth 20000 in
theorem s_wp_X7_reach_5_7 {a_next : Nat → Int32} {x2 : Int32} {x3 : Int32} {x4 : Int32} {post : Int32 → Prop} (k_a_next : ∀ j, iv 0 511 (a_next j)) (hx2 : iv 0 511 x2) (hx3 : iv 0 511 x3) (hx4 : iv 0 9 x4) (hpost : ∀ (r : Int32), iv 0 511 r → post r) : q_wp_X7_reach_5_7 a_next x2 x3 x4 post := by
  intro P hP
  have loop : ∀ (n : Nat) (x3 : Int32) (x4 : Int32), (9 - x4.toInt < (n : Int)) → (iv 0 511 x3) → (iv 0 9 x4) → P x3 x4 := by
    intro n
    induction n with
    | zero => intro x3 x4 hm hx3 hx4; exact (ms0_up hm hx4).elim
    | succ n ih =>
      intro x3 x4 hm hx3 hx4
      apply hP
      refine ⟨fun c1 => ?_, fun c1 => ?_⟩
      · skip
        exact hpost _ hx3
      · skip
        exact s_wp_X7_reach_5_20 k_a_next hx2 hx3 (iv_lta (l := 0) (h := 8) (r_nle c1) hx4 (iv_lit (l := 9) (h := 9) (by decide)) (by decide)) hx3 (iv_w (iv_lit (l := 0) (h := 0) (by decide)) (by decide)) x4.toInt (Int.le_refl _) (fun u0 u1 hq g0 g1 => ih u0 u1 (ms_up hm hq) g0 g1) hpost
  exact loop _ _ _ (ms_init_up _ _) hx3 hx4
set_option maxRecDepth 20000 in
theorem s_wp_X7_reach_5_0 {a_next : Nat → Int32} {x0 : Int32} {x2 : Int32} {post : Int32 → Prop} (k_a_next : ∀ j, iv 0 511 (a_next j)) (hx0 : iv 0 8 x0) (hx2 : iv 0 511 x2) (hpost : ∀ (r : Int32), iv 0 511 r → post r) : q_wp_X7_reach_5_0 a_next x0 x2 post := by
  intro w1 ew1
  have hw1 := iv_eq ew1 (iv_shl1 (l := 1) (h := 256) (iv_lit (l := 1) (h := 1) (by decide)) hx0 (by decide))
  exact s_wp_X7_reach_5_7 k_a_next hx2 (iv_w hw1 (by decide)) (iv_w (iv_lit (l := 0) (h := 0) (by decide)) (by decide)) hpost
-- wp_X7_worst_9
set_option maxRecDepth 20000 in
theorem s_wp_X7_worst_9_56 {P8 : Int32 → Int32 → Int32 → Prop} {a_next : Nat → Int32} {lf_huts : Int32} {lf_dams : Int32} {x2 : Int32} {x3 : Int32} {x4 : Int32} {x5 : Int32} {post : Int32 → Prop} (k_a_next : ∀ j, iv 0 511 (a_next j)) (k_lf_huts : iv 1 9 lf_huts) (k_lf_dams : iv 0 511 lf_dams) (hx2 : iv 0 8 x2) (hx3 : iv (-1) 8 x3) (hx4 : iv (-1) 63 x4) (hx5 : iv 0 8 x5) (m8 : Int) (hm8 : m8 ≤ x5.toInt) (hP8 : ∀ (x3 : Int32) (x4 : Int32) (x5 : Int32), m8 < x5.toInt → iv (-1) 8 x3 → iv (-1) 63 x4 → iv 0 9 x5 → P8 x3 x4 x5) (hpost : ∀ (r : Int32), iv (-1) 8 r → post r) : q_wp_X7_worst_9_56 P8 a_next lf_huts lf_dams x2 x3 x4 x5 post := by
  intro w1 ew1
  have hw1 := iv_eq ew1 (iv_add (l := 1) (h := 9) hx5 (iv_lit (l := 1) (h := 1) (by decide)) (by decide))
  exact hP8 _ _ _ (ml_up hm8 (inc_lt ew1 hx5 (by decide))) hx3 hx4 (iv_w hw1 (by decide))
set_option maxRecDepth 20000 in
theorem s_wp_X7_worst_9_8 {a_next : Nat → Int32} {lf_huts : Int32} {lf_dams : Int32} {x2 : Int32} {x3 : Int32} {x4 : Int32} {x5 : Int32} {post : Int32 → Prop} (k_a_next : ∀ j, iv 0 511 (a_next j)) (k_lf_huts : iv 1 9 lf_huts) (k_lf_dams : iv 0 511 lf_dams) (hx2 : iv 0 8 x2) (hx3 : iv (-1) 8 x3) (hx4 : iv (-1) 63 x4) (hx5 : iv 0 9 x5) (hpost : ∀ (r : Int32), iv (-1) 8 r → post r) : q_wp_X7_worst_9_8 a_next lf_huts lf_dams x2 x3 x4 x5 post := by
  intro P hP
  have loop : ∀ (n : Nat) (x3 : Int32) (x4 : Int32) (x5 : Int32), (9 - x5.toInt < (n : Int)) → (iv (-1) 8 x3) → (iv (-1) 63 x4) → (iv 0 9 x5) → P x3 x4 x5 := by
    intro n
    induction n with
    | zero => intro x3 x4 x5 hm hx3 hx4 hx5; exact (ms0_up hm hx5).elim
    | succ n ih =>
      intro x3 x4 x5 hm hx3 hx4 hx5
      apply hP
      refine ⟨fun c1 => ?_, fun c1 => ?_⟩
      · skip
        exact hpost _ hx3
      · skip
        refine ⟨fun c2 => ?_, fun c2 => ?_⟩
        · skip
          exact s_wp_X7_worst_9_56 k_a_next k_lf_huts k_lf_dams hx2 hx3 hx4 (iv_lta (l := 0) (h := 8) (r_nle c1) hx5 k_lf_huts (by decide)) x5.toInt (Int.le_refl _) (fun u0 u1 u2 hq g0 g1 g2 => ih u0 u1 u2 (ms_up hm hq) g0 g1 g2) hpost
        · skip
          refine ⟨fun c3 => ?_, fun c3 => ?_⟩
          · skip
            refine ⟨fun c4 => ?_, fun c4 => ?_⟩
            · skip
              exact (iv_emp (iv_ne (l := 1) (h := 0) c4 (iv_lit (l := 0) (h := 0) (by decide)) (iv_lit (l := 0) (h := 0) (by decide)) (by decide)) (by decide)).elim
            · skip
              refine s_wp_X7_reach_5_0 k_a_next hx2 (iv_w (iv_lit (l := 0) (h := 0) (by decide)) (by decide)) (fun r5 hr5 => ?_)
              refine s_wp_X7_reach_5_0 k_a_next hx2 (iv_w (iv_shl1 (l := 1) (h := 256) (iv_lit (l := 1) (h := 1) (by decide)) (iv_lta (l := 0) (h := 8) (r_nle c1) hx5 k_lf_huts (by decide)) (by decide)) (by decide)) (fun r6 hr6 => ?_)
              refine s_z_J6_bitCount_0f7a4_0 (iv_w (iv_andl (l := 0) (h := 511) (iv_andl (l := 0) (h := 511) hr5 (by decide)) (by decide)) (by decide)) (fun r7 hr7 => ?_)
              refine ⟨fun c8 => ?_, fun c8 => ?_⟩
              · skip
                exact s_wp_X7_worst_9_56 k_a_next k_lf_huts k_lf_dams hx2 hx3 (iv_w (iv_leb (l := 0) (h := 63) (r_le c8) hr7 hx4 (by decide)) (by decide)) (iv_lta (l := 0) (h := 8) (r_nle c1) hx5 k_lf_huts (by decide)) x5.toInt (Int.le_refl _) (fun u0 u1 u2 hq g0 g1 g2 => ih u0 u1 u2 (ms_up hm hq) g0 g1 g2) hpost
              · skip
                refine s_wp_X7_reach_5_0 k_a_next hx2 (iv_w (iv_lit (l := 0) (h := 0) (by decide)) (by decide)) (fun r9 hr9 => ?_)
                refine s_wp_X7_reach_5_0 k_a_next hx2 (iv_w (iv_shl1 (l := 1) (h := 256) (iv_lit (l := 1) (h := 1) (by decide)) (iv_lta (l := 0) (h := 8) (r_nle c1) hx5 k_lf_huts (by decide)) (by decide)) (by decide)) (fun r10 hr10 => ?_)
                refine s_z_J6_bitCount_0f7a4_0 (iv_w (iv_andl (l := 0) (h := 511) (iv_andl (l := 0) (h := 511) hr9 (by decide)) (by decide)) (by decide)) (fun r11 hr11 => ?_)
                exact s_wp_X7_worst_9_56 k_a_next k_lf_huts k_lf_dams hx2 (iv_w (iv_lta (l := 0) (h := 8) (r_nle c1) hx5 k_lf_huts (by decide)) (by decide)) (iv_w hr11 (by decide)) (iv_lta (l := 0) (h := 8) (r_nle c1) hx5 k_lf_huts (by decide)) x5.toInt (Int.le_refl _) (fun u0 u1 u2 hq g0 g1 g2 => ih u0 u1 u2 (ms_up hm hq) g0 g1 g2) hpost
          · skip
            refine ⟨fun c12 => ?_, fun c12 => ?_⟩
            · skip
              exact s_wp_X7_worst_9_56 k_a_next k_lf_huts k_lf_dams hx2 hx3 hx4 (iv_lta (l := 0) (h := 8) (r_nle c1) hx5 k_lf_huts (by decide)) x5.toInt (Int.le_refl _) (fun u0 u1 u2 hq g0 g1 g2 => ih u0 u1 u2 (ms_up hm hq) g0 g1 g2) hpost
            · skip
              exact (iv_emp (iv_eqa (l := 1) (h := 0) c12 (iv_lit (l := 1) (h := 1) (by decide)) (iv_lit (l := 0) (h := 0) (by decide)) (by decide)) (by decide)).elim
  exact loop _ _ _ _ (ms_init_up _ _) hx3 hx4 hx5
set_option maxRecDepth 20000 in
theorem s_wp_X7_worst_9_0 {a_next : Nat → Int32} {lf_huts : Int32} {lf_dams : Int32} {x2 : Int32} {post : Int32 → Prop} (k_a_next : ∀ j, iv 0 511 (a_next j)) (k_lf_huts : iv 1 9 lf_huts) (k_lf_dams : iv 0 511 lf_dams) (hx2 : iv 0 8 x2) (hpost : ∀ (r : Int32), iv (-1) 8 r → post r) : q_wp_X7_worst_9_0 a_next lf_huts lf_dams x2 post := by
  exact s_wp_X7_worst_9_8 k_a_next k_lf_huts k_lf_dams hx2 (iv_w (iv_lit (l := (-1)) (h := (-1)) (by decide)) (by decide)) (iv_w (iv_lit (l := (-1)) (h := (-1)) (by decide)) (by decide)) (iv_w (iv_lit (l := 0) (h := 0) (by decide)) (by decide)) hpost
-- wp_X7_agrees_18
set_option maxRecDepth 20000 in
theorem s_wp_X7_agrees_18_59 {P2 : Int32 → Prop} {a_heard : Nat → Int32} {sf_facts : Int32} {sa_heard : Nat → Int32} {sa_huts : Nat → Int32} {sa_minutes : Nat → Int32} {x2 : Int32} {x3 : Int32} {y0 : Int32} {y1 : Int32} {post : Int32 → Prop} (k_a_heard : ∀ j, iv 0 1000 (a_heard j)) (k_sf_facts : iv 1 10 sf_facts) (k_sa_heard : ∀ j, iv 0 1 (sa_heard j)) (k_sa_huts : ∀ j, iv 0 8 (sa_huts j)) (k_sa_minutes : ∀ j, iv 0 60 (sa_minutes j)) (hx2 : iv 0 8 x2) (hx3 : iv 0 9 x3) (hy0 : iv 0 1 y0) (hy1 : iv 0 1 y1) (m2 : Int) (hm2 : m2 ≤ x3.toInt) (hP2 : ∀ (x3 : Int32), m2 < x3.toInt → iv 0 10 x3 → P2 x3) (hpost : ∀ (r : Int32), iv 0 1 r → post r) : q_wp_X7_agrees_18_59 P2 a_heard sf_facts sa_heard sa_huts sa_minutes x2 x3 y0 y1 post := by
  refine ⟨fun c1 => ?_, fun c1 => ?_⟩
  · skip
    intro w2 ew2
    have hw2 := iv_eq ew2 (iv_add (l := 1) (h := 10) hx3 (iv_lit (l := 1) (h := 1) (by decide)) (by decide))
    exact hP2 _ (ml_up hm2 (inc_lt ew2 hx3 (by decide))) (iv_w hw2 (by decide))
  · skip
    exact hpost _ (iv_w (iv_lit (l := 0) (h := 0) (by decide)) (by decide))
set_option maxRecDepth 20000 in
theorem s_wp_X7_agrees_18_40 {P2 : Int32 → Prop} {a_heard : Nat → Int32} {sf_facts : Int32} {sa_heard : Nat → Int32} {sa_huts : Nat → Int32} {sa_minutes : Nat → Int32} {x2 : Int32} {x3 : Int32} {y0 : Int32} {post : Int32 → Prop} (k_a_heard : ∀ j, iv 0 1000 (a_heard j)) (k_sf_facts : iv 1 10 sf_facts) (k_sa_heard : ∀ j, iv 0 1 (sa_heard j)) (k_sa_huts : ∀ j, iv 0 8 (sa_huts j)) (k_sa_minutes : ∀ j, iv 0 60 (sa_minutes j)) (hx2 : iv 0 8 x2) (hx3 : iv 0 9 x3) (hy0 : iv 0 1 y0) (m2 : Int) (hm2 : m2 ≤ x3.toInt) (hP2 : ∀ (x3 : Int32), m2 < x3.toInt → iv 0 10 x3 → P2 x3) (hpost : ∀ (r : Int32), iv 0 1 r → post r) : q_wp_X7_agrees_18_40 P2 a_heard sf_facts sa_heard sa_huts sa_minutes x2 x3 y0 post := by
  refine ⟨iv_in hx3 (by decide), ?_⟩
  refine ⟨fun c1 => ?_, fun c1 => ?_⟩
  · skip
    exact s_wp_X7_agrees_18_59 k_a_heard k_sf_facts k_sa_heard k_sa_huts k_sa_minutes hx2 hx3 hy0 (iv_w (iv_lit (l := 0) (h := 0) (by decide)) (by decide)) m2 hm2 hP2 hpost
  · skip
    exact s_wp_X7_agrees_18_59 k_a_heard k_sf_facts k_sa_heard k_sa_huts k_sa_minutes hx2 hx3 hy0 (iv_w (iv_lit (l := 1) (h := 1) (by decide)) (by decide)) m2 hm2 hP2 hpost
set_option maxRecDepth 20000 in
theorem s_wp_X7_agrees_18_2 {a_heard : Nat → Int32} {sf_facts : Int32} {sa_heard : Nat → Int32} {sa_huts : Nat → Int32} {sa_minutes : Nat → Int32} {x2 : Int32} {x3 : Int32} {post : Int32 → Prop} (k_a_heard : ∀ j, iv 0 1000 (a_heard j)) (k_sf_facts : iv 0 10 sf_facts) (k_sa_heard : ∀ j, iv 0 1 (sa_heard j)) (k_sa_huts : ∀ j, iv 0 8 (sa_huts j)) (k_sa_minutes : ∀ j, iv 0 60 (sa_minutes j)) (hx2 : iv 0 8 x2) (hx3 : iv 0 10 x3) (hpost : ∀ (r : Int32), iv 0 1 r → post r) : q_wp_X7_agrees_18_2 a_heard sf_facts sa_heard sa_huts sa_minutes x2 x3 post := by
  intro P hP
  have loop : ∀ (n : Nat) (x3 : Int32), (10 - x3.toInt < (n : Int)) → (iv 0 10 x3) → P x3 := by
    intro n
    induction n with
    | zero => intro x3 hm hx3; exact (ms0_up hm hx3).elim
    | succ n ih =>
      intro x3 hm hx3
      apply hP
      refine ⟨fun c1 => ?_, fun c1 => ?_⟩
      · skip
        exact hpost _ (iv_w (iv_lit (l := 1) (h := 1) (by decide)) (by decide))
      · skip
        refine ⟨iv_in (iv_lta (l := 0) (h := 9) (r_nle c1) hx3 k_sf_facts (by decide)) (by decide), ?_⟩
        refine ⟨iv_in (iv_add (l := 0) (h := 80) (iv_mul (l := 0) (h := 72) hx2 (iv_lit (l := 9) (h := 9) (by decide)) (by decide)) (k_sa_huts _) (by decide)) (by decide), ?_⟩
        refine ⟨iv_in (iv_lta (l := 0) (h := 9) (r_nle c1) hx3 k_sf_facts (by decide)) (by decide), ?_⟩
        refine ⟨fun c2 => ?_, fun c2 => ?_⟩
        · skip
          exact s_wp_X7_agrees_18_40 k_a_heard (iv_ltb (l := 1) (h := 10) (r_nle c1) hx3 k_sf_facts (by decide)) k_sa_heard k_sa_huts k_sa_minutes hx2 (iv_lta (l := 0) (h := 9) (r_nle c1) hx3 k_sf_facts (by decide)) (iv_w (iv_lit (l := 0) (h := 0) (by decide)) (by decide)) x3.toInt (Int.le_refl _) (fun u0 hq g0 => ih u0 (ms_up hm hq) g0) hpost
        · skip
          exact s_wp_X7_agrees_18_40 k_a_heard (iv_ltb (l := 1) (h := 10) (r_nle c1) hx3 k_sf_facts (by decide)) k_sa_heard k_sa_huts k_sa_minutes hx2 (iv_lta (l := 0) (h := 9) (r_nle c1) hx3 k_sf_facts (by decide)) (iv_w (iv_lit (l := 1) (h := 1) (by decide)) (by decide)) x3.toInt (Int.le_refl _) (fun u0 hq g0 => ih u0 (ms_up hm hq) g0) hpost
  exact loop _ _ (ms_init_up _ _) hx3
set_option maxRecDepth 20000 in
theorem s_wp_X7_agrees_18_0 {a_heard : Nat → Int32} {sf_facts : Int32} {sa_heard : Nat → Int32} {sa_huts : Nat → Int32} {sa_minutes : Nat → Int32} {x2 : Int32} {post : Int32 → Prop} (k_a_heard : ∀ j, iv 0 1000 (a_heard j)) (k_sf_facts : iv 0 10 sf_facts) (k_sa_heard : ∀ j, iv 0 1 (sa_heard j)) (k_sa_huts : ∀ j, iv 0 8 (sa_huts j)) (k_sa_minutes : ∀ j, iv 0 60 (sa_minutes j)) (hx2 : iv 0 8 x2) (hpost : ∀ (r : Int32), iv 0 1 r → post r) : q_wp_X7_agrees_18_0 a_heard sf_facts sa_heard sa_huts sa_minutes x2 post := by
  exact s_wp_X7_agrees_18_2 k_a_heard k_sf_facts k_sa_heard k_sa_huts k_sa_minutes hx2 (iv_w (iv_lit (l := 0) (h := 0) (by decide)) (by decide)) hpost
end
section
-- wp_X7_fitting_9_18
set_option maxRecDepth 20000 in
theorem s_wp_X7_fitting_9_18_40 {P5 : Int32 → Int32 → Prop} {a_heard : Nat → Int32} {lf_huts : Int32} {lf_dams : Int32} {sf_facts : Int32} {sa_heard : Nat → Int32} {sa_huts : Nat → Int32} {sa_minutes : Nat → Int32} {x3 : Int32} {x4 : Int32} {post : Int32 → Prop} (k_a_heard : ∀ j, iv 0 1000 (a_heard j)) (k_lf_huts : iv 1 9 lf_huts) (k_lf_dams : iv 0 511 lf_dams) (k_sf_facts : iv 0 10 sf_facts) (k_sa_heard : ∀ j, iv 0 1 (sa_heard j)) (k_sa_huts : ∀ j, iv 0 8 (sa_huts j)) (k_sa_minutes : ∀ j, iv 0 60 (sa_minutes j)) (hx3 : iv 0 511 x3) (hx4 : iv 0 8 x4) (m5 : Int) (hm5 : m5 ≤ x4.toInt) (hP5 : ∀ (x3 : Int32) (x4 : Int32), m5 < x4.toInt → iv 0 511 x3 → iv 0 9 x4 → P5 x3 x4) (hpost : ∀ (r : Int32), iv 0 511 r → post r) : q_wp_X7_fitting_9_18_40 P5 a_heard lf_huts lf_dams sf_facts sa_heard sa_huts sa_minutes x3 x4 post := by
  intro w1 ew1
  have hw1 := iv_eq ew1 (iv_add (l := 1) (h := 9) hx4 (iv_lit (l := 1) (h := 1) (by decide)) (by decide))
  exact hP5 _ _ (ml_up hm5 (inc_lt ew1 hx4 (by decide))) hx3 (iv_w hw1 (by decide))
set_option maxRecDepth 20000 in
theorem s_wp_X7_fitting_9_18_5 {a_heard : Nat → Int32} {lf_huts : Int32} {lf_dams : Int32} {sf_facts : Int32} {sa_heard : Nat → Int32} {sa_huts : Nat → Int32} {sa_minutes : Nat → Int32} {x3 : Int32} {x4 : Int32} {post : Int32 → Prop} (k_a_heard : ∀ j, iv 0 1000 (a_heard j)) (k_lf_huts : iv 0 9 lf_huts) (k_lf_dams : iv 0 511 lf_dams) (k_sf_facts : iv 0 10 sf_facts) (k_sa_heard : ∀ j, iv 0 1 (sa_heard j)) (k_sa_huts : ∀ j, iv 0 8 (sa_huts j)) (k_sa_minutes : ∀ j, iv 0 60 (sa_minutes j)) (hx3 : iv 0 511 x3) (hx4 : iv 0 9 x4) (hpost : ∀ (r : Int32), iv 0 511 r → post r) : q_wp_X7_fitting_9_18_5 a_heard lf_huts lf_dams sf_facts sa_heard sa_huts sa_minutes x3 x4 post := by
  intro P hP
  have loop : ∀ (n : Nat) (x3 : Int32) (x4 : Int32), (9 - x4.toInt < (n : Int)) → (iv 0 511 x3) → (iv 0 9 x4) → P x3 x4 := by
    intro n
    induction n with
    | zero => intro x3 x4 hm hx3 hx4; exact (ms0_up hm hx4).elim
    | succ n ih =>
      intro x3 x4 hm hx3 hx4
      apply hP
      refine ⟨fun c1 => ?_, fun c1 => ?_⟩
      · skip
        exact hpost _ hx3
      · skip
        refine ⟨fun c2 => ?_, fun c2 => ?_⟩
        · skip
          refine ⟨fun c3 => ?_, fun c3 => ?_⟩
          · skip
            exact (iv_emp (iv_ne (l := 1) (h := 0) c3 (iv_lit (l := 0) (h := 0) (by decide)) (iv_lit (l := 0) (h := 0) (by decide)) (by decide)) (by decide)).elim
          · skip
            refine s_wp_X7_agrees_18_0 k_a_heard k_sf_facts k_sa_heard k_sa_huts k_sa_minutes (iv_lta (l := 0) (h := 8) (r_nle c1) hx4 k_lf_huts (by decide)) (fun r4 hr4 => ?_)
            refine ⟨fun c5 => ?_, fun c5 => ?_⟩
            · skip
              exact s_wp_X7_fitting_9_18_40 k_a_heard (iv_ltb (l := 1) (h := 9) (r_nle c1) hx4 k_lf_huts (by decide)) k_lf_dams k_sf_facts k_sa_heard k_sa_huts k_sa_minutes hx3 (iv_lta (l := 0) (h := 8) (r_nle c1) hx4 k_lf_huts (by decide)) x4.toInt (Int.le_refl _) (fun u0 u1 hq g0 g1 => ih u0 u1 (ms_up hm hq) g0 g1) hpost
            · skip
              intro w6 ew6
              have hw6 := iv_eq ew6 (iv_or 9 (l := 0) (h := 511) hx3 (iv_shl1 (l := 1) (h := 256) (iv_lit (l := 1) (h := 1) (by decide)) (iv_lta (l := 0) (h := 8) (r_nle c1) hx4 k_lf_huts (by decide)) (by decide)) (by decide))
              exact s_wp_X7_fitting_9_18_40 k_a_heard (iv_ltb (l := 1) (h := 9) (r_nle c1) hx4 k_lf_huts (by decide)) k_lf_dams k_sf_facts k_sa_heard k_sa_huts k_sa_minutes hw6 (iv_lta (l := 0) (h := 8) (r_nle c1) hx4 k_lf_huts (by decide)) x4.toInt (Int.le_refl _) (fun u0 u1 hq g0 g1 => ih u0 u1 (ms_up hm hq) g0 g1) hpost
        · skip
          refine ⟨fun c7 => ?_, fun c7 => ?_⟩
          · skip
            exact s_wp_X7_fitting_9_18_40 k_a_heard (iv_ltb (l := 1) (h := 9) (r_nle c1) hx4 k_lf_huts (by decide)) k_lf_dams k_sf_facts k_sa_heard k_sa_huts k_sa_minutes hx3 (iv_lta (l := 0) (h := 8) (r_nle c1) hx4 k_lf_huts (by decide)) x4.toInt (Int.le_refl _) (fun u0 u1 hq g0 g1 => ih u0 u1 (ms_up hm hq) g0 g1) hpost
          · skip
            exact (iv_emp (iv_eqa (l := 1) (h := 0) c7 (iv_lit (l := 1) (h := 1) (by decide)) (iv_lit (l := 0) (h := 0) (by decide)) (by decide)) (by decide)).elim
  exact loop _ _ _ (ms_init_up _ _) hx3 hx4
set_option maxRecDepth 20000 in
theorem s_wp_X7_fitting_9_18_0 {a_heard : Nat → Int32} {lf_huts : Int32} {lf_dams : Int32} {sf_facts : Int32} {sa_heard : Nat → Int32} {sa_huts : Nat → Int32} {sa_minutes : Nat → Int32} {post : Int32 → Prop} (k_a_heard : ∀ j, iv 0 1000 (a_heard j)) (k_lf_huts : iv 0 9 lf_huts) (k_lf_dams : iv 0 511 lf_dams) (k_sf_facts : iv 0 10 sf_facts) (k_sa_heard : ∀ j, iv 0 1 (sa_heard j)) (k_sa_huts : ∀ j, iv 0 8 (sa_huts j)) (k_sa_minutes : ∀ j, iv 0 60 (sa_minutes j)) (hpost : ∀ (r : Int32), iv 0 511 r → post r) : q_wp_X7_fitting_9_18_0 a_heard lf_huts lf_dams sf_facts sa_heard sa_huts sa_minutes post := by
  exact s_wp_X7_fitting_9_18_5 k_a_heard k_lf_huts k_lf_dams k_sf_facts k_sa_heard k_sa_huts k_sa_minutes (iv_w (iv_lit (l := 0) (h := 0) (by decide)) (by decide)) (iv_w (iv_lit (l := 0) (h := 0) (by decide)) (by decide)) hpost
-- wp_X7_fromBy_9
set_option maxRecDepth 20000 in
theorem s_wp_X7_fromBy_9_40 {P6 : Int32 → Int32 → Prop} {a_heard : Nat → Int32} {lf_huts : Int32} {x2 : Int32} {x3 : Int32} {x4 : Int32} {x5 : Int32} {post : Int32 → Prop} (k_a_heard : ∀ j, iv 0 1000 (a_heard j)) (k_lf_huts : iv 1 9 lf_huts) (hx2 : iv 0 8 x2) (hx3 : iv 0 999 x3) (hx4 : iv 0 511 x4) (hx5 : iv 0 8 x5) (m6 : Int) (hm6 : m6 ≤ x5.toInt) (hP6 : ∀ (x4 : Int32) (x5 : Int32), m6 < x5.toInt → iv 0 511 x4 → iv 0 9 x5 → P6 x4 x5) (hpost : ∀ (r : Int32), iv 0 511 r → post r) : q_wp_X7_fromBy_9_40 P6 a_heard lf_huts x2 x3 x4 x5 post := by
  intro w1 ew1
  have hw1 := iv_eq ew1 (iv_add (l := 1) (h := 9) hx5 (iv_lit (l := 1) (h := 1) (by decide)) (by decide))
  exact hP6 _ _ (ml_up hm6 (inc_lt ew1 hx5 (by decide))) hx4 (iv_w hw1 (by decide))
set_option maxRecDepth 20000 in
theorem s_wp_X7_fromBy_9_6 {a_heard : Nat → Int32} {lf_huts : Int32} {x2 : Int32} {x3 : Int32} {x4 : Int32} {x5 : Int32} {post : Int32 → Prop} (k_a_heard : ∀ j, iv 0 1000 (a_heard j)) (k_lf_huts : iv 1 9 lf_huts) (hx2 : iv 0 8 x2) (hx3 : iv 0 999 x3) (hx4 : iv 0 511 x4) (hx5 : iv 0 9 x5) (hpost : ∀ (r : Int32), iv 0 511 r → post r) : q_wp_X7_fromBy_9_6 a_heard lf_huts x2 x3 x4 x5 post := by
  intro P hP
  have loop : ∀ (n : Nat) (x4 : Int32) (x5 : Int32), (9 - x5.toInt < (n : Int)) → (iv 0 511 x4) → (iv 0 9 x5) → P x4 x5 := by
    intro n
    induction n with
    | zero => intro x4 x5 hm hx4 hx5; exact (ms0_up hm hx5).elim
    | succ n ih =>
      intro x4 x5 hm hx4 hx5
      apply hP
      refine ⟨fun c1 => ?_, fun c1 => ?_⟩
      · skip
        exact hpost _ hx4
      · skip
        refine ⟨iv_in (iv_add (l := 0) (h := 80) (iv_mul (l := 0) (h := 72) (iv_lta (l := 0) (h := 8) (r_nle c1) hx5 k_lf_huts (by decide)) (iv_lit (l := 9) (h := 9) (by decide)) (by decide)) hx2 (by decide)) (by decide), ?_⟩
        refine ⟨fun c2 => ?_, fun c2 => ?_⟩
        · skip
          exact s_wp_X7_fromBy_9_40 k_a_heard k_lf_huts hx2 hx3 hx4 (iv_lta (l := 0) (h := 8) (r_nle c1) hx5 k_lf_huts (by decide)) x5.toInt (Int.le_refl _) (fun u0 u1 hq g0 g1 => ih u0 u1 (ms_up hm hq) g0 g1) hpost
        · skip
          intro w3 ew3
          have hw3 := iv_eq ew3 (iv_or 9 (l := 0) (h := 511) hx4 (iv_shl1 (l := 1) (h := 256) (iv_lit (l := 1) (h := 1) (by decide)) (iv_lta (l := 0) (h := 8) (r_nle c1) hx5 k_lf_huts (by decide)) (by decide)) (by decide))
          exact s_wp_X7_fromBy_9_40 k_a_heard k_lf_huts hx2 hx3 hw3 (iv_lta (l := 0) (h := 8) (r_nle c1) hx5 k_lf_huts (by decide)) x5.toInt (Int.le_refl _) (fun u0 u1 hq g0 g1 => ih u0 u1 (ms_up hm hq) g0 g1) hpost
  exact loop _ _ _ (ms_init_up _ _) hx4 hx5
set_option maxRecDepth 20000 in
theorem s_wp_X7_fromBy_9_0 {a_heard : Nat → Int32} {lf_huts : Int32} {x2 : Int32} {x3 : Int32} {post : Int32 → Prop} (k_a_heard : ∀ j, iv 0 1000 (a_heard j)) (k_lf_huts : iv 1 9 lf_huts) (hx2 : iv 0 8 x2) (hx3 : iv 0 999 x3) (hpost : ∀ (r : Int32), iv 0 511 r → post r) : q_wp_X7_fromBy_9_0 a_heard lf_huts x2 x3 post := by
  exact s_wp_X7_fromBy_9_6 k_a_heard k_lf_huts hx2 hx3 (iv_w (iv_lit (l := 0) (h := 0) (by decide)) (by decide)) (iv_w (iv_lit (l := 0) (h := 0) (by decide)) (by decide)) hpost
-- wp_X7_question_9
set_option maxRecDepth 20000 in
theorem s_wp_X7_question_9_67 {P16 : Int32 → Int32 → Int32 → Prop} {P26 : Int32 → Int32 → Int32 → Prop} {a_heard : Nat → Int32} {lf_huts : Int32} {x2 : Int32} {x3 : Int32} {x4 : Int32} {x5 : Int32} {x6 : Int32} {post : Int32 → Prop} (k_a_heard : ∀ j, iv 0 1000 (a_heard j)) (k_lf_huts : iv 1 9 lf_huts) (hx2 : iv 1 511 x2) (hx3 : iv (-1) 2147483647 x3) (hx4 : iv 0 63 x4) (hx5 : iv 0 60 x5) (hx6 : iv 0 8 x6) (m16 : Int) (hm16 : m16 ≤ x5.toInt) (hP16 : ∀ (x3 : Int32) (x4 : Int32) (x5 : Int32), m16 < x5.toInt → iv (-1) 2147483647 x3 → iv 0 1000 x4 → iv 0 61 x5 → P16 x3 x4 x5) (m26 : Int) (hm26 : m26 ≤ x6.toInt) (hP26 : ∀ (x3 : Int32) (x4 : Int32) (x6 : Int32), m26 < x6.toInt → iv (-1) 2147483647 x3 → iv 0 1000 x4 → iv 0 9 x6 → P26 x3 x4 x6) (hpost : ∀ (r : Int32), iv (-1) 2147483647 r → post r) : q_wp_X7_question_9_67 P16 P26 a_heard lf_huts x2 x3 x4 x5 x6 post := by
  intro w1 ew1
  have hw1 := iv_eq ew1 (iv_add (l := 1) (h := 9) hx6 (iv_lit (l := 1) (h := 1) (by decide)) (by decide))
  exact hP26 _ _ _ (ml_up hm26 (inc_lt ew1 hx6 (by decide))) hx3 (iv_w hx4 (by decide)) (iv_w hw1 (by decide))
set_option maxRecDepth 20000 in
theorem s_wp_X7_question_9_26 {P16 : Int32 → Int32 → Int32 → Prop} {a_heard : Nat → Int32} {lf_huts : Int32} {x2 : Int32} {x3 : Int32} {x4 : Int32} {x5 : Int32} {x6 : Int32} {post : Int32 → Prop} (k_a_heard : ∀ j, iv 0 1000 (a_heard j)) (k_lf_huts : iv 0 9 lf_huts) (hx2 : iv 1 511 x2) (hx3 : iv (-1) 2147483647 x3) (hx4 : iv 0 1000 x4) (hx5 : iv 0 60 x5) (hx6 : iv 0 9 x6) (m16 : Int) (hm16 : m16 ≤ x5.toInt) (hP16 : ∀ (x3 : Int32) (x4 : Int32) (x5 : Int32), m16 < x5.toInt → iv (-1) 2147483647 x3 → iv 0 1000 x4 → iv 0 61 x5 → P16 x3 x4 x5) (hpost : ∀ (r : Int32), iv (-1) 2147483647 r → post r) : q_wp_X7_question_9_26 P16 a_heard lf_huts x2 x3 x4 x5 x6 post := by
  intro P hP
  have loop : ∀ (n : Nat) (x3 : Int32) (x4 : Int32) (x6 : Int32), (9 - x6.toInt < (n : Int)) → (iv (-1) 2147483647 x3) → (iv 0 1000 x4) → (iv 0 9 x6) → P x3 x4 x6 := by
    intro n
    induction n with
    | zero => intro x3 x4 x6 hm hx3 hx4 hx6; exact (ms0_up hm hx6).elim
    | succ n ih =>
      intro x3 x4 x6 hm hx3 hx4 hx6
      apply hP
      refine ⟨fun c1 => ?_, fun c1 => ?_⟩
      · skip
        intro w2 ew2
        have hw2 := iv_eq ew2 (iv_add (l := 1) (h := 61) hx5 (iv_lit (l := 1) (h := 1) (by decide)) (by decide))
        exact hP16 _ _ _ (ml_up hm16 (inc_lt ew2 hx5 (by decide))) hx3 hx4 (iv_w hw2 (by decide))
      · skip
        refine s_wp_X7_fromBy_9_0 k_a_heard (iv_ltb (l := 1) (h := 9) (r_nle c1) hx6 k_lf_huts (by decide)) (iv_lta (l := 0) (h := 8) (r_nle c1) hx6 k_lf_huts (by decide)) (iv_w hx5 (by decide)) (fun r3 hr3 => ?_)
        refine s_z_J6_bitCount_0f7a4_0 (iv_w (iv_andr (l := 0) (h := 511) hr3 (by decide)) (by decide)) (fun r4 hr4 => ?_)
        refine s_z_J6_bitCount_0f7a4_0 (iv_w hx2 (by decide)) (fun r5 hr5 => ?_)
        refine ⟨fun c6 => ?_, fun c6 => ?_⟩
        · skip
          exact s_wp_X7_question_9_67 k_a_heard (iv_ltb (l := 1) (h := 9) (r_nle c1) hx6 k_lf_huts (by decide)) hx2 hx3 (iv_lea (l := 0) (h := 63) (r_le c6) hx4 (iv_max (l := 0) (h := 63) hr4 (iv_sub (l := (-63)) (h := 63) hr5 hr4 (by decide)) (by decide)) (by decide)) hx5 (iv_lta (l := 0) (h := 8) (r_nle c1) hx6 k_lf_huts (by decide)) m16 hm16 hP16 x6.toInt (Int.le_refl _) (fun u0 u1 u2 hq g0 g1 g2 => ih u0 u1 u2 (ms_up hm hq) g0 g1 g2) hpost
        · skip
          intro w7 ew7
          have hw7 := iv_eq ew7 (iv_add (l := 0) (h := 608) (iv_mul (l := 0) (h := 600) (iv_lit (l := 10) (h := 10) (by decide)) hx5 (by decide)) (iv_lta (l := 0) (h := 8) (r_nle c1) hx6 k_lf_huts (by decide)) (by decide))
          exact s_wp_X7_question_9_67 k_a_heard (iv_ltb (l := 1) (h := 9) (r_nle c1) hx6 k_lf_huts (by decide)) hx2 (iv_w hw7 (by decide)) (iv_max (l := 0) (h := 63) hr4 (iv_sub (l := (-63)) (h := 63) hr5 hr4 (by decide)) (by decide)) hx5 (iv_lta (l := 0) (h := 8) (r_nle c1) hx6 k_lf_huts (by decide)) m16 hm16 hP16 x6.toInt (Int.le_refl _) (fun u0 u1 u2 hq g0 g1 g2 => ih u0 u1 u2 (ms_up hm hq) g0 g1 g2) hpost
  exact loop _ _ _ _ (ms_init_up _ _) hx3 hx4 hx6
set_option maxRecDepth 20000 in
theorem s_wp_X7_question_9_16 {a_heard : Nat → Int32} {lf_huts : Int32} {x2 : Int32} {x3 : Int32} {x4 : Int32} {x5 : Int32} {post : Int32 → Prop} (k_a_heard : ∀ j, iv 0 1000 (a_heard j)) (k_lf_huts : iv 0 9 lf_huts) (hx2 : iv 1 511 x2) (hx3 : iv (-1) 2147483647 x3) (hx4 : iv 0 1000 x4) (hx5 : iv 0 61 x5) (hpost : ∀ (r : Int32), iv (-1) 2147483647 r → post r) : q_wp_X7_question_9_16 a_heard lf_huts x2 x3 x4 x5 post := by
  intro P hP
  have loop : ∀ (n : Nat) (x3 : Int32) (x4 : Int32) (x5 : Int32), (61 - x5.toInt < (n : Int)) → (iv (-1) 2147483647 x3) → (iv 0 1000 x4) → (iv 0 61 x5) → P x3 x4 x5 := by
    intro n
    induction n with
    | zero => intro x3 x4 x5 hm hx3 hx4 hx5; exact (ms0_up hm hx5).elim
    | succ n ih =>
      intro x3 x4 x5 hm hx3 hx4 hx5
      apply hP
      refine ⟨fun c1 => ?_, fun c1 => ?_⟩
      · skip
        exact hpost _ hx3
      · skip
        exact s_wp_X7_question_9_26 k_a_heard k_lf_huts hx2 hx3 hx4 (iv_lea (l := 0) (h := 60) (r_nlt c1) hx5 (iv_lit (l := 60) (h := 60) (by decide)) (by decide)) (iv_w (iv_lit (l := 0) (h := 0) (by decide)) (by decide)) x5.toInt (Int.le_refl _) (fun u0 u1 u2 hq g0 g1 g2 => ih u0 u1 u2 (ms_up hm hq) g0 g1 g2) hpost
  exact loop _ _ _ _ (ms_init_up _ _) hx3 hx4 hx5
set_option maxRecDepth 20000 in
theorem s_wp_X7_question_9_0 {a_heard : Nat → Int32} {lf_huts : Int32} {x2 : Int32} {post : Int32 → Prop} (k_a_heard : ∀ j, iv 0 1000 (a_heard j)) (k_lf_huts : iv 0 9 lf_huts) (hx2 : iv 0 511 x2) (hpost : ∀ (r : Int32), iv (-1) 2147483647 r → post r) : q_wp_X7_question_9_0 a_heard lf_huts x2 post := by
  refine ⟨fun c1 => ?_, fun c1 => ?_⟩
  · skip
    exact s_wp_X7_question_9_16 k_a_heard k_lf_huts (iv_ne (l := 1) (h := 511) c1 hx2 (iv_lit (l := 0) (h := 0) (by decide)) (by decide)) (iv_w (iv_lit (l := (-1)) (h := (-1)) (by decide)) (by decide)) (iv_w (iv_lit (l := 1000) (h := 1000) (by decide)) (by decide)) (iv_w (iv_lit (l := 0) (h := 0) (by decide)) (by decide)) hpost
  · skip
    exact hpost _ (iv_w (iv_lit (l := (-1)) (h := (-1)) (by decide)) (by decide))
-- wp_X7_soonest_9
set_option maxRecDepth 20000 in
theorem s_wp_X7_soonest_9_7 {a_heard : Nat → Int32} {lf_huts : Int32} {x2 : Int32} {x3 : Int32} {x4 : Int32} {post : Int32 → Prop} (k_a_heard : ∀ j, iv 0 1000 (a_heard j)) (k_lf_huts : iv 1 9 lf_huts) (hx2 : iv 0 8 x2) (hx3 : iv 0 1000 x3) (hx4 : iv 0 9 x4) (hpost : ∀ (r : Int32), iv 0 1000 r → post r) : q_wp_X7_soonest_9_7 a_heard lf_huts x2 x3 x4 post := by
  intro P hP
  have loop : ∀ (n : Nat) (x3 : Int32) (x4 : Int32), (9 - x4.toInt < (n : Int)) → (iv 0 1000 x3) → (iv 0 9 x4) → P x3 x4 := by
    intro n
    induction n with
    | zero => intro x3 x4 hm hx3 hx4; exact (ms0_up hm hx4).elim
    | succ n ih =>
      intro x3 x4 hm hx3 hx4
      apply hP
      refine ⟨fun c1 => ?_, fun c1 => ?_⟩
      · skip
        exact hpost _ hx3
      · skip
        refine ⟨iv_in (iv_add (l := 0) (h := 80) (iv_mul (l := 0) (h := 72) (iv_lta (l := 0) (h := 8) (r_nle c1) hx4 k_lf_huts (by decide)) (iv_lit (l := 9) (h := 9) (by decide)) (by decide)) hx2 (by decide)) (by decide), ?_⟩
        intro w2 ew2
        have hw2 := iv_eq ew2 (iv_min (l := 0) (h := 1000) hx3 (k_a_heard _) (by decide))
        intro w3 ew3
        have hw3 := iv_eq ew3 (iv_add (l := 1) (h := 9) (iv_lta (l := 0) (h := 8) (r_nle c1) hx4 k_lf_huts (by decide)) (iv_lit (l := 1) (h := 1) (by decide)) (by decide))
        exact ih _ _ (ms_up hm (inc_lt ew3 (iv_lta (l := 0) (h := 8) (r_nle c1) hx4 k_lf_huts (by decide)) (by decide))) hw2 (iv_w hw3 (by decide))
  exact loop _ _ _ (ms_init_up _ _) hx3 hx4
set_option maxRecDepth 20000 in
theorem s_wp_X7_soonest_9_0 {a_heard : Nat → Int32} {lf_huts : Int32} {x2 : Int32} {post : Int32 → Prop} (k_a_heard : ∀ j, iv 0 1000 (a_heard j)) (k_lf_huts : iv 1 9 lf_huts) (hx2 : iv 0 8 x2) (hpost : ∀ (r : Int32), iv 0 1000 r → post r) : q_wp_X7_soonest_9_0 a_heard lf_huts x2 post := by
  exact s_wp_X7_soonest_9_7 k_a_heard k_lf_huts hx2 (iv_w (iv_lit (l := 1000) (h := 1000) (by decide)) (by decide)) (iv_w (iv_lit (l := 0) (h := 0) (by decide)) (by decide)) hpost
-- wp_X7_carried_9
set_option maxRecDepth 20000 in
theorem s_wp_X7_carried_9_66 {P11 : Int32 → Int32 → Int32 → Prop} {a_heard : Nat → Int32} {a_walked : Nat → Int32} {lf_huts : Int32} {lf_villages : Int32} {lf_dams : Int32} {x2 : Int32} {x3 : Int32} {x4 : Int32} {x5 : Int32} {x6 : Int32} {post : Int32 → Prop} (k_a_heard : ∀ j, iv 0 1000 (a_heard j)) (k_a_walked : ∀ j, iv 0 1000 (a_walked j)) (k_lf_huts : iv 1 9 lf_huts) (k_lf_villages : iv 0 511 lf_villages) (k_lf_dams : iv 0 511 lf_dams) (hx2 : iv 0 8 x2) (hx4 : iv (-1) 8 x4) (hx5 : iv 0 1000 x5) (hx6 : iv 0 8 x6) (m11 : Int) (hm11 : m11 ≤ x6.toInt) (hP11 : ∀ (x4 : Int32) (x5 : Int32) (x6 : Int32), m11 < x6.toInt → iv (-1) 8 x4 → iv 0 1000 x5 → iv 0 9 x6 → P11 x4 x5 x6) (hpost : ∀ (r : Int32), iv (-1) 1000 r → post r) : q_wp_X7_carried_9_66 P11 a_heard a_walked lf_huts lf_villages lf_dams x2 x3 x4 x5 x6 post := by
  intro w1 ew1
  have hw1 := iv_eq ew1 (iv_add (l := 1) (h := 9) hx6 (iv_lit (l := 1) (h := 1) (by decide)) (by decide))
  exact hP11 _ _ _ (ml_up hm11 (inc_lt ew1 hx6 (by decide))) hx4 hx5 (iv_w hw1 (by decide))
set_option maxRecDepth 20000 in
theorem s_wp_X7_carried_9_11 {a_heard : Nat → Int32} {a_walked : Nat → Int32} {lf_huts : Int32} {lf_villages : Int32} {lf_dams : Int32} {x2 : Int32} {x3 : Int32} {x4 : Int32} {x5 : Int32} {x6 : Int32} {post : Int32 → Prop} (k_a_heard : ∀ j, iv 0 1000 (a_heard j)) (k_a_walked : ∀ j, iv 0 1000 (a_walked j)) (k_lf_huts : iv 0 9 lf_huts) (k_lf_villages : iv 0 511 lf_villages) (k_lf_dams : iv 0 511 lf_dams) (hx2 : iv 0 8 x2) (hx4 : iv (-1) 8 x4) (hx5 : iv 0 1000 x5) (hx6 : iv 0 9 x6) (hpost : ∀ (r : Int32), iv (-1) 1000 r → post r) : q_wp_X7_carried_9_11 a_heard a_walked lf_huts lf_villages lf_dams x2 x3 x4 x5 x6 post := by
  intro P hP
  have loop : ∀ (n : Nat) (x4 : Int32) (x5 : Int32) (x6 : Int32), (9 - x6.toInt < (n : Int)) → (iv (-1) 8 x4) → (iv 0 1000 x5) → (iv 0 9 x6) → P x4 x5 x6 := by
    intro n
    induction n with
    | zero => intro x4 x5 x6 hm hx4 hx5 hx6; exact (ms0_up hm hx6).elim
    | succ n ih =>
      intro x4 x5 x6 hm hx4 hx5 hx6
      apply hP
      refine ⟨fun c1 => ?_, fun c1 => ?_⟩
      · skip
        refine ⟨fun c2 => ?_, fun c2 => ?_⟩
        · skip
          exact hpost _ (iv_w (iv_eqa (l := (-1)) (h := (-1)) c2 hx4 (iv_lit (l := (-1)) (h := (-1)) (by decide)) (by decide)) (by decide))
        · skip
          refine ⟨fun c3 => ?_, fun c3 => ?_⟩
          · skip
            exact hpost _ (iv_w (iv_ne (l := 0) (h := 8) c2 hx4 (iv_lit (l := (-1)) (h := (-1)) (by decide)) (by decide)) (by decide))
          · skip
            exact hpost _ (iv_w hx5 (by decide))
      · skip
        refine ⟨iv_in (iv_add (l := 0) (h := 80) (iv_mul (l := 0) (h := 72) hx2 (iv_lit (l := 9) (h := 9) (by decide)) (by decide)) (iv_lta (l := 0) (h := 8) (r_nle c1) hx6 k_lf_huts (by decide)) (by decide)) (by decide), ?_⟩
        refine s_wp_X7_lastVillage_9_0 k_a_heard (iv_w (iv_ltb (l := 1) (h := 9) (r_nle c1) hx6 k_lf_huts (by decide)) (by decide)) k_lf_villages k_lf_dams (iv_lta (l := 0) (h := 8) (r_nle c1) hx6 k_lf_huts (by decide)) (fun r4 hr4 => ?_)
        intro w5 ew5
        have hw5 := iv_eq ew5 (iv_add (l := 0) (h := 2000) (k_a_walked _) hr4 (by decide))
        refine ⟨fun c6 => ?_, fun c6 => ?_⟩
        · skip
          refine ⟨fun c7 => ?_, fun c7 => ?_⟩
          · skip
            exact (iv_emp (iv_ne (l := 1) (h := 0) c7 (iv_lit (l := 0) (h := 0) (by decide)) (iv_lit (l := 0) (h := 0) (by decide)) (by decide)) (by decide)).elim
          · skip
            refine ⟨fun c8 => ?_, fun c8 => ?_⟩
            · skip
              exact s_wp_X7_carried_9_66 k_a_heard k_a_walked (iv_ltb (l := 1) (h := 9) (r_nle c1) hx6 k_lf_huts (by decide)) k_lf_villages k_lf_dams hx2 hx4 hx5 (iv_lta (l := 0) (h := 8) (r_nle c1) hx6 k_lf_huts (by decide)) x6.toInt (Int.le_refl _) (fun u0 u1 u2 hq g0 g1 g2 => ih u0 u1 u2 (ms_up hm hq) g0 g1 g2) hpost
            · skip
              exact s_wp_X7_carried_9_66 k_a_heard k_a_walked (iv_ltb (l := 1) (h := 9) (r_nle c1) hx6 k_lf_huts (by decide)) k_lf_villages k_lf_dams hx2 (iv_w (iv_lta (l := 0) (h := 8) (r_nle c1) hx6 k_lf_huts (by decide)) (by decide)) (iv_w (iv_lta (l := 0) (h := 999) (r_nle c8) hw5 hx5 (by decide)) (by decide)) (iv_lta (l := 0) (h := 8) (r_nle c1) hx6 k_lf_huts (by decide)) x6.toInt (Int.le_refl _) (fun u0 u1 u2 hq g0 g1 g2 => ih u0 u1 u2 (ms_up hm hq) g0 g1 g2) hpost
        · skip
          refine ⟨fun c9 => ?_, fun c9 => ?_⟩
          · skip
            exact s_wp_X7_carried_9_66 k_a_heard k_a_walked (iv_ltb (l := 1) (h := 9) (r_nle c1) hx6 k_lf_huts (by decide)) k_lf_villages k_lf_dams hx2 hx4 hx5 (iv_lta (l := 0) (h := 8) (r_nle c1) hx6 k_lf_huts (by decide)) x6.toInt (Int.le_refl _) (fun u0 u1 u2 hq g0 g1 g2 => ih u0 u1 u2 (ms_up hm hq) g0 g1 g2) hpost
          · skip
            exact (iv_emp (iv_eqa (l := 1) (h := 0) c9 (iv_lit (l := 1) (h := 1) (by decide)) (iv_lit (l := 0) (h := 0) (by decide)) (by decide)) (by decide)).elim
  exact loop _ _ _ _ (ms_init_up _ _) hx4 hx5 hx6
set_option maxRecDepth 20000 in
theorem s_wp_X7_carried_9_0 {a_heard : Nat → Int32} {a_walked : Nat → Int32} {lf_huts : Int32} {lf_villages : Int32} {lf_dams : Int32} {x2 : Int32} {x3 : Int32} {post : Int32 → Prop} (k_a_heard : ∀ j, iv 0 1000 (a_heard j)) (k_a_walked : ∀ j, iv 0 1000 (a_walked j)) (k_lf_huts : iv 0 9 lf_huts) (k_lf_villages : iv 0 511 lf_villages) (k_lf_dams : iv 0 511 lf_dams) (hx2 : iv 0 8 x2) (hpost : ∀ (r : Int32), iv (-1) 1000 r → post r) : q_wp_X7_carried_9_0 a_heard a_walked lf_huts lf_villages lf_dams x2 x3 post := by
  exact s_wp_X7_carried_9_11 k_a_heard k_a_walked k_lf_huts k_lf_villages k_lf_dams hx2 (iv_w (iv_lit (l := (-1)) (h := (-1)) (by decide)) (by decide)) (iv_w (iv_lit (l := 1000) (h := 1000) (by decide)) (by decide)) (iv_w (iv_lit (l := 0) (h := 0) (by decide)) (by decide)) hpost
-- wp_X7_tops_9
set_option maxRecDepth 20000 in
theorem s_wp_X7_tops_9_33 {P4 : Int32 → Int32 → Prop} {a_heard : Nat → Int32} {lf_huts : Int32} {x2 : Int32} {x3 : Int32} {post : Int32 → Prop} (k_a_heard : ∀ j, iv 0 1000 (a_heard j)) (k_lf_huts : iv 1 9 lf_huts) (hx2 : iv 0 511 x2) (hx3 : iv 0 8 x3) (m4 : Int) (hm4 : m4 ≤ x3.toInt) (hP4 : ∀ (x2 : Int32) (x3 : Int32), m4 < x3.toInt → iv 0 511 x2 → iv 0 9 x3 → P4 x2 x3) (hpost : ∀ (r : Int32), iv 0 511 r → post r) : q_wp_X7_tops_9_33 P4 a_heard lf_huts x2 x3 post := by
  intro w1 ew1
  have hw1 := iv_eq ew1 (iv_add (l := 1) (h := 9) hx3 (iv_lit (l := 1) (h := 1) (by decide)) (by decide))
  exact hP4 _ _ (ml_up hm4 (inc_lt ew1 hx3 (by decide))) hx2 (iv_w hw1 (by decide))
set_option maxRecDepth 20000 in
theorem s_wp_X7_tops_9_4 {a_heard : Nat → Int32} {lf_huts : Int32} {x2 : Int32} {x3 : Int32} {post : Int32 → Prop} (k_a_heard : ∀ j, iv 0 1000 (a_heard j)) (k_lf_huts : iv 0 9 lf_huts) (hx2 : iv 0 511 x2) (hx3 : iv 0 9 x3) (hpost : ∀ (r : Int32), iv 0 511 r → post r) : q_wp_X7_tops_9_4 a_heard lf_huts x2 x3 post := by
  intro P hP
  have loop : ∀ (n : Nat) (x2 : Int32) (x3 : Int32), (9 - x3.toInt < (n : Int)) → (iv 0 511 x2) → (iv 0 9 x3) → P x2 x3 := by
    intro n
    induction n with
    | zero => intro x2 x3 hm hx2 hx3; exact (ms0_up hm hx3).elim
    | succ n ih =>
      intro x2 x3 hm hx2 hx3
      apply hP
      refine ⟨fun c1 => ?_, fun c1 => ?_⟩
      · skip
        exact hpost _ hx2
      · skip
        refine s_wp_X7_fromBy_9_0 k_a_heard (iv_ltb (l := 1) (h := 9) (r_nle c1) hx3 k_lf_huts (by decide)) (iv_lta (l := 0) (h := 8) (r_nle c1) hx3 k_lf_huts (by decide)) (iv_w (iv_lit (l := 999) (h := 999) (by decide)) (by decide)) (fun r2 hr2 => ?_)
        refine ⟨fun c3 => ?_, fun c3 => ?_⟩
        · skip
          exact s_wp_X7_tops_9_33 k_a_heard (iv_ltb (l := 1) (h := 9) (r_nle c1) hx3 k_lf_huts (by decide)) hx2 (iv_lta (l := 0) (h := 8) (r_nle c1) hx3 k_lf_huts (by decide)) x3.toInt (Int.le_refl _) (fun u0 u1 hq g0 g1 => ih u0 u1 (ms_up hm hq) g0 g1) hpost
        · skip
          intro w4 ew4
          have hw4 := iv_eq ew4 (iv_or 9 (l := 0) (h := 511) hx2 (iv_shl1 (l := 1) (h := 256) (iv_lit (l := 1) (h := 1) (by decide)) (iv_lta (l := 0) (h := 8) (r_nle c1) hx3 k_lf_huts (by decide)) (by decide)) (by decide))
          exact s_wp_X7_tops_9_33 k_a_heard (iv_ltb (l := 1) (h := 9) (r_nle c1) hx3 k_lf_huts (by decide)) hw4 (iv_lta (l := 0) (h := 8) (r_nle c1) hx3 k_lf_huts (by decide)) x3.toInt (Int.le_refl _) (fun u0 u1 hq g0 g1 => ih u0 u1 (ms_up hm hq) g0 g1) hpost
  exact loop _ _ _ (ms_init_up _ _) hx2 hx3
set_option maxRecDepth 20000 in
theorem s_wp_X7_tops_9_0 {a_heard : Nat → Int32} {lf_huts : Int32} {post : Int32 → Prop} (k_a_heard : ∀ j, iv 0 1000 (a_heard j)) (k_lf_huts : iv 0 9 lf_huts) (hpost : ∀ (r : Int32), iv 0 511 r → post r) : q_wp_X7_tops_9_0 a_heard lf_huts post := by
  exact s_wp_X7_tops_9_4 k_a_heard k_lf_huts (iv_w (iv_lit (l := 0) (h := 0) (by decide)) (by decide)) (iv_w (iv_lit (l := 0) (h := 0) (by decide)) (by decide)) hpost
-- wp_X7_heardElsewhere_9
set_option maxRecDepth 20000 in
theorem s_wp_X7_heardElsewhere_9_41 {P5 : Int32 → Int32 → Prop} {a_heard : Nat → Int32} {lf_huts : Int32} {x2 : Int32} {x3 : Int32} {x4 : Int32} {post : Int32 → Prop} (k_a_heard : ∀ j, iv 0 1000 (a_heard j)) (k_lf_huts : iv 1 9 lf_huts) (hx2 : iv 0 8 x2) (hx4 : iv 0 8 x4) (m5 : Int) (hm5 : m5 ≤ x4.toInt) (hP5 : ∀ (x3 : Int32) (x4 : Int32), m5 < x4.toInt → iv 0 9 x4 → P5 x3 x4) (hpost : ∀ (r : Int32), post r) : q_wp_X7_heardElsewhere_9_41 P5 a_heard lf_huts x2 x3 x4 post := by
  intro w1 ew1
  have hw1 := iv_eq ew1 (iv_add (l := 1) (h := 9) hx4 (iv_lit (l := 1) (h := 1) (by decide)) (by decide))
  exact hP5 _ _ (ml_up hm5 (inc_lt ew1 hx4 (by decide))) (iv_w hw1 (by decide))
set_option maxRecDepth 20000 in
theorem s_wp_X7_heardElsewhere_9_5 {a_heard : Nat → Int32} {lf_huts : Int32} {x2 : Int32} {x3 : Int32} {x4 : Int32} {post : Int32 → Prop} (k_a_heard : ∀ j, iv 0 1000 (a_heard j)) (k_lf_huts : iv 1 9 lf_huts) (hx2 : iv 0 8 x2) (hx4 : iv 0 9 x4) (hpost : ∀ (r : Int32), post r) : q_wp_X7_heardElsewhere_9_5 a_heard lf_huts x2 x3 x4 post := by
  intro P hP
  have loop : ∀ (n : Nat) (x3 : Int32) (x4 : Int32), (9 - x4.toInt < (n : Int)) → (iv 0 9 x4) → P x3 x4 := by
    intro n
    induction n with
    | zero => intro x3 x4 hm hx4; exact (ms0_up hm hx4).elim
    | succ n ih =>
      intro x3 x4 hm hx4
      apply hP
      refine ⟨fun c1 => ?_, fun c1 => ?_⟩
      · skip
        exact hpost _
      · skip
        refine ⟨fun c2 => ?_, fun c2 => ?_⟩
        · skip
          exact s_wp_X7_heardElsewhere_9_41 k_a_heard k_lf_huts hx2 (iv_lta (l := 0) (h := 8) (r_nle c1) hx4 k_lf_huts (by decide)) x4.toInt (Int.le_refl _) (fun u0 u1 hq g0 => ih u0 u1 (ms_up hm hq) g0) hpost
        · skip
          refine ⟨iv_in (iv_add (l := 0) (h := 80) (iv_mul (l := 0) (h := 72) hx2 (iv_lit (l := 9) (h := 9) (by decide)) (by decide)) (iv_lta (l := 0) (h := 8) (r_nle c1) hx4 k_lf_huts (by decide)) (by decide)) (by decide), ?_⟩
          refine ⟨fun c3 => ?_, fun c3 => ?_⟩
          · skip
            exact s_wp_X7_heardElsewhere_9_41 k_a_heard k_lf_huts hx2 (iv_lta (l := 0) (h := 8) (r_nle c1) hx4 k_lf_huts (by decide)) x4.toInt (Int.le_refl _) (fun u0 u1 hq g0 => ih u0 u1 (ms_up hm hq) g0) hpost
          · skip
            intro w4 ew4
            exact s_wp_X7_heardElsewhere_9_41 k_a_heard k_lf_huts hx2 (iv_lta (l := 0) (h := 8) (r_nle c1) hx4 k_lf_huts (by decide)) x4.toInt (Int.le_refl _) (fun u0 u1 hq g0 => ih u0 u1 (ms_up hm hq) g0) hpost
  exact loop _ _ _ (ms_init_up _ _) hx4
set_option maxRecDepth 20000 in
theorem s_wp_X7_heardElsewhere_9_0 {a_heard : Nat → Int32} {lf_huts : Int32} {x2 : Int32} {post : Int32 → Prop} (k_a_heard : ∀ j, iv 0 1000 (a_heard j)) (k_lf_huts : iv 1 9 lf_huts) (hx2 : iv 0 8 x2) (hpost : ∀ (r : Int32), post r) : q_wp_X7_heardElsewhere_9_0 a_heard lf_huts x2 post := by
  exact s_wp_X7_heardElsewhere_9_5 k_a_heard k_lf_huts hx2 (iv_w (iv_lit (l := 0) (h := 0) (by decide)) (by decide)) hpost
-- wp_X7_ends_9
set_option maxRecDepth 20000 in
theorem s_wp_X7_ends_9_35 {P4 : Int32 → Int32 → Prop} {a_heard : Nat → Int32} {lf_huts : Int32} {lf_dams : Int32} {x2 : Int32} {x3 : Int32} {post : Int32 → Prop} (k_a_heard : ∀ j, iv 0 1000 (a_heard j)) (k_lf_huts : iv 1 9 lf_huts) (k_lf_dams : iv 0 511 lf_dams) (hx2 : iv 0 511 x2) (hx3 : iv 0 8 x3) (m4 : Int) (hm4 : m4 ≤ x3.toInt) (hP4 : ∀ (x2 : Int32) (x3 : Int32), m4 < x3.toInt → iv 0 511 x2 → iv 0 9 x3 → P4 x2 x3) (hpost : ∀ (r : Int32), iv 0 511 r → post r) : q_wp_X7_ends_9_35 P4 a_heard lf_huts lf_dams x2 x3 post := by
  intro w1 ew1
  have hw1 := iv_eq ew1 (iv_add (l := 1) (h := 9) hx3 (iv_lit (l := 1) (h := 1) (by decide)) (by decide))
  exact hP4 _ _ (ml_up hm4 (inc_lt ew1 hx3 (by decide))) hx2 (iv_w hw1 (by decide))
set_option maxRecDepth 20000 in
theorem s_wp_X7_ends_9_4 {a_heard : Nat → Int32} {lf_huts : Int32} {lf_dams : Int32} {x2 : Int32} {x3 : Int32} {post : Int32 → Prop} (k_a_heard : ∀ j, iv 0 1000 (a_heard j)) (k_lf_huts : iv 0 9 lf_huts) (k_lf_dams : iv 0 511 lf_dams) (hx2 : iv 0 511 x2) (hx3 : iv 0 9 x3) (hpost : ∀ (r : Int32), iv 0 511 r → post r) : q_wp_X7_ends_9_4 a_heard lf_huts lf_dams x2 x3 post := by
  intro P hP
  have loop : ∀ (n : Nat) (x2 : Int32) (x3 : Int32), (9 - x3.toInt < (n : Int)) → (iv 0 511 x2) → (iv 0 9 x3) → P x2 x3 := by
    intro n
    induction n with
    | zero => intro x2 x3 hm hx2 hx3; exact (ms0_up hm hx3).elim
    | succ n ih =>
      intro x2 x3 hm hx2 hx3
      apply hP
      refine ⟨fun c1 => ?_, fun c1 => ?_⟩
      · skip
        exact hpost _ hx2
      · skip
        refine ⟨fun c2 => ?_, fun c2 => ?_⟩
        · skip
          refine ⟨fun c3 => ?_, fun c3 => ?_⟩
          · skip
            exact (iv_emp (iv_ne (l := 1) (h := 0) c3 (iv_lit (l := 0) (h := 0) (by decide)) (iv_lit (l := 0) (h := 0) (by decide)) (by decide)) (by decide)).elim
          · skip
            refine s_wp_X7_heardElsewhere_9_0 k_a_heard (iv_ltb (l := 1) (h := 9) (r_nle c1) hx3 k_lf_huts (by decide)) (iv_lta (l := 0) (h := 8) (r_nle c1) hx3 k_lf_huts (by decide)) (fun r4 => ?_)
            refine ⟨fun c5 => ?_, fun c5 => ?_⟩
            · skip
              exact s_wp_X7_ends_9_35 k_a_heard (iv_ltb (l := 1) (h := 9) (r_nle c1) hx3 k_lf_huts (by decide)) k_lf_dams hx2 (iv_lta (l := 0) (h := 8) (r_nle c1) hx3 k_lf_huts (by decide)) x3.toInt (Int.le_refl _) (fun u0 u1 hq g0 g1 => ih u0 u1 (ms_up hm hq) g0 g1) hpost
            · skip
              intro w6 ew6
              have hw6 := iv_eq ew6 (iv_or 9 (l := 0) (h := 511) hx2 (iv_shl1 (l := 1) (h := 256) (iv_lit (l := 1) (h := 1) (by decide)) (iv_lta (l := 0) (h := 8) (r_nle c1) hx3 k_lf_huts (by decide)) (by decide)) (by decide))
              exact s_wp_X7_ends_9_35 k_a_heard (iv_ltb (l := 1) (h := 9) (r_nle c1) hx3 k_lf_huts (by decide)) k_lf_dams hw6 (iv_lta (l := 0) (h := 8) (r_nle c1) hx3 k_lf_huts (by decide)) x3.toInt (Int.le_refl _) (fun u0 u1 hq g0 g1 => ih u0 u1 (ms_up hm hq) g0 g1) hpost
        · skip
          refine ⟨fun c7 => ?_, fun c7 => ?_⟩
          · skip
            exact s_wp_X7_ends_9_35 k_a_heard (iv_ltb (l := 1) (h := 9) (r_nle c1) hx3 k_lf_huts (by decide)) k_lf_dams hx2 (iv_lta (l := 0) (h := 8) (r_nle c1) hx3 k_lf_huts (by decide)) x3.toInt (Int.le_refl _) (fun u0 u1 hq g0 g1 => ih u0 u1 (ms_up hm hq) g0 g1) hpost
          · skip
            exact (iv_emp (iv_eqa (l := 1) (h := 0) c7 (iv_lit (l := 1) (h := 1) (by decide)) (iv_lit (l := 0) (h := 0) (by decide)) (by decide)) (by decide)).elim
  exact loop _ _ _ (ms_init_up _ _) hx2 hx3
set_option maxRecDepth 20000 in
theorem s_wp_X7_ends_9_0 {a_heard : Nat → Int32} {lf_huts : Int32} {lf_dams : Int32} {post : Int32 → Prop} (k_a_heard : ∀ j, iv 0 1000 (a_heard j)) (k_lf_huts : iv 0 9 lf_huts) (k_lf_dams : iv 0 511 lf_dams) (hpost : ∀ (r : Int32), iv 0 511 r → post r) : q_wp_X7_ends_9_0 a_heard lf_huts lf_dams post := by
  exact s_wp_X7_ends_9_4 k_a_heard k_lf_huts k_lf_dams (iv_w (iv_lit (l := 0) (h := 0) (by decide)) (by decide)) (iv_w (iv_lit (l := 0) (h := 0) (by decide)) (by decide)) hpost
-- wp_X7_couples_9
set_option maxRecDepth 20000 in
theorem s_wp_X7_couples_9_4 {a_heard : Nat → Int32} {lf_huts : Int32} {x2 : Int32} {x3 : Int32} {post : Int32 → Prop} (k_a_heard : ∀ j, iv 0 1000 (a_heard j)) (k_lf_huts : iv 0 9 lf_huts) (hx3 : iv 0 9 x3) (hpost : ∀ (r : Int32), post r) : q_wp_X7_couples_9_4 a_heard lf_huts x2 x3 post := by
  intro P hP
  have loop : ∀ (n : Nat) (x2 : Int32) (x3 : Int32), (9 - x3.toInt < (n : Int)) → (iv 0 9 x3) → P x2 x3 := by
    intro n
    induction n with
    | zero => intro x2 x3 hm hx3; exact (ms0_up hm hx3).elim
    | succ n ih =>
      intro x2 x3 hm hx3
      apply hP
      refine ⟨fun c1 => ?_, fun c1 => ?_⟩
      · skip
        exact hpost _
      · skip
        refine s_wp_X7_heardElsewhere_9_0 k_a_heard (iv_ltb (l := 1) (h := 9) (r_nle c1) hx3 k_lf_huts (by decide)) (iv_lta (l := 0) (h := 8) (r_nle c1) hx3 k_lf_huts (by decide)) (fun r2 => ?_)
        intro w3 ew3
        intro w4 ew4
        have hw4 := iv_eq ew4 (iv_add (l := 1) (h := 9) (iv_lta (l := 0) (h := 8) (r_nle c1) hx3 k_lf_huts (by decide)) (iv_lit (l := 1) (h := 1) (by decide)) (by decide))
        exact ih _ _ (ms_up hm (inc_lt ew4 (iv_lta (l := 0) (h := 8) (r_nle c1) hx3 k_lf_huts (by decide)) (by decide))) (iv_w hw4 (by decide))
  exact loop _ _ _ (ms_init_up _ _) hx3
set_option maxRecDepth 20000 in
theorem s_wp_X7_couples_9_0 {a_heard : Nat → Int32} {lf_huts : Int32} {post : Int32 → Prop} (k_a_heard : ∀ j, iv 0 1000 (a_heard j)) (k_lf_huts : iv 0 9 lf_huts) (hpost : ∀ (r : Int32), post r) : q_wp_X7_couples_9_0 a_heard lf_huts post := by
  exact s_wp_X7_couples_9_4 k_a_heard k_lf_huts (iv_w (iv_lit (l := 0) (h := 0) (by decide)) (by decide)) hpost
-- wp_X7_fewestDams_9
set_option maxRecDepth 20000 in
theorem s_wp_X7_fewestDams_9_85 {P28 : Int32 → Int32 → Int32 → Prop} {a_next : Nat → Int32} {lf_huts : Int32} {lf_dams : Int32} {x2 : Int32} {x3 : Int32} {x4 : Int32} {x5 : Int32} {x6 : Int32} {x7 : Int32} {post : Int32 → Prop} (k_a_next : ∀ j, iv 0 511 (a_next j)) (k_lf_huts : iv 1 9 lf_huts) (k_lf_dams : iv 0 511 lf_dams) (hx2 : iv 0 8 x2) (hx3 : iv 0 8 x3) (hx4 : iv 0 511 x4) (hx5 : iv (-1) 511 x5) (hx6 : iv 0 63 x6) (hx7 : iv 0 511 x7) (m28 : Int) (hm28 : m28 ≤ x7.toInt) (hP28 : ∀ (x5 : Int32) (x6 : Int32) (x7 : Int32), m28 < x7.toInt → iv (-1) 511 x5 → iv 0 63 x6 → iv 0 512 x7 → P28 x5 x6 x7) (hpost : ∀ (r : Int32), iv (-1) 511 r → post r) : q_wp_X7_fewestDams_9_85 P28 a_next lf_huts lf_dams x2 x3 x4 x5 x6 x7 post := by
  intro w1 ew1
  have hw1 := iv_eq ew1 (iv_add (l := 1) (h := 512) hx7 (iv_lit (l := 1) (h := 1) (by decide)) (by decide))
  exact hP28 _ _ _ (ml_up hm28 (inc_lt ew1 hx7 (by decide))) hx5 hx6 (iv_w hw1 (by decide))
set_option maxRecDepth 20000 in
theorem s_wp_X7_fewestDams_9_28 {a_next : Nat → Int32} {lf_huts : Int32} {lf_dams : Int32} {x2 : Int32} {x3 : Int32} {x4 : Int32} {x5 : Int32} {x6 : Int32} {x7 : Int32} {post : Int32 → Prop} (k_a_next : ∀ j, iv 0 511 (a_next j)) (k_lf_huts : iv 1 9 lf_huts) (k_lf_dams : iv 0 511 lf_dams) (hx2 : iv 0 8 x2) (hx3 : iv 0 8 x3) (hx4 : iv 0 511 x4) (hx5 : iv (-1) 511 x5) (hx6 : iv 0 63 x6) (hx7 : iv 0 512 x7) (hpost : ∀ (r : Int32), iv (-1) 511 r → post r) : q_wp_X7_fewestDams_9_28 a_next lf_huts lf_dams x2 x3 x4 x5 x6 x7 post := by
  intro P hP
  have loop : ∀ (n : Nat) (x5 : Int32) (x6 : Int32) (x7 : Int32), (512 - x7.toInt < (n : Int)) → (iv (-1) 511 x5) → (iv 0 63 x6) → (iv 0 512 x7) → P x5 x6 x7 := by
    intro n
    induction n with
    | zero => intro x5 x6 x7 hm hx5 hx6 hx7; exact (ms0_up hm hx7).elim
    | succ n ih =>
      intro x5 x6 x7 hm hx5 hx6 hx7
      apply hP
      refine ⟨fun c1 => ?_, fun c1 => ?_⟩
      · skip
        exact hpost _ hx5
      · skip
        refine ⟨fun c2 => ?_, fun c2 => ?_⟩
        · skip
          exact s_wp_X7_fewestDams_9_85 k_a_next k_lf_huts k_lf_dams hx2 hx3 hx4 hx5 hx6 (iv_lta (l := 0) (h := 511) (r_nle c1) hx7 (iv_shl1 (l := 1) (h := 512) (iv_lit (l := 1) (h := 1) (by decide)) k_lf_huts (by decide)) (by decide)) x7.toInt (Int.le_refl _) (fun u0 u1 u2 hq g0 g1 g2 => ih u0 u1 u2 (ms_up hm hq) g0 g1 g2) hpost
        · skip
          refine s_z_J6_bitCount_0f7a4_0 (iv_w (iv_lta (l := 0) (h := 511) (r_nle c1) hx7 (iv_shl1 (l := 1) (h := 512) (iv_lit (l := 1) (h := 1) (by decide)) k_lf_huts (by decide)) (by decide)) (by decide)) (fun r3 hr3 => ?_)
          refine ⟨fun c4 => ?_, fun c4 => ?_⟩
          · skip
            exact s_wp_X7_fewestDams_9_85 k_a_next k_lf_huts k_lf_dams hx2 hx3 hx4 hx5 hx6 (iv_lta (l := 0) (h := 511) (r_nle c1) hx7 (iv_shl1 (l := 1) (h := 512) (iv_lit (l := 1) (h := 1) (by decide)) k_lf_huts (by decide)) (by decide)) x7.toInt (Int.le_refl _) (fun u0 u1 u2 hq g0 g1 g2 => ih u0 u1 u2 (ms_up hm hq) g0 g1 g2) hpost
          · skip
            refine s_wp_X7_reach_5_0 k_a_next hx2 (iv_lta (l := 0) (h := 511) (r_nle c1) hx7 (iv_shl1 (l := 1) (h := 512) (iv_lit (l := 1) (h := 1) (by decide)) k_lf_huts (by decide)) (by decide)) (fun r5 hr5 => ?_)
            refine ⟨fun c6 => ?_, fun c6 => ?_⟩
            · skip
              refine ⟨fun c7 => ?_, fun c7 => ?_⟩
              · skip
                exact (iv_emp (iv_ne (l := 1) (h := 0) c7 (iv_lit (l := 0) (h := 0) (by decide)) (iv_lit (l := 0) (h := 0) (by decide)) (by decide)) (by decide)).elim
              · skip
                refine s_z_J6_bitCount_0f7a4_0 (iv_w (iv_lta (l := 0) (h := 511) (r_nle c1) hx7 (iv_shl1 (l := 1) (h := 512) (iv_lit (l := 1) (h := 1) (by decide)) k_lf_huts (by decide)) (by decide)) (by decide)) (fun r8 hr8 => ?_)
                exact s_wp_X7_fewestDams_9_85 k_a_next k_lf_huts k_lf_dams hx2 hx3 hx4 (iv_w (iv_lta (l := 0) (h := 511) (r_nle c1) hx7 (iv_shl1 (l := 1) (h := 512) (iv_lit (l := 1) (h := 1) (by decide)) k_lf_huts (by decide)) (by decide)) (by decide)) hr8 (iv_lta (l := 0) (h := 511) (r_nle c1) hx7 (iv_shl1 (l := 1) (h := 512) (iv_lit (l := 1) (h := 1) (by decide)) k_lf_huts (by decide)) (by decide)) x7.toInt (Int.le_refl _) (fun u0 u1 u2 hq g0 g1 g2 => ih u0 u1 u2 (ms_up hm hq) g0 g1 g2) hpost
            · skip
              refine ⟨fun c9 => ?_, fun c9 => ?_⟩
              · skip
                exact s_wp_X7_fewestDams_9_85 k_a_next k_lf_huts k_lf_dams hx2 hx3 hx4 hx5 (iv_w (iv_ltb (l := 1) (h := 63) (r_nle c4) hr3 hx6 (by decide)) (by decide)) (iv_lta (l := 0) (h := 511) (r_nle c1) hx7 (iv_shl1 (l := 1) (h := 512) (iv_lit (l := 1) (h := 1) (by decide)) k_lf_huts (by decide)) (by decide)) x7.toInt (Int.le_refl _) (fun u0 u1 u2 hq g0 g1 g2 => ih u0 u1 u2 (ms_up hm hq) g0 g1 g2) hpost
              · skip
                exact (iv_emp (iv_eqa (l := 1) (h := 0) c9 (iv_lit (l := 1) (h := 1) (by decide)) (iv_lit (l := 0) (h := 0) (by decide)) (by decide)) (by decide)).elim
  exact loop _ _ _ _ (ms_init_up _ _) hx5 hx6 hx7
set_option maxRecDepth 20000 in
theorem s_wp_X7_fewestDams_9_0 {a_next : Nat → Int32} {lf_huts : Int32} {lf_dams : Int32} {x2 : Int32} {x3 : Int32} {post : Int32 → Prop} (k_a_next : ∀ j, iv 0 511 (a_next j)) (k_lf_huts : iv 1 9 lf_huts) (k_lf_dams : iv 0 511 lf_dams) (hx2 : iv 0 8 x2) (hx3 : iv 0 8 x3) (hpost : ∀ (r : Int32), iv (-1) 511 r → post r) : q_wp_X7_fewestDams_9_0 a_next lf_huts lf_dams x2 x3 post := by
  intro w1 ew1
  have hw1 := iv_eq ew1 (iv_or 9 (l := 0) (h := 511) (iv_or 9 (l := 0) (h := 511) k_lf_dams (iv_shl1 (l := 1) (h := 256) (iv_lit (l := 1) (h := 1) (by decide)) hx2 (by decide)) (by decide)) (iv_shl1 (l := 1) (h := 256) (iv_lit (l := 1) (h := 1) (by decide)) hx3 (by decide)) (by decide))
  intro w2 ew2
  have hw2 := iv_eq ew2 (iv_add (l := 2) (h := 10) k_lf_huts (iv_lit (l := 1) (h := 1) (by decide)) (by decide))
  exact s_wp_X7_fewestDams_9_28 k_a_next k_lf_huts k_lf_dams hx2 hx3 hw1 (iv_w (iv_lit (l := (-1)) (h := (-1)) (by decide)) (by decide)) (iv_w hw2 (by decide)) (iv_w (iv_lit (l := 0) (h := 0) (by decide)) (by decide)) hpost
-- wp_X7_together_9_2
set_option maxRecDepth 20000 in
theorem s_wp_X7_together_9_2_59 {P11 : Int32 → Int32 → Int32 → Prop} {a_walked : Nat → Int32} {lf_huts : Int32} {x3 : Int32} {x4 : Int32} {x5 : Int32} {x6 : Int32} {x7 : Int32} {x8 : Int32} {post : Int32 → Prop} (k_a_walked : ∀ j, iv 0 1000 (a_walked j)) (k_lf_huts : iv 1 9 lf_huts) (hx3 : iv 0 8 x3) (hx4 : iv 0 8 x4) (hx6 : iv (-1) 8 x6) (hx7 : iv 0 1000 x7) (hx8 : iv 0 8 x8) (m11 : Int) (hm11 : m11 ≤ x8.toInt) (hP11 : ∀ (x6 : Int32) (x7 : Int32) (x8 : Int32), m11 < x8.toInt → iv (-1) 8 x6 → iv 0 1000 x7 → iv 0 9 x8 → P11 x6 x7 x8) (hpost : ∀ (r : Int32), iv (-1) 1000 r → post r) : q_wp_X7_together_9_2_59 P11 a_walked lf_huts x3 x4 x5 x6 x7 x8 post := by
  intro w1 ew1
  have hw1 := iv_eq ew1 (iv_add (l := 1) (h := 9) hx8 (iv_lit (l := 1) (h := 1) (by decide)) (by decide))
  exact hP11 _ _ _ (ml_up hm11 (inc_lt ew1 hx8 (by decide))) hx6 hx7 (iv_w hw1 (by decide))
set_option maxRecDepth 20000 in
theorem s_wp_X7_together_9_2_11 {a_walked : Nat → Int32} {lf_huts : Int32} {x3 : Int32} {x4 : Int32} {x5 : Int32} {x6 : Int32} {x7 : Int32} {x8 : Int32} {post : Int32 → Prop} (k_a_walked : ∀ j, iv 0 1000 (a_walked j)) (k_lf_huts : iv 0 9 lf_huts) (hx3 : iv 0 8 x3) (hx4 : iv 0 8 x4) (hx6 : iv (-1) 8 x6) (hx7 : iv 0 1000 x7) (hx8 : iv 0 9 x8) (hpost : ∀ (r : Int32), iv (-1) 1000 r → post r) : q_wp_X7_together_9_2_11 a_walked lf_huts x3 x4 x5 x6 x7 x8 post := by
  intro P hP
  have loop : ∀ (n : Nat) (x6 : Int32) (x7 : Int32) (x8 : Int32), (9 - x8.toInt < (n : Int)) → (iv (-1) 8 x6) → (iv 0 1000 x7) → (iv 0 9 x8) → P x6 x7 x8 := by
    intro n
    induction n with
    | zero => intro x6 x7 x8 hm hx6 hx7 hx8; exact (ms0_up hm hx8).elim
    | succ n ih =>
      intro x6 x7 x8 hm hx6 hx7 hx8
      apply hP
      refine ⟨fun c1 => ?_, fun c1 => ?_⟩
      · skip
        refine ⟨fun c2 => ?_, fun c2 => ?_⟩
        · skip
          exact hpost _ (iv_w (iv_eqa (l := (-1)) (h := (-1)) c2 hx6 (iv_lit (l := (-1)) (h := (-1)) (by decide)) (by decide)) (by decide))
        · skip
          refine ⟨fun c3 => ?_, fun c3 => ?_⟩
          · skip
            exact hpost _ (iv_w (iv_ne (l := 0) (h := 8) c2 hx6 (iv_lit (l := (-1)) (h := (-1)) (by decide)) (by decide)) (by decide))
          · skip
            exact hpost _ (iv_w hx7 (by decide))
      · skip
        refine ⟨iv_in (iv_add (l := 0) (h := 80) (iv_mul (l := 0) (h := 72) hx3 (iv_lit (l := 9) (h := 9) (by decide)) (by decide)) (iv_lta (l := 0) (h := 8) (r_nle c1) hx8 k_lf_huts (by decide)) (by decide)) (by decide), ?_⟩
        refine ⟨iv_in (iv_add (l := 0) (h := 80) (iv_mul (l := 0) (h := 72) hx4 (iv_lit (l := 9) (h := 9) (by decide)) (by decide)) (iv_lta (l := 0) (h := 8) (r_nle c1) hx8 k_lf_huts (by decide)) (by decide)) (by decide), ?_⟩
        intro w4 ew4
        have hw4 := iv_eq ew4 (iv_max (l := 0) (h := 1000) (k_a_walked _) (k_a_walked _) (by decide))
        refine ⟨fun c5 => ?_, fun c5 => ?_⟩
        · skip
          exact s_wp_X7_together_9_2_59 k_a_walked (iv_ltb (l := 1) (h := 9) (r_nle c1) hx8 k_lf_huts (by decide)) hx3 hx4 hx6 hx7 (iv_lta (l := 0) (h := 8) (r_nle c1) hx8 k_lf_huts (by decide)) x8.toInt (Int.le_refl _) (fun u0 u1 u2 hq g0 g1 g2 => ih u0 u1 u2 (ms_up hm hq) g0 g1 g2) hpost
        · skip
          exact s_wp_X7_together_9_2_59 k_a_walked (iv_ltb (l := 1) (h := 9) (r_nle c1) hx8 k_lf_huts (by decide)) hx3 hx4 (iv_w (iv_lta (l := 0) (h := 8) (r_nle c1) hx8 k_lf_huts (by decide)) (by decide)) (iv_w (iv_lta (l := 0) (h := 999) (r_nle c5) hw4 hx7 (by decide)) (by decide)) (iv_lta (l := 0) (h := 8) (r_nle c1) hx8 k_lf_huts (by decide)) x8.toInt (Int.le_refl _) (fun u0 u1 u2 hq g0 g1 g2 => ih u0 u1 u2 (ms_up hm hq) g0 g1 g2) hpost
  exact loop _ _ _ _ (ms_init_up _ _) hx6 hx7 hx8
set_option maxRecDepth 20000 in
theorem s_wp_X7_together_9_2_0 {a_walked : Nat → Int32} {lf_huts : Int32} {x3 : Int32} {x4 : Int32} {x5 : Int32} {post : Int32 → Prop} (k_a_walked : ∀ j, iv 0 1000 (a_walked j)) (k_lf_huts : iv 0 9 lf_huts) (hx3 : iv 0 8 x3) (hx4 : iv 0 8 x4) (hpost : ∀ (r : Int32), iv (-1) 1000 r → post r) : q_wp_X7_together_9_2_0 a_walked lf_huts x3 x4 x5 post := by
  exact s_wp_X7_together_9_2_11 k_a_walked k_lf_huts hx3 hx4 (iv_w (iv_lit (l := (-1)) (h := (-1)) (by decide)) (by decide)) (iv_w (iv_lit (l := 1000) (h := 1000) (by decide)) (by decide)) (iv_w (iv_lit (l := 0) (h := 0) (by decide)) (by decide)) hpost
-- wp_X7_together_9_1
set_option maxRecDepth 20000 in
theorem s_wp_X7_together_9_1_59 {P11 : Int32 → Int32 → Int32 → Prop} {a_heard : Nat → Int32} {lf_huts : Int32} {x3 : Int32} {x4 : Int32} {x5 : Int32} {x6 : Int32} {x7 : Int32} {x8 : Int32} {post : Int32 → Prop} (k_a_heard : ∀ j, iv 0 1000 (a_heard j)) (k_lf_huts : iv 1 9 lf_huts) (hx3 : iv 0 8 x3) (hx4 : iv 0 8 x4) (hx6 : iv (-1) 8 x6) (hx7 : iv 0 1000 x7) (hx8 : iv 0 8 x8) (m11 : Int) (hm11 : m11 ≤ x8.toInt) (hP11 : ∀ (x6 : Int32) (x7 : Int32) (x8 : Int32), m11 < x8.toInt → iv (-1) 8 x6 → iv 0 1000 x7 → iv 0 9 x8 → P11 x6 x7 x8) (hpost : ∀ (r : Int32), iv (-1) 1000 r → post r) : q_wp_X7_together_9_1_59 P11 a_heard lf_huts x3 x4 x5 x6 x7 x8 post := by
  intro w1 ew1
  have hw1 := iv_eq ew1 (iv_add (l := 1) (h := 9) hx8 (iv_lit (l := 1) (h := 1) (by decide)) (by decide))
  exact hP11 _ _ _ (ml_up hm11 (inc_lt ew1 hx8 (by decide))) hx6 hx7 (iv_w hw1 (by decide))
set_option maxRecDepth 20000 in
theorem s_wp_X7_together_9_1_11 {a_heard : Nat → Int32} {lf_huts : Int32} {x3 : Int32} {x4 : Int32} {x5 : Int32} {x6 : Int32} {x7 : Int32} {x8 : Int32} {post : Int32 → Prop} (k_a_heard : ∀ j, iv 0 1000 (a_heard j)) (k_lf_huts : iv 1 9 lf_huts) (hx3 : iv 0 8 x3) (hx4 : iv 0 8 x4) (hx6 : iv (-1) 8 x6) (hx7 : iv 0 1000 x7) (hx8 : iv 0 9 x8) (hpost : ∀ (r : Int32), iv (-1) 1000 r → post r) : q_wp_X7_together_9_1_11 a_heard lf_huts x3 x4 x5 x6 x7 x8 post := by
  intro P hP
  have loop : ∀ (n : Nat) (x6 : Int32) (x7 : Int32) (x8 : Int32), (9 - x8.toInt < (n : Int)) → (iv (-1) 8 x6) → (iv 0 1000 x7) → (iv 0 9 x8) → P x6 x7 x8 := by
    intro n
    induction n with
    | zero => intro x6 x7 x8 hm hx6 hx7 hx8; exact (ms0_up hm hx8).elim
    | succ n ih =>
      intro x6 x7 x8 hm hx6 hx7 hx8
      apply hP
      refine ⟨fun c1 => ?_, fun c1 => ?_⟩
      · skip
        refine ⟨fun c2 => ?_, fun c2 => ?_⟩
        · skip
          exact hpost _ (iv_w (iv_eqa (l := (-1)) (h := (-1)) c2 hx6 (iv_lit (l := (-1)) (h := (-1)) (by decide)) (by decide)) (by decide))
        · skip
          refine ⟨fun c3 => ?_, fun c3 => ?_⟩
          · skip
            exact hpost _ (iv_w (iv_ne (l := 0) (h := 8) c2 hx6 (iv_lit (l := (-1)) (h := (-1)) (by decide)) (by decide)) (by decide))
          · skip
            exact hpost _ (iv_w hx7 (by decide))
      · skip
        refine ⟨iv_in (iv_add (l := 0) (h := 80) (iv_mul (l := 0) (h := 72) hx3 (iv_lit (l := 9) (h := 9) (by decide)) (by decide)) (iv_lta (l := 0) (h := 8) (r_nle c1) hx8 k_lf_huts (by decide)) (by decide)) (by decide), ?_⟩
        refine ⟨iv_in (iv_add (l := 0) (h := 80) (iv_mul (l := 0) (h := 72) hx4 (iv_lit (l := 9) (h := 9) (by decide)) (by decide)) (iv_lta (l := 0) (h := 8) (r_nle c1) hx8 k_lf_huts (by decide)) (by decide)) (by decide), ?_⟩
        intro w4 ew4
        have hw4 := iv_eq ew4 (iv_max (l := 0) (h := 1000) (k_a_heard _) (k_a_heard _) (by decide))
        refine ⟨fun c5 => ?_, fun c5 => ?_⟩
        · skip
          exact s_wp_X7_together_9_1_59 k_a_heard k_lf_huts hx3 hx4 hx6 hx7 (iv_lta (l := 0) (h := 8) (r_nle c1) hx8 k_lf_huts (by decide)) x8.toInt (Int.le_refl _) (fun u0 u1 u2 hq g0 g1 g2 => ih u0 u1 u2 (ms_up hm hq) g0 g1 g2) hpost
        · skip
          exact s_wp_X7_together_9_1_59 k_a_heard k_lf_huts hx3 hx4 (iv_w (iv_lta (l := 0) (h := 8) (r_nle c1) hx8 k_lf_huts (by decide)) (by decide)) (iv_w (iv_lta (l := 0) (h := 999) (r_nle c5) hw4 hx7 (by decide)) (by decide)) (iv_lta (l := 0) (h := 8) (r_nle c1) hx8 k_lf_huts (by decide)) x8.toInt (Int.le_refl _) (fun u0 u1 u2 hq g0 g1 g2 => ih u0 u1 u2 (ms_up hm hq) g0 g1 g2) hpost
  exact loop _ _ _ _ (ms_init_up _ _) hx6 hx7 hx8
set_option maxRecDepth 20000 in
theorem s_wp_X7_together_9_1_0 {a_heard : Nat → Int32} {lf_huts : Int32} {x3 : Int32} {x4 : Int32} {x5 : Int32} {post : Int32 → Prop} (k_a_heard : ∀ j, iv 0 1000 (a_heard j)) (k_lf_huts : iv 1 9 lf_huts) (hx3 : iv 0 8 x3) (hx4 : iv 0 8 x4) (hpost : ∀ (r : Int32), iv (-1) 1000 r → post r) : q_wp_X7_together_9_1_0 a_heard lf_huts x3 x4 x5 post := by
  exact s_wp_X7_together_9_1_11 k_a_heard k_lf_huts hx3 hx4 (iv_w (iv_lit (l := (-1)) (h := (-1)) (by decide)) (by decide)) (iv_w (iv_lit (l := 1000) (h := 1000) (by decide)) (by decide)) (iv_w (iv_lit (l := 0) (h := 0) (by decide)) (by decide)) hpost
end
