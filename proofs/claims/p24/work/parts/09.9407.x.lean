section
-- wr_J7_fill_53178_3
set_option maxRecDepth 20000 in
theorem s_wr_J7_fill_53178_3_5 {la_ladders : Nat → Int32} {x1 : Int32} {x2 : Int32} {x3 : Int32} {post : (Nat → Int32) → Prop} (k_la_ladders : ∀ j, iv 0 9 (la_ladders j)) (hx1 : iv 0 0 x1) (hx2 : iv 0 9 x2) (hx3 : iv 9 9 x3) (hpost : ∀ (la_ladders : Nat → Int32), (∀ j, iv 0 9 (la_ladders j)) → post la_ladders) : q_wr_J7_fill_53178_3_5 la_ladders x1 x2 x3 post := by
  intro P hP
  have loop : ∀ (n : Nat) (x2 : Int32) (la_ladders : Nat → Int32), (9 - x2.toInt < (n : Int)) → (iv 0 9 x2) → (∀ j, iv 0 9 (la_ladders j)) → P x2 la_ladders := by
    intro n
    induction n with
    | zero => intro x2 la_ladders hm hx2 k_la_ladders; exact (ms0_up hm hx2).elim
    | succ n ih =>
      intro x2 la_ladders hm hx2 k_la_ladders
      apply hP
      refine ⟨fun c1 => ?_, fun c1 => ?_⟩
      · skip
        exact hpost _ k_la_ladders
      · skip
        refine ⟨iv_in (iv_lta (l := 0) (h := 8) (r_nle c1) hx2 hx3 (by decide)) (by decide), ?_⟩
        intro a2 ea2
        have k_a2 := iv_upd ea2 k_la_ladders (iv_w hx1 (by decide))
        intro w3 ew3
        have hw3 := iv_eq ew3 (iv_add (l := 1) (h := 9) (iv_lta (l := 0) (h := 8) (r_nle c1) hx2 hx3 (by decide)) (iv_lit (l := 1) (h := 1) (by decide)) (by decide))
        exact ih _ _ (ms_up hm (inc_lt ew3 (iv_lta (l := 0) (h := 8) (r_nle c1) hx2 hx3 (by decide)) (by decide))) (iv_w hw3 (by decide)) k_a2
  exact loop _ _ _ (ms_init_up _ _) hx2 k_la_ladders
set_option maxRecDepth 20000 in
theorem s_wr_J7_fill_53178_3_0 {la_ladders : Nat → Int32} {x1 : Int32} {post : (Nat → Int32) → Prop} (k_la_ladders : ∀ j, iv 0 9 (la_ladders j)) (hx1 : iv 0 0 x1) (hpost : ∀ (la_ladders : Nat → Int32), (∀ j, iv 0 9 (la_ladders j)) → post la_ladders) : q_wr_J7_fill_53178_3_0 la_ladders x1 post := by
  exact s_wr_J7_fill_53178_3_5 k_la_ladders hx1 (iv_w (iv_lit (l := 0) (h := 0) (by decide)) (by decide)) (iv_lit (l := 9) (h := 9) (by decide)) hpost
-- wr_J7_fill_53178_4
set_option maxRecDepth 20000 in
theorem s_wr_J7_fill_53178_4_5 {la_minutes : Nat → Int32} {x1 : Int32} {x2 : Int32} {x3 : Int32} {post : (Nat → Int32) → Prop} (k_la_minutes : ∀ j, iv 0 9 (la_minutes j)) (hx1 : iv 0 0 x1) (hx2 : iv 0 81 x2) (hx3 : iv 81 81 x3) (hpost : ∀ (la_minutes : Nat → Int32), (∀ j, iv 0 9 (la_minutes j)) → post la_minutes) : q_wr_J7_fill_53178_4_5 la_minutes x1 x2 x3 post := by
  intro P hP
  have loop : ∀ (n : Nat) (x2 : Int32) (la_minutes : Nat → Int32), (81 - x2.toInt < (n : Int)) → (iv 0 81 x2) → (∀ j, iv 0 9 (la_minutes j)) → P x2 la_minutes := by
    intro n
    induction n with
    | zero => intro x2 la_minutes hm hx2 k_la_minutes; exact (ms0_up hm hx2).elim
    | succ n ih =>
      intro x2 la_minutes hm hx2 k_la_minutes
      apply hP
      refine ⟨fun c1 => ?_, fun c1 => ?_⟩
      · skip
        exact hpost _ k_la_minutes
      · skip
        refine ⟨iv_in (iv_lta (l := 0) (h := 80) (r_nle c1) hx2 hx3 (by decide)) (by decide), ?_⟩
        intro a2 ea2
        have k_a2 := iv_upd ea2 k_la_minutes (iv_w hx1 (by decide))
        intro w3 ew3
        have hw3 := iv_eq ew3 (iv_add (l := 1) (h := 81) (iv_lta (l := 0) (h := 80) (r_nle c1) hx2 hx3 (by decide)) (iv_lit (l := 1) (h := 1) (by decide)) (by decide))
        exact ih _ _ (ms_up hm (inc_lt ew3 (iv_lta (l := 0) (h := 80) (r_nle c1) hx2 hx3 (by decide)) (by decide))) (iv_w hw3 (by decide)) k_a2
  exact loop _ _ _ (ms_init_up _ _) hx2 k_la_minutes
set_option maxRecDepth 20000 in
theorem s_wr_J7_fill_53178_4_0 {la_minutes : Nat → Int32} {x1 : Int32} {post : (Nat → Int32) → Prop} (k_la_minutes : ∀ j, iv 0 9 (la_minutes j)) (hx1 : iv 0 0 x1) (hpost : ∀ (la_minutes : Nat → Int32), (∀ j, iv 0 9 (la_minutes j)) → post la_minutes) : q_wr_J7_fill_53178_4_0 la_minutes x1 post := by
  exact s_wr_J7_fill_53178_4_5 k_la_minutes hx1 (iv_w (iv_lit (l := 0) (h := 0) (by decide)) (by decide)) (iv_lit (l := 81) (h := 81) (by decide)) hpost
-- wr_J7_fill_53178_9
set_option maxRecDepth 20000 in
theorem s_wr_J7_fill_53178_9_5 {la_known : Nat → Int32} {x1 : Int32} {x2 : Int32} {x3 : Int32} {post : (Nat → Int32) → Prop} (k_la_known : ∀ j, iv 0 31 (la_known j)) (hx1 : iv 0 0 x1) (hx2 : iv 0 6 x2) (hx3 : iv 6 6 x3) (hpost : ∀ (la_known : Nat → Int32), (∀ j, iv 0 31 (la_known j)) → post la_known) : q_wr_J7_fill_53178_9_5 la_known x1 x2 x3 post := by
  intro P hP
  have loop : ∀ (n : Nat) (x2 : Int32) (la_known : Nat → Int32), (6 - x2.toInt < (n : Int)) → (iv 0 6 x2) → (∀ j, iv 0 31 (la_known j)) → P x2 la_known := by
    intro n
    induction n with
    | zero => intro x2 la_known hm hx2 k_la_known; exact (ms0_up hm hx2).elim
    | succ n ih =>
      intro x2 la_known hm hx2 k_la_known
      apply hP
      refine ⟨fun c1 => ?_, fun c1 => ?_⟩
      · skip
        exact hpost _ k_la_known
      · skip
        refine ⟨iv_in (iv_lta (l := 0) (h := 5) (r_nle c1) hx2 hx3 (by decide)) (by decide), ?_⟩
        intro a2 ea2
        have k_a2 := iv_upd ea2 k_la_known (iv_w hx1 (by decide))
        intro w3 ew3
        have hw3 := iv_eq ew3 (iv_add (l := 1) (h := 6) (iv_lta (l := 0) (h := 5) (r_nle c1) hx2 hx3 (by decide)) (iv_lit (l := 1) (h := 1) (by decide)) (by decide))
        exact ih _ _ (ms_up hm (inc_lt ew3 (iv_lta (l := 0) (h := 5) (r_nle c1) hx2 hx3 (by decide)) (by decide))) (iv_w hw3 (by decide)) k_a2
  exact loop _ _ _ (ms_init_up _ _) hx2 k_la_known
set_option maxRecDepth 20000 in
theorem s_wr_J7_fill_53178_9_0 {la_known : Nat → Int32} {x1 : Int32} {post : (Nat → Int32) → Prop} (k_la_known : ∀ j, iv 0 31 (la_known j)) (hx1 : iv 0 0 x1) (hpost : ∀ (la_known : Nat → Int32), (∀ j, iv 0 31 (la_known j)) → post la_known) : q_wr_J7_fill_53178_9_0 la_known x1 post := by
  exact s_wr_J7_fill_53178_9_5 k_la_known hx1 (iv_w (iv_lit (l := 0) (h := 0) (by decide)) (by decide)) (iv_lit (l := 6) (h := 6) (by decide)) hpost
-- wr_X2_clear
set_option maxRecDepth 20000 in
theorem s_wr_X2_clear_0 {lf_huts : Int32} {lf_singers : Int32} {lf_villages : Int32} {lf_dams : Int32} {lf_echoes : Int32} {lf_deep : Int32} {lf_slide : Int32} {la_ladders : Nat → Int32} {la_minutes : Nat → Int32} {la_known : Nat → Int32} {post : (Int32) → (Int32) → (Int32) → (Int32) → (Int32) → (Int32) → (Int32) → (Nat → Int32) → (Nat → Int32) → (Nat → Int32) → Prop} (k_lf_huts : iv 0 9 lf_huts) (k_lf_singers : iv 0 6 lf_singers) (k_lf_villages : iv 0 511 lf_villages) (k_lf_dams : iv 0 511 lf_dams) (k_lf_echoes : iv 0 4 lf_echoes) (k_lf_deep : iv 1 9 lf_deep) (k_lf_slide : iv 0 10 lf_slide) (k_la_ladders : ∀ j, iv 0 9 (la_ladders j)) (k_la_minutes : ∀ j, iv 0 9 (la_minutes j)) (k_la_known : ∀ j, iv 0 31 (la_known j)) (hpost : ∀ (lf_huts : Int32) (lf_singers : Int32) (lf_villages : Int32) (lf_dams : Int32) (lf_echoes : Int32) (lf_deep : Int32) (lf_slide : Int32) (la_ladders : Nat → Int32) (la_minutes : Nat → Int32) (la_known : Nat → Int32), (iv 0 0 lf_huts) → (iv 0 0 lf_singers) → (iv 0 0 lf_villages) → (iv 0 0 lf_dams) → (iv 0 0 lf_echoes) → (iv 2 2 lf_deep) → (iv 5 5 lf_slide) → (∀ j, iv 0 9 (la_ladders j)) → (∀ j, iv 0 9 (la_minutes j)) → (∀ j, iv 0 31 (la_known j)) → post lf_huts lf_singers lf_villages lf_dams lf_echoes lf_deep lf_slide la_ladders la_minutes la_known) : q_wr_X2_clear_0 lf_huts lf_singers lf_villages lf_dams lf_echoes lf_deep lf_slide la_ladders la_minutes la_known post := by
  refine s_wr_J7_fill_53178_3_0 k_la_ladders (iv_lit (l := 0) (h := 0) (by decide)) (fun o1 k_o1 => ?_)
  refine s_wr_J7_fill_53178_4_0 k_la_minutes (iv_lit (l := 0) (h := 0) (by decide)) (fun o2 k_o2 => ?_)
  refine s_wr_J7_fill_53178_9_0 k_la_known (iv_lit (l := 0) (h := 0) (by decide)) (fun o3 k_o3 => ?_)
  exact hpost _ _ _ _ _ _ _ _ _ _ (iv_lit (l := 0) (h := 0) (by decide)) (iv_lit (l := 0) (h := 0) (by decide)) (iv_lit (l := 0) (h := 0) (by decide)) (iv_lit (l := 0) (h := 0) (by decide)) (iv_lit (l := 0) (h := 0) (by decide)) (iv_lit (l := 2) (h := 2) (by decide)) (iv_lit (l := 5) (h := 5) (by decide)) k_o1 k_o2 k_o3
-- wr_X4_clearDraft
set_option maxRecDepth 20000 in
theorem s_wr_X4_clearDraft_0 {lf_huts : Int32} {lf_singers : Int32} {lf_villages : Int32} {lf_dams : Int32} {lf_echoes : Int32} {lf_deep : Int32} {lf_slide : Int32} {la_ladders : Nat → Int32} {la_minutes : Nat → Int32} {la_known : Nat → Int32} {vf_deeds : Int32} {sf_facts : Int32} {cf_voices : Int32} {cf_step : Int32} {f_hutsToldOf : Int32} {f_singersToldOf : Int32} {x1 : Int32} {post : (Int32) → (Int32) → (Int32) → (Int32) → (Int32) → (Int32) → (Int32) → (Nat → Int32) → (Nat → Int32) → (Nat → Int32) → (Int32) → (Int32) → (Int32) → (Int32) → (Int32) → (Int32) → Prop} (k_lf_huts : iv 0 9 lf_huts) (k_lf_singers : iv 0 6 lf_singers) (k_lf_villages : iv 0 511 lf_villages) (k_lf_dams : iv 0 511 lf_dams) (k_lf_echoes : iv 0 4 lf_echoes) (k_lf_deep : iv 1 9 lf_deep) (k_lf_slide : iv 0 10 lf_slide) (k_la_ladders : ∀ j, iv 0 9 (la_ladders j)) (k_la_minutes : ∀ j, iv 0 9 (la_minutes j)) (k_la_known : ∀ j, iv 0 31 (la_known j)) (k_vf_deeds : iv 0 40 vf_deeds) (k_sf_facts : iv 0 10 sf_facts) (k_cf_voices : iv 0 9 cf_voices) (k_cf_step : iv 0 9 cf_step) (hx1 : iv 0 3 x1) (hpost : ∀ (lf_huts : Int32) (lf_singers : Int32) (lf_villages : Int32) (lf_dams : Int32) (lf_echoes : Int32) (lf_deep : Int32) (lf_slide : Int32) (la_ladders : Nat → Int32) (la_minutes : Nat → Int32) (la_known : Nat → Int32) (vf_deeds : Int32) (sf_facts : Int32) (cf_voices : Int32) (cf_step : Int32) (f_hutsToldOf : Int32) (f_singersToldOf : Int32), (iv 0 9 lf_huts) → (iv 0 6 lf_singers) → (iv 0 511 lf_villages) → (iv 0 511 lf_dams) → (iv 0 4 lf_echoes) → (iv 1 9 lf_deep) → (iv 0 10 lf_slide) → (∀ j, iv 0 9 (la_ladders j)) → (∀ j, iv 0 9 (la_minutes j)) → (∀ j, iv 0 31 (la_known j)) → (iv 0 40 vf_deeds) → (iv 0 10 sf_facts) → (iv 0 9 cf_voices) → (iv 0 9 cf_step) → post lf_huts lf_singers lf_villages lf_dams lf_echoes lf_deep lf_slide la_ladders la_minutes la_known vf_deeds sf_facts cf_voices cf_step f_hutsToldOf f_singersToldOf) : q_wr_X4_clearDraft_0 lf_huts lf_singers lf_villages lf_dams lf_echoes lf_deep lf_slide la_ladders la_minutes la_known vf_deeds sf_facts cf_voices cf_step f_hutsToldOf f_singersToldOf x1 post := by
  refine ⟨fun c1 => ?_, fun c1 => ?_⟩
  · skip
    refine ⟨fun c2 => ?_, fun c2 => ?_⟩
    · skip
      refine ⟨fun c3 => ?_, fun c3 => ?_⟩
      · skip
        exact hpost _ _ _ _ _ _ _ _ _ _ _ _ _ _ _ _ k_lf_huts k_lf_singers k_lf_villages k_lf_dams k_lf_echoes k_lf_deep k_lf_slide k_la_ladders k_la_minutes k_la_known k_vf_deeds k_sf_facts (iv_w (iv_lit (l := 0) (h := 0) (by decide)) (by decide)) (iv_w (iv_lit (l := 0) (h := 0) (by decide)) (by decide))
      · skip
        exact hpost _ _ _ _ _ _ _ _ _ _ _ _ _ _ _ _ k_lf_huts k_lf_singers k_lf_villages k_lf_dams k_lf_echoes k_lf_deep k_lf_slide k_la_ladders k_la_minutes k_la_known k_vf_deeds (iv_w (iv_lit (l := 0) (h := 0) (by decide)) (by decide)) k_cf_voices k_cf_step
    · skip
      exact hpost _ _ _ _ _ _ _ _ _ _ _ _ _ _ _ _ k_lf_huts k_lf_singers k_lf_villages k_lf_dams k_lf_echoes k_lf_deep k_lf_slide k_la_ladders k_la_minutes k_la_known (iv_w (iv_lit (l := 0) (h := 0) (by decide)) (by decide)) k_sf_facts k_cf_voices k_cf_step
  · skip
    refine s_wr_X2_clear_0 k_lf_huts k_lf_singers k_lf_villages k_lf_dams k_lf_echoes k_lf_deep k_lf_slide k_la_ladders k_la_minutes k_la_known (fun o4 o5 o6 o7 o8 o9 o10 o11 o12 o13 k_o4 k_o5 k_o6 k_o7 k_o8 k_o9 k_o10 k_o11 k_o12 k_o13 => ?_)
    exact hpost _ _ _ _ _ _ _ _ _ _ _ _ _ _ _ _ (iv_w k_o4 (by decide)) (iv_w k_o5 (by decide)) (iv_w k_o6 (by decide)) (iv_w k_o7 (by decide)) (iv_w k_o8 (by decide)) (iv_w k_o9 (by decide)) (iv_w k_o10 (by decide)) k_o11 k_o12 k_o13 k_vf_deeds k_sf_facts k_cf_voices k_cf_step
-- wr_X4_readNumber
set_option maxRecDepth 20000 in
theorem s_wr_X4_readNumber_59 {P7 : Int32 → (Int32) → Prop} {a_tape : Nat → Int32} {f_length : Int32} {f_kind : Int32} {f_value : Int32} {x1 : Int32} {x2 : Int32} {y0 : Int32} {post : Int32 → (Int32) → (Int32) → Prop} (k_a_tape : ∀ j, iv (-128) 127 (a_tape j)) (k_f_length : iv 1 600 f_length) (k_f_kind : iv 0 4 f_kind) (hx1 : iv 0 599 x1) (hx2 : iv 0 599 x2) (m7 : Int) (hm7 : m7 ≤ x2.toInt) (hP7 : ∀ (x2 : Int32) (f_value : Int32), m7 < x2.toInt → iv 0 600 x2 → P7 x2 f_value) (hpost : ∀ (r : Int32) (f_kind : Int32) (f_value : Int32), iv 0 600 r → (iv 2 4 f_kind) → post r f_kind f_value) : q_wr_X4_readNumber_59 P7 a_tape f_length f_kind f_value x1 x2 y0 post := by
  intro w1 ew1
  have hw1 := iv_eq ew1 (iv_add (l := 1) (h := 600) hx2 (iv_lit (l := 1) (h := 1) (by decide)) (by decide))
  exact hP7 _ _ (ml_up hm7 (inc_lt ew1 hx2 (by decide))) (iv_w hw1 (by decide))
set_option maxRecDepth 20000 in
theorem s_wr_X4_readNumber_81 {a_tape : Nat → Int32} {f_length : Int32} {f_kind : Int32} {f_value : Int32} {x2 : Int32} {y0 : Int32} {post : Int32 → (Int32) → (Int32) → Prop} (k_a_tape : ∀ j, iv (-128) 127 (a_tape j)) (k_f_length : iv 1 600 f_length) (k_f_kind : iv 0 4 f_kind) (hx2 : iv 0 600 x2) (hy0 : iv 2 4 y0) (hpost : ∀ (r : Int32) (f_kind : Int32) (f_value : Int32), iv 0 600 r → (iv 2 4 f_kind) → post r f_kind f_value) : q_wr_X4_readNumber_81 a_tape f_length f_kind f_value x2 y0 post := by
  exact hpost _ _ _ hx2 hy0
set_option maxRecDepth 20000 in
theorem s_wr_X4_readNumber_68 {a_tape : Nat → Int32} {f_length : Int32} {f_kind : Int32} {f_value : Int32} {x1 : Int32} {x2 : Int32} {post : Int32 → (Int32) → (Int32) → Prop} (k_a_tape : ∀ j, iv (-128) 127 (a_tape j)) (k_f_length : iv 1 600 f_length) (k_f_kind : iv 0 4 f_kind) (hx1 : iv 0 599 x1) (hx2 : iv 0 600 x2) (hpost : ∀ (r : Int32) (f_kind : Int32) (f_value : Int32), iv 0 600 r → (iv 2 4 f_kind) → post r f_kind f_value) : q_wr_X4_readNumber_68 a_tape f_length f_kind f_value x1 x2 post := by
  refine ⟨fun c1 => ?_, fun c1 => ?_⟩
  · skip
    exact s_wr_X4_readNumber_81 k_a_tape k_f_length k_f_kind hx2 (iv_w (iv_lit (l := 4) (h := 4) (by decide)) (by decide)) hpost
  · skip
    exact s_wr_X4_readNumber_81 k_a_tape k_f_length k_f_kind hx2 (iv_w (iv_lit (l := 2) (h := 2) (by decide)) (by decide)) hpost
set_option maxRecDepth 20000 in
theorem s_wr_X4_readNumber_7 {a_tape : Nat → Int32} {f_length : Int32} {f_kind : Int32} {f_value : Int32} {x1 : Int32} {x2 : Int32} {post : Int32 → (Int32) → (Int32) → Prop} (k_a_tape : ∀ j, iv (-128) 127 (a_tape j)) (k_f_length : iv 1 600 f_length) (k_f_kind : iv 0 4 f_kind) (hx1 : iv 0 599 x1) (hx2 : iv 0 600 x2) (hpost : ∀ (r : Int32) (f_kind : Int32) (f_value : Int32), iv 0 600 r → (iv 2 4 f_kind) → post r f_kind f_value) : q_wr_X4_readNumber_7 a_tape f_length f_kind f_value x1 x2 post := by
  intro P hP
  have loop : ∀ (n : Nat) (x2 : Int32) (f_value : Int32), (600 - x2.toInt < (n : Int)) → (iv 0 600 x2) → P x2 f_value := by
    intro n
    induction n with
    | zero => intro x2 f_value hm hx2; exact (ms0_up hm hx2).elim
    | succ n ih =>
      intro x2 f_value hm hx2
      apply hP
      refine ⟨fun c1 => ?_, fun c1 => ?_⟩
      · skip
        exact s_wr_X4_readNumber_68 k_a_tape k_f_length k_f_kind hx1 (iv_w (iv_leb (l := 1) (h := 600) (r_le c1) k_f_length hx2 (by decide)) (by decide)) hpost
      · skip
        refine ⟨iv_in (iv_lta (l := 0) (h := 599) (r_nle c1) hx2 k_f_length (by decide)) (by decide), ?_⟩
        refine ⟨fun c2 => ?_, fun c2 => ?_⟩
        · skip
          refine ⟨fun c3 => ?_, fun c3 => ?_⟩
          · skip
            exact s_wr_X4_readNumber_68 k_a_tape k_f_length k_f_kind hx1 (iv_w (iv_lta (l := 0) (h := 599) (r_nle c1) hx2 k_f_length (by decide)) (by decide)) hpost
          · skip
            exact (iv_emp (iv_ne (l := 1) (h := 0) c3 (iv_lit (l := 0) (h := 0) (by decide)) (iv_lit (l := 0) (h := 0) (by decide)) (by decide)) (by decide)).elim
        · skip
          refine ⟨fun c4 => ?_, fun c4 => ?_⟩
          · skip
            refine ⟨fun c5 => ?_, fun c5 => ?_⟩
            · skip
              exact s_wr_X4_readNumber_68 k_a_tape k_f_length k_f_kind hx1 (iv_w (iv_lta (l := 0) (h := 599) (r_nle c1) hx2 k_f_length (by decide)) (by decide)) hpost
            · skip
              exact (iv_emp (iv_ne (l := 1) (h := 0) c5 (iv_lit (l := 0) (h := 0) (by decide)) (iv_lit (l := 0) (h := 0) (by decide)) (by decide)) (by decide)).elim
          · skip
            refine ⟨fun c6 => ?_, fun c6 => ?_⟩
            · skip
              exact (iv_emp (iv_eqa (l := 1) (h := 0) c6 (iv_lit (l := 1) (h := 1) (by decide)) (iv_lit (l := 0) (h := 0) (by decide)) (by decide)) (by decide)).elim
            · skip
              refine ⟨fun c7 => ?_, fun c7 => ?_⟩
              · skip
                exact s_wr_X4_readNumber_59 k_a_tape k_f_length k_f_kind hx1 (iv_lta (l := 0) (h := 599) (r_nle c1) hx2 k_f_length (by decide)) x2.toInt (Int.le_refl _) (fun u0 u1 hq g0 => ih u0 u1 (ms_up hm hq) g0) hpost
              · skip
                refine ⟨iv_in (iv_lta (l := 0) (h := 599) (r_nle c1) hx2 k_f_length (by decide)) (by decide), ?_⟩
                exact s_wr_X4_readNumber_59 k_a_tape k_f_length k_f_kind hx1 (iv_lta (l := 0) (h := 599) (r_nle c1) hx2 k_f_length (by decide)) x2.toInt (Int.le_refl _) (fun u0 u1 hq g0 => ih u0 u1 (ms_up hm hq) g0) hpost
  exact loop _ _ _ (ms_init_up _ _) hx2
set_option maxRecDepth 20000 in
theorem s_wr_X4_readNumber_0 {a_tape : Nat → Int32} {f_length : Int32} {f_kind : Int32} {f_value : Int32} {x1 : Int32} {post : Int32 → (Int32) → (Int32) → Prop} (k_a_tape : ∀ j, iv (-128) 127 (a_tape j)) (k_f_length : iv 1 600 f_length) (k_f_kind : iv 0 4 f_kind) (hx1 : iv 0 599 x1) (hpost : ∀ (r : Int32) (f_kind : Int32) (f_value : Int32), iv 0 600 r → (iv 2 4 f_kind) → post r f_kind f_value) : q_wr_X4_readNumber_0 a_tape f_length f_kind f_value x1 post := by
  exact s_wr_X4_readNumber_7 k_a_tape k_f_length k_f_kind hx1 (iv_w hx1 (by decide)) hpost
-- wr_X4_advance
set_option maxRecDepth 20000 in
theorem s_wr_X4_advance_35 {P5 : Int32 → Prop} {a_tape : Nat → Int32} {f_length : Int32} {f_behind : Int32} {f_kind : Int32} {f_first : Int32} {f_value : Int32} {x1 : Int32} {post : (Int32) → (Int32) → (Int32) → (Int32) → Prop} (k_a_tape : ∀ j, iv (-128) 127 (a_tape j)) (k_f_length : iv 1 600 f_length) (k_f_behind : iv 0 600 f_behind) (k_f_kind : iv 0 4 f_kind) (k_f_first : iv 0 600 f_first) (hx1 : iv 0 599 x1) (m5 : Int) (hm5 : m5 ≤ x1.toInt) (hP5 : ∀ (x1 : Int32), m5 < x1.toInt → iv 0 600 x1 → P5 x1) (hpost : ∀ (f_behind : Int32) (f_kind : Int32) (f_first : Int32) (f_value : Int32), (iv 0 600 f_behind) → (iv 0 4 f_kind) → (iv 0 600 f_first) → post f_behind f_kind f_first f_value) : q_wr_X4_advance_35 P5 a_tape f_length f_behind f_kind f_first f_value x1 post := by
  intro w1 ew1
  have hw1 := iv_eq ew1 (iv_add (l := 1) (h := 600) hx1 (iv_lit (l := 1) (h := 1) (by decide)) (by decide))
  exact hP5 _ (ml_up hm5 (inc_lt ew1 hx1 (by decide))) (iv_w hw1 (by decide))
set_option maxRecDepth 20000 in
theorem s_wr_X4_advance_149 {a_tape : Nat → Int32} {f_length : Int32} {f_behind : Int32} {f_kind : Int32} {f_first : Int32} {f_value : Int32} {x1 : Int32} {post : (Int32) → (Int32) → (Int32) → (Int32) → Prop} (k_a_tape : ∀ j, iv (-128) 127 (a_tape j)) (k_f_length : iv 0 600 f_length) (k_f_behind : iv 0 600 f_behind) (k_f_kind : iv 0 4 f_kind) (k_f_first : iv 0 600 f_first) (hx1 : iv 0 600 x1) (hpost : ∀ (f_behind : Int32) (f_kind : Int32) (f_first : Int32) (f_value : Int32), (iv 0 600 f_behind) → (iv 0 4 f_kind) → (iv 0 600 f_first) → post f_behind f_kind f_first f_value) : q_wr_X4_advance_149 a_tape f_length f_behind f_kind f_first f_value x1 post := by
  exact hpost _ _ _ _ hx1 k_f_kind k_f_first
set_option maxRecDepth 20000 in
theorem s_wr_X4_advance_143 {a_tape : Nat → Int32} {f_length : Int32} {f_behind : Int32} {f_kind : Int32} {f_first : Int32} {f_value : Int32} {x1 : Int32} {y0 : Int32} {post : (Int32) → (Int32) → (Int32) → (Int32) → Prop} (k_a_tape : ∀ j, iv (-128) 127 (a_tape j)) (k_f_length : iv 1 600 f_length) (k_f_behind : iv 0 600 f_behind) (k_f_kind : iv 0 4 f_kind) (k_f_first : iv 0 599 f_first) (hx1 : iv 0 599 x1) (hy0 : iv 3 4 y0) (hpost : ∀ (f_behind : Int32) (f_kind : Int32) (f_first : Int32) (f_value : Int32), (iv 0 600 f_behind) → (iv 0 4 f_kind) → (iv 0 600 f_first) → post f_behind f_kind f_first f_value) : q_wr_X4_advance_143 a_tape f_length f_behind f_kind f_first f_value x1 y0 post := by
  intro w1 ew1
  have hw1 := iv_eq ew1 (iv_add (l := 1) (h := 600) hx1 (iv_lit (l := 1) (h := 1) (by decide)) (by decide))
  exact s_wr_X4_advance_149 k_a_tape (iv_w k_f_length (by decide)) k_f_behind (iv_w hy0 (by decide)) (iv_w k_f_first (by decide)) (iv_w hw1 (by decide)) hpost
set_option maxRecDepth 20000 in
theorem s_wr_X4_advance_79 {a_tape : Nat → Int32} {f_length : Int32} {f_behind : Int32} {f_kind : Int32} {f_first : Int32} {f_value : Int32} {x1 : Int32} {post : (Int32) → (Int32) → (Int32) → (Int32) → Prop} (k_a_tape : ∀ j, iv (-128) 127 (a_tape j)) (k_f_length : iv 1 600 f_length) (k_f_behind : iv 0 600 f_behind) (k_f_kind : iv 1 1 f_kind) (k_f_first : iv 0 599 f_first) (hx1 : iv 0 600 x1) (hpost : ∀ (f_behind : Int32) (f_kind : Int32) (f_first : Int32) (f_value : Int32), (iv 0 600 f_behind) → (iv 0 4 f_kind) → (iv 0 600 f_first) → post f_behind f_kind f_first f_value) : q_wr_X4_advance_79 a_tape f_length f_behind f_kind f_first f_value x1 post := by
  intro P hP
  have loop : ∀ (n : Nat) (x1 : Int32), (600 - x1.toInt < (n : Int)) → (iv 0 600 x1) → P x1 := by
    intro n
    induction n with
    | zero => intro x1 hm hx1; exact (ms0_up hm hx1).elim
    | succ n ih =>
      intro x1 hm hx1
      apply hP
      refine ⟨fun c1 => ?_, fun c1 => ?_⟩
      · skip
        exact s_wr_X4_advance_149 k_a_tape (iv_w k_f_length (by decide)) k_f_behind (iv_w k_f_kind (by decide)) (iv_w k_f_first (by decide)) (iv_w (iv_leb (l := 1) (h := 600) (r_le c1) k_f_length hx1 (by decide)) (by decide)) hpost
      · skip
        refine ⟨iv_in (iv_lta (l := 0) (h := 599) (r_nle c1) hx1 k_f_length (by decide)) (by decide), ?_⟩
        refine ⟨fun c2 => ?_, fun c2 => ?_⟩
        · skip
          refine ⟨fun c3 => ?_, fun c3 => ?_⟩
          · skip
            exact s_wr_X4_advance_149 k_a_tape (iv_w k_f_length (by decide)) k_f_behind (iv_w k_f_kind (by decide)) (iv_w k_f_first (by decide)) (iv_w (iv_lta (l := 0) (h := 599) (r_nle c1) hx1 k_f_length (by decide)) (by decide)) hpost
          · skip
            exact (iv_emp (iv_ne (l := 1) (h := 0) c3 (iv_lit (l := 0) (h := 0) (by decide)) (iv_lit (l := 0) (h := 0) (by decide)) (by decide)) (by decide)).elim
        · skip
          refine ⟨fun c4 => ?_, fun c4 => ?_⟩
          · skip
            refine ⟨fun c5 => ?_, fun c5 => ?_⟩
            · skip
              exact s_wr_X4_advance_149 k_a_tape (iv_w k_f_length (by decide)) k_f_behind (iv_w k_f_kind (by decide)) (iv_w k_f_first (by decide)) (iv_w (iv_lta (l := 0) (h := 599) (r_nle c1) hx1 k_f_length (by decide)) (by decide)) hpost
            · skip
              exact (iv_emp (iv_ne (l := 1) (h := 0) c5 (iv_lit (l := 0) (h := 0) (by decide)) (iv_lit (l := 0) (h := 0) (by decide)) (by decide)) (by decide)).elim
          · skip
            refine ⟨fun c6 => ?_, fun c6 => ?_⟩
            · skip
              exact (iv_emp (iv_eqa (l := 1) (h := 0) c6 (iv_lit (l := 1) (h := 1) (by decide)) (iv_lit (l := 0) (h := 0) (by decide)) (by decide)) (by decide)).elim
            · skip
              intro w7 ew7
              have hw7 := iv_eq ew7 (iv_add (l := 1) (h := 600) (iv_lta (l := 0) (h := 599) (r_nle c1) hx1 k_f_length (by decide)) (iv_lit (l := 1) (h := 1) (by decide)) (by decide))
              exact ih _ (ms_up hm (inc_lt ew7 (iv_lta (l := 0) (h := 599) (r_nle c1) hx1 k_f_length (by decide)) (by decide))) (iv_w hw7 (by decide))
  exact loop _ _ (ms_init_up _ _) hx1
set_option maxRecDepth 20000 in
theorem s_wr_X4_advance_41 {a_tape : Nat → Int32} {f_length : Int32} {f_behind : Int32} {f_kind : Int32} {f_first : Int32} {f_value : Int32} {x1 : Int32} {post : (Int32) → (Int32) → (Int32) → (Int32) → Prop} (k_a_tape : ∀ j, iv (-128) 127 (a_tape j)) (k_f_length : iv 0 600 f_length) (k_f_behind : iv 0 600 f_behind) (k_f_kind : iv 0 4 f_kind) (k_f_first : iv 0 600 f_first) (hx1 : iv 0 600 x1) (hpost : ∀ (f_behind : Int32) (f_kind : Int32) (f_first : Int32) (f_value : Int32), (iv 0 600 f_behind) → (iv 0 4 f_kind) → (iv 0 600 f_first) → post f_behind f_kind f_first f_value) : q_wr_X4_advance_41 a_tape f_length f_behind f_kind f_first f_value x1 post := by
  refine ⟨fun c1 => ?_, fun c1 => ?_⟩
  · skip
    refine ⟨iv_in (iv_lta (l := 0) (h := 599) (r_lt c1) hx1 k_f_length (by decide)) (by decide), ?_⟩
    refine ⟨fun c2 => ?_, fun c2 => ?_⟩
    · skip
      refine ⟨fun c3 => ?_, fun c3 => ?_⟩
      · skip
        refine ⟨iv_in (iv_lta (l := 0) (h := 599) (r_lt c1) hx1 k_f_length (by decide)) (by decide), ?_⟩
        refine ⟨fun c4 => ?_, fun c4 => ?_⟩
        · skip
          refine ⟨fun c5 => ?_, fun c5 => ?_⟩
          · skip
            refine ⟨iv_in (iv_lta (l := 0) (h := 599) (r_lt c1) hx1 k_f_length (by decide)) (by decide), ?_⟩
            refine ⟨fun c6 => ?_, fun c6 => ?_⟩
            · skip
              exact s_wr_X4_advance_143 k_a_tape (iv_ltb (l := 1) (h := 600) (r_lt c1) hx1 k_f_length (by decide)) k_f_behind k_f_kind (iv_lta (l := 0) (h := 599) (r_lt c1) hx1 k_f_length (by decide)) (iv_lta (l := 0) (h := 599) (r_lt c1) hx1 k_f_length (by decide)) (iv_w (iv_lit (l := 4) (h := 4) (by decide)) (by decide)) hpost
            · skip
              exact (iv_emp (iv_eqa (l := 59) (h := 47) c6 (iv_lta (l := (-128)) (h := 47) (r_lt c4) (iv_lta (l := (-128)) (h := 96) (r_lt c2) (k_a_tape _) (iv_lit (l := 97) (h := 97) (by decide)) (by decide)) (iv_lit (l := 48) (h := 48) (by decide)) (by decide)) (iv_lit (l := 59) (h := 59) (by decide)) (by decide)) (by decide)).elim
          · skip
            exact (iv_emp (iv_ne (l := 1) (h := 0) c5 (iv_lit (l := 0) (h := 0) (by decide)) (iv_lit (l := 0) (h := 0) (by decide)) (by decide)) (by decide)).elim
        · skip
          refine ⟨fun c7 => ?_, fun c7 => ?_⟩
          · skip
            refine ⟨fun c8 => ?_, fun c8 => ?_⟩
            · skip
              refine ⟨iv_in (iv_lta (l := 0) (h := 599) (r_lt c1) hx1 k_f_length (by decide)) (by decide), ?_⟩
              refine ⟨fun c9 => ?_, fun c9 => ?_⟩
              · skip
                exact s_wr_X4_advance_143 k_a_tape (iv_ltb (l := 1) (h := 600) (r_lt c1) hx1 k_f_length (by decide)) k_f_behind k_f_kind (iv_lta (l := 0) (h := 599) (r_lt c1) hx1 k_f_length (by decide)) (iv_lta (l := 0) (h := 599) (r_lt c1) hx1 k_f_length (by decide)) (iv_w (iv_lit (l := 4) (h := 4) (by decide)) (by decide)) hpost
              · skip
                exact s_wr_X4_advance_143 k_a_tape (iv_ltb (l := 1) (h := 600) (r_lt c1) hx1 k_f_length (by decide)) k_f_behind k_f_kind (iv_lta (l := 0) (h := 599) (r_lt c1) hx1 k_f_length (by decide)) (iv_lta (l := 0) (h := 599) (r_lt c1) hx1 k_f_length (by decide)) (iv_w (iv_lit (l := 3) (h := 3) (by decide)) (by decide)) hpost
            · skip
              exact (iv_emp (iv_ne (l := 1) (h := 0) c8 (iv_lit (l := 0) (h := 0) (by decide)) (iv_lit (l := 0) (h := 0) (by decide)) (by decide)) (by decide)).elim
          · skip
            refine ⟨fun c10 => ?_, fun c10 => ?_⟩
            · skip
              exact (iv_emp (iv_eqa (l := 1) (h := 0) c10 (iv_lit (l := 1) (h := 1) (by decide)) (iv_lit (l := 0) (h := 0) (by decide)) (by decide)) (by decide)).elim
            · skip
              refine s_wr_X4_readNumber_0 k_a_tape (iv_ltb (l := 1) (h := 600) (r_lt c1) hx1 k_f_length (by decide)) k_f_kind (iv_lta (l := 0) (h := 599) (r_lt c1) hx1 k_f_length (by decide)) (fun r11 o12 o13 hr11 k_o12 => ?_)
              exact s_wr_X4_advance_149 k_a_tape (iv_w (iv_ltb (l := 1) (h := 600) (r_lt c1) hx1 k_f_length (by decide)) (by decide)) k_f_behind (iv_w k_o12 (by decide)) (iv_w (iv_lta (l := 0) (h := 599) (r_lt c1) hx1 k_f_length (by decide)) (by decide)) hr11 hpost
      · skip
        exact (iv_emp (iv_ne (l := 1) (h := 0) c3 (iv_lit (l := 0) (h := 0) (by decide)) (iv_lit (l := 0) (h := 0) (by decide)) (by decide)) (by decide)).elim
    · skip
      refine ⟨fun c14 => ?_, fun c14 => ?_⟩
      · skip
        refine ⟨fun c15 => ?_, fun c15 => ?_⟩
        · skip
          refine ⟨iv_in (iv_lta (l := 0) (h := 599) (r_lt c1) hx1 k_f_length (by decide)) (by decide), ?_⟩
          refine ⟨fun c16 => ?_, fun c16 => ?_⟩
          · skip
            exact (iv_emp (iv_lta (l := 123) (h := 47) (r_lt c16) (iv_ltb (l := 123) (h := 127) (r_lt c14) (iv_lit (l := 122) (h := 122) (by decide)) (iv_leb (l := 97) (h := 127) (r_nlt c2) (iv_lit (l := 97) (h := 97) (by decide)) (k_a_tape _) (by decide)) (by decide)) (iv_lit (l := 48) (h := 48) (by decide)) (by decide)) (by decide)).elim
          · skip
            refine ⟨fun c17 => ?_, fun c17 => ?_⟩
            · skip
              refine ⟨fun c18 => ?_, fun c18 => ?_⟩
              · skip
                refine ⟨iv_in (iv_lta (l := 0) (h := 599) (r_lt c1) hx1 k_f_length (by decide)) (by decide), ?_⟩
                refine ⟨fun c19 => ?_, fun c19 => ?_⟩
                · skip
                  exact s_wr_X4_advance_143 k_a_tape (iv_ltb (l := 1) (h := 600) (r_lt c1) hx1 k_f_length (by decide)) k_f_behind k_f_kind (iv_lta (l := 0) (h := 599) (r_lt c1) hx1 k_f_length (by decide)) (iv_lta (l := 0) (h := 599) (r_lt c1) hx1 k_f_length (by decide)) (iv_w (iv_lit (l := 4) (h := 4) (by decide)) (by decide)) hpost
                · skip
                  exact (iv_emp (iv_eqa (l := 123) (h := 59) c19 (iv_ltb (l := 123) (h := 127) (r_lt c14) (iv_lit (l := 122) (h := 122) (by decide)) (iv_leb (l := 97) (h := 127) (r_nlt c2) (iv_lit (l := 97) (h := 97) (by decide)) (k_a_tape _) (by decide)) (by decide)) (iv_lit (l := 59) (h := 59) (by decide)) (by decide)) (by decide)).elim
              · skip
                exact (iv_emp (iv_ne (l := 1) (h := 0) c18 (iv_lit (l := 0) (h := 0) (by decide)) (iv_lit (l := 0) (h := 0) (by decide)) (by decide)) (by decide)).elim
            · skip
              exact (iv_emp (iv_lea (l := 123) (h := 57) (r_nlt c17) (iv_ltb (l := 123) (h := 127) (r_lt c14) (iv_lit (l := 122) (h := 122) (by decide)) (iv_leb (l := 97) (h := 127) (r_nlt c2) (iv_lit (l := 97) (h := 97) (by decide)) (k_a_tape _) (by decide)) (by decide)) (iv_lit (l := 57) (h := 57) (by decide)) (by decide)) (by decide)).elim
        · skip
          exact (iv_emp (iv_ne (l := 1) (h := 0) c15 (iv_lit (l := 0) (h := 0) (by decide)) (iv_lit (l := 0) (h := 0) (by decide)) (by decide)) (by decide)).elim
      · skip
        refine ⟨fun c20 => ?_, fun c20 => ?_⟩
        · skip
          exact (iv_emp (iv_eqa (l := 1) (h := 0) c20 (iv_lit (l := 1) (h := 1) (by decide)) (iv_lit (l := 0) (h := 0) (by decide)) (by decide)) (by decide)).elim
        · skip
          exact s_wr_X4_advance_79 k_a_tape (iv_ltb (l := 1) (h := 600) (r_lt c1) hx1 k_f_length (by decide)) k_f_behind (iv_lit (l := 1) (h := 1) (by decide)) (iv_lta (l := 0) (h := 599) (r_lt c1) hx1 k_f_length (by decide)) (iv_w (iv_lta (l := 0) (h := 599) (r_lt c1) hx1 k_f_length (by decide)) (by decide)) hpost
  · skip
    exact s_wr_X4_advance_149 k_a_tape k_f_length k_f_behind (iv_w (iv_lit (l := 0) (h := 0) (by decide)) (by decide)) hx1 hx1 hpost
set_option maxRecDepth 20000 in
theorem s_wr_X4_advance_5 {a_tape : Nat → Int32} {f_length : Int32} {f_behind : Int32} {f_kind : Int32} {f_first : Int32} {f_value : Int32} {x1 : Int32} {post : (Int32) → (Int32) → (Int32) → (Int32) → Prop} (k_a_tape : ∀ j, iv (-128) 127 (a_tape j)) (k_f_length : iv 0 600 f_length) (k_f_behind : iv 0 600 f_behind) (k_f_kind : iv 0 4 f_kind) (k_f_first : iv 0 600 f_first) (hx1 : iv 0 600 x1) (hpost : ∀ (f_behind : Int32) (f_kind : Int32) (f_first : Int32) (f_value : Int32), (iv 0 600 f_behind) → (iv 0 4 f_kind) → (iv 0 600 f_first) → post f_behind f_kind f_first f_value) : q_wr_X4_advance_5 a_tape f_length f_behind f_kind f_first f_value x1 post := by
  intro P hP
  have loop : ∀ (n : Nat) (x1 : Int32), (600 - x1.toInt < (n : Int)) → (iv 0 600 x1) → P x1 := by
    intro n
    induction n with
    | zero => intro x1 hm hx1; exact (ms0_up hm hx1).elim
    | succ n ih =>
      intro x1 hm hx1
      apply hP
      refine ⟨fun c1 => ?_, fun c1 => ?_⟩
      · skip
        exact s_wr_X4_advance_41 k_a_tape k_f_length k_f_behind k_f_kind k_f_first hx1 hpost
      · skip
        refine ⟨iv_in (iv_lta (l := 0) (h := 599) (r_nle c1) hx1 k_f_length (by decide)) (by decide), ?_⟩
        refine ⟨fun c2 => ?_, fun c2 => ?_⟩
        · skip
          exact s_wr_X4_advance_35 k_a_tape (iv_ltb (l := 1) (h := 600) (r_nle c1) hx1 k_f_length (by decide)) k_f_behind k_f_kind k_f_first (iv_lta (l := 0) (h := 599) (r_nle c1) hx1 k_f_length (by decide)) x1.toInt (Int.le_refl _) (fun u0 hq g0 => ih u0 (ms_up hm hq) g0) hpost
        · skip
          refine ⟨iv_in (iv_lta (l := 0) (h := 599) (r_nle c1) hx1 k_f_length (by decide)) (by decide), ?_⟩
          refine ⟨fun c3 => ?_, fun c3 => ?_⟩
          · skip
            exact s_wr_X4_advance_41 k_a_tape (iv_w (iv_ltb (l := 1) (h := 600) (r_nle c1) hx1 k_f_length (by decide)) (by decide)) k_f_behind k_f_kind k_f_first (iv_w (iv_lta (l := 0) (h := 599) (r_nle c1) hx1 k_f_length (by decide)) (by decide)) hpost
          · skip
            exact s_wr_X4_advance_35 k_a_tape (iv_ltb (l := 1) (h := 600) (r_nle c1) hx1 k_f_length (by decide)) k_f_behind k_f_kind k_f_first (iv_lta (l := 0) (h := 599) (r_nle c1) hx1 k_f_length (by decide)) x1.toInt (Int.le_refl _) (fun u0 hq g0 => ih u0 (ms_up hm hq) g0) hpost
  exact loop _ _ (ms_init_up _ _) hx1
set_option maxRecDepth 20000 in
theorem s_wr_X4_advance_0 {a_tape : Nat → Int32} {f_length : Int32} {f_behind : Int32} {f_kind : Int32} {f_first : Int32} {f_value : Int32} {post : (Int32) → (Int32) → (Int32) → (Int32) → Prop} (k_a_tape : ∀ j, iv (-128) 127 (a_tape j)) (k_f_length : iv 0 600 f_length) (k_f_behind : iv 0 600 f_behind) (k_f_kind : iv 0 4 f_kind) (k_f_first : iv 0 600 f_first) (hpost : ∀ (f_behind : Int32) (f_kind : Int32) (f_first : Int32) (f_value : Int32), (iv 0 600 f_behind) → (iv 0 4 f_kind) → (iv 0 600 f_first) → post f_behind f_kind f_first f_value) : q_wr_X4_advance_0 a_tape f_length f_behind f_kind f_first f_value post := by
  exact s_wr_X4_advance_5 k_a_tape k_f_length k_f_behind k_f_kind k_f_first k_f_behind hpost
-- wr_X4_isSpelled
theorem s_wr_X4_isSpelled_0 {a_tape : Nat → Int32} {f_behind f_first : Int32} {x1 : Nat} {post : Int32 → Prop} (k_f_behind : iv 0 600 f_behind) (k_f_first : iv 0 600 f_first) (hx1 : x1 < 20) (hpost : ∀ r, iv 0 1 r → post r) : q_wr_X4_isSpelled_0 a_tape f_behind f_first x1 post := by
  refine ⟨hx1, fun he => ?_, fun _ => hpost _ (iv_lit (by decide))⟩
  have hlen := sLen_lt x1 hx1
  unfold q_wr_X4_isSpelled_20
  obtain ⟨L, hL⟩ : ∃ L, L = sLen.getD x1 0 := ⟨_, rfl⟩
  rw [← hL] at he hlen ⊢
  intro P hP
  have e1 : (L : Int) = f_behind.toInt - f_first.toInt := by
    have h1 := congrArg Int32.toInt he
    rw [nI_toInt hlen] at h1
    rw [h1, Int32.toInt_sub]
    obtain ⟨a1, a2⟩ := k_f_behind; obtain ⟨a3, a4⟩ := k_f_first
    exact Int.bmod_eq_of_le (by omega) (by omega)
  have loop : ∀ (n j : Nat), n + j = L + 1 → j ≤ L → P (nI j) := by
    intro n
    induction n with
    | zero => intro j h1 h2; omega
    | succ n ih =>
      intro j h1 h2
      obtain ⟨a1, a2⟩ := k_f_behind; obtain ⟨a3, a4⟩ := k_f_first
      apply hP
      refine ⟨hx1, fun _ => hpost _ (iv_lit (by decide)), fun hc => ?_⟩
      have hj : j < L := Nat.lt_of_not_le (fun h => hc (nI_le h (by omega)))
      have hidx : iv 0 599 (f_first + nI j) := by
        have e : (f_first + nI j).toInt = f_first.toInt + j := by
          rw [Int32.toInt_add, nI_toInt (by omega)]; exact Int.bmod_eq_of_le (by omega) (by omega)
        unfold iv; rw [e]; exact ⟨by omega, by omega⟩
      refine ⟨iv_in hidx (by decide), hx1, vp_in_nI hj hlen, fun _ v hv => ?_, fun _ => hpost _ (iv_lit (by decide))⟩
      rw [hv, show (1 : Int32) = nI 1 from rfl, nI_add]
      exact ih (j + 1) (by omega) (by omega)
  exact loop (L + 1) 0 (by omega) (by omega)
-- wr_X4_wordOf
theorem s_wr_X4_wordOf_0 {a_tape : Nat → Int32} {f_behind f_kind f_first x1 : Int32} {post : Int32 → Prop} (k_f_behind : iv 0 600 f_behind) (k_f_first : iv 0 600 f_first) (hx1 : iv 0 3 x1) (hpost : ∀ r, iv (-1) 19 r → post r) : q_wr_X4_wordOf_0 a_tape f_behind f_kind f_first x1 post := by
  refine ⟨fun _ => ⟨iv_in hx1 (by decide), fun v hv => ?_⟩, fun _ => hpost _ (iv_lit (by decide))⟩
  have hv0 : iv 0 20 v := iv_eq hv (tbi_0 _)
  have hx2 : iv 1 4 (x1 + 1) := iv_add (l := 1) (h := 4) hx1 (iv_lit (l := 1) (h := 1) (by decide)) (by decide)
  intro P hP
  have loop : ∀ (n : Nat) (x2 : Int32), 20 - x2.toInt < (n : Int) → iv 0 20 x2 → P x2 := by
    intro n
    induction n with
    | zero => intro x2 h1 h2; exact (ms0_up h1 h2).elim
    | succ n ih =>
      intro x2 hm hi
      apply hP
      refine ⟨iv_in hx2 (by decide), fun _ => hpost _ (iv_lit (by decide)), fun hc => ?_⟩
      have hi2 : iv 0 19 x2 := iv_lta (l := 0) (h := 19) (r_nle hc) hi (tbi_0 _) (by decide)
      refine ⟨iv_in hi2 (by decide), ?_⟩
      refine s_wr_X4_isSpelled_0 k_f_behind k_f_first (iv_cl hi2 (by decide)) (fun r hr => ⟨fun _ w hw => ?_, fun _ => hpost _ (iv_w hi2 (by decide))⟩)
      exact ih _ (ms_up hm (inc_lt hw hi2 (by decide))) (iv_eq hw (iv_add (l := 0) (h := 20) hi2 (iv_lit (l := 1) (h := 1) (by decide)) (by decide)))
  exact loop _ _ (ms_init_up _ _) hv0
-- wr_X4_tell
set_option maxRecDepth 20000 in
theorem s_tell_0 {lf_huts : Int32} {lf_singers : Int32} {lf_villages : Int32} {lf_dams : Int32} {lf_echoes : Int32} {lf_deep : Int32} {lf_slide : Int32} {la_heights : Nat → Int32} {la_ladders : Nat → Int32} {la_minutes : Nat → Int32} {la_echoFrom : Nat → Int32} {la_echoTo : Nat → Int32} {la_homes : Nat → Int32} {la_talls : Nat → Int32} {la_known : Nat → Int32} {vf_deeds : Int32} {va_kinds : Nat → Int32} {va_firsts : Nat → Int32} {va_seconds : Nat → Int32} {sf_facts : Int32} {sa_heard : Nat → Int32} {sa_huts : Nat → Int32} {sa_minutes : Nat → Int32} {cf_voices : Int32} {cf_step : Int32} {ca_parts : Nat → Int32} {ca_heights : Nat → Int32} {a_numbers : Nat → Int32} {f_hutsToldOf : Int32} {f_singersToldOf : Int32} {x1 : Int32} {post : (Int32) → (Int32) → (Int32) → (Int32) → (Int32) → (Int32) → (Int32) → (Nat → Int32) → (Nat → Int32) → (Nat → Int32) → (Nat → Int32) → (Nat → Int32) → (Nat → Int32) → (Nat → Int32) → (Nat → Int32) → (Int32) → (Nat → Int32) → (Nat → Int32) → (Nat → Int32) → (Int32) → (Nat → Int32) → (Nat → Int32) → (Nat → Int32) → (Int32) → (Int32) → (Nat → Int32) → (Nat → Int32) → (Int32) → (Int32) → Prop} (k_lf_huts : iv 0 8 lf_huts) (k_lf_singers : iv 0 6 lf_singers) (k_lf_villages : iv 0 511 lf_villages) (k_lf_dams : iv 0 511 lf_dams) (k_lf_echoes : iv 0 4 lf_echoes) (k_lf_deep : iv 1 9 lf_deep) (k_lf_slide : iv 0 10 lf_slide) (k_la_heights : ∀ j, iv 0 99 (la_heights j)) (k_la_ladders : ∀ j, iv 0 9 (la_ladders j)) (k_la_minutes : ∀ j, iv 0 9 (la_minutes j)) (k_la_echoFrom : ∀ j, iv 0 8 (la_echoFrom j)) (k_la_echoTo : ∀ j, iv 0 8 (la_echoTo j)) (k_la_homes : ∀ j, iv 0 8 (la_homes j)) (k_la_talls : ∀ j, iv 0 9 (la_talls j)) (k_la_known : ∀ j, iv 0 31 (la_known j)) (k_vf_deeds : iv 0 40 vf_deeds) (k_va_kinds : ∀ j, iv 0 5 (va_kinds j)) (k_va_firsts : ∀ j, iv 0 5 (va_firsts j)) (k_va_seconds : ∀ j, iv (-1) 8 (va_seconds j)) (k_sf_facts : iv 0 10 sf_facts) (k_sa_heard : ∀ j, iv 0 1 (sa_heard j)) (k_sa_huts : ∀ j, iv 0 8 (sa_huts j)) (k_sa_minutes : ∀ j, iv 0 60 (sa_minutes j)) (k_cf_voices : iv 0 9 cf_voices) (k_cf_step : iv 0 9 cf_step) (k_ca_parts : ∀ j, iv 0 3 (ca_parts j)) (k_ca_heights : ∀ j, iv 0 9 (ca_heights j)) (hx1 : iv 0 0 x1) (hn0 : iv 0 99 (a_numbers (Int32.toNatClampNeg (0 : Int32)))) (hpost : ∀ (lf_huts : Int32) (lf_singers : Int32) (lf_villages : Int32) (lf_dams : Int32) (lf_echoes : Int32) (lf_deep : Int32) (lf_slide : Int32) (la_heights : Nat → Int32) (la_ladders : Nat → Int32) (la_minutes : Nat → Int32) (la_echoFrom : Nat → Int32) (la_echoTo : Nat → Int32) (la_homes : Nat → Int32) (la_talls : Nat → Int32) (la_known : Nat → Int32) (vf_deeds : Int32) (va_kinds : Nat → Int32) (va_firsts : Nat → Int32) (va_seconds : Nat → Int32) (sf_facts : Int32) (sa_heard : Nat → Int32) (sa_huts : Nat → Int32) (sa_minutes : Nat → Int32) (cf_voices : Int32) (cf_step : Int32) (ca_parts : Nat → Int32) (ca_heights : Nat → Int32) (f_hutsToldOf : Int32) (f_singersToldOf : Int32), (iv 0 9 lf_huts) → (iv 0 6 lf_singers) → (iv 0 511 lf_villages) → (iv 0 511 lf_dams) → (iv 0 4 lf_echoes) → (iv 1 9 lf_deep) → (iv 0 10 lf_slide) → (∀ j, iv 0 99 (la_heights j)) → (∀ j, iv 0 9 (la_ladders j)) → (∀ j, iv 0 9 (la_minutes j)) → (∀ j, iv 0 8 (la_echoFrom j)) → (∀ j, iv 0 8 (la_echoTo j)) → (∀ j, iv 0 8 (la_homes j)) → (∀ j, iv 0 9 (la_talls j)) → (∀ j, iv 0 31 (la_known j)) → (iv 0 40 vf_deeds) → (∀ j, iv 0 5 (va_kinds j)) → (∀ j, iv 0 5 (va_firsts j)) → (∀ j, iv (-1) 8 (va_seconds j)) → (iv 0 10 sf_facts) → (∀ j, iv 0 1 (sa_heard j)) → (∀ j, iv 0 8 (sa_huts j)) → (∀ j, iv 0 60 (sa_minutes j)) → (iv 0 9 cf_voices) → (iv 0 9 cf_step) → (∀ j, iv 0 3 (ca_parts j)) → (∀ j, iv 0 9 (ca_heights j)) → post lf_huts lf_singers lf_villages lf_dams lf_echoes lf_deep lf_slide la_heights la_ladders la_minutes la_echoFrom la_echoTo la_homes la_talls la_known vf_deeds va_kinds va_firsts va_seconds sf_facts sa_heard sa_huts sa_minutes cf_voices cf_step ca_parts ca_heights f_hutsToldOf f_singersToldOf) : q_wr_X4_tell_0 lf_huts lf_singers lf_villages lf_dams lf_echoes lf_deep lf_slide la_heights la_ladders la_minutes la_echoFrom la_echoTo la_homes la_talls la_known vf_deeds va_kinds va_firsts va_seconds sf_facts sa_heard sa_huts sa_minutes cf_voices cf_step ca_parts ca_heights a_numbers f_hutsToldOf f_singersToldOf x1 post := by
  refine ⟨fun c1 => ?_, fun c1 => ?_⟩
  · skip
    exact (iv_emp (iv_lea (l := 10) (h := 0) (r_le c1) (iv_lit (l := 10) (h := 10) (by decide)) hx1 (by decide)) (by decide)).elim
  · skip
    refine ⟨fun c2 => ?_, fun c2 => ?_, fun c2 => ?_, fun c2 => ?_, fun c2 => ?_, fun c2 => ?_, fun c2 => ?_, fun c2 => ?_, fun c2 => ?_, fun c2 => ?_⟩
    · skip
      exact (iv_sw c2 hx1 (by decide)).elim
    · skip
      refine ⟨iv_in k_lf_huts (by decide), ?_⟩
      intro a3 ea3
      have k_a3 := iv_upd ea3 k_la_heights hn0
      intro w4 ew4
      have hw4 := iv_eq ew4 (iv_add (l := 1) (h := 9) k_lf_huts (iv_lit (l := 1) (h := 1) (by decide)) (by decide))
      exact hpost _ _ _ _ _ _ _ _ _ _ _ _ _ _ _ _ _ _ _ _ _ _ _ _ _ _ _ _ _ (iv_w hw4 (by decide)) k_lf_singers k_lf_villages k_lf_dams k_lf_echoes k_lf_deep k_lf_slide k_a3 k_la_ladders k_la_minutes k_la_echoFrom k_la_echoTo k_la_homes k_la_talls k_la_known k_vf_deeds k_va_kinds k_va_firsts k_va_seconds k_sf_facts k_sa_heard k_sa_huts k_sa_minutes k_cf_voices k_cf_step k_ca_parts k_ca_heights
    · skip
      exact (iv_emp (iv_eqa (l := 1) (h := 0) c2 hx1 (iv_lit (l := 1) (h := 1) (by decide)) (by decide)) (by decide)).elim
    · skip
      exact (iv_emp (iv_eqa (l := 2) (h := 0) c2 hx1 (iv_lit (l := 2) (h := 2) (by decide)) (by decide)) (by decide)).elim
    · skip
      exact (iv_emp (iv_eqa (l := 3) (h := 0) c2 hx1 (iv_lit (l := 3) (h := 3) (by decide)) (by decide)) (by decide)).elim
    · skip
      exact (iv_emp (iv_eqa (l := 4) (h := 0) c2 hx1 (iv_lit (l := 4) (h := 4) (by decide)) (by decide)) (by decide)).elim
    · skip
      exact (iv_emp (iv_eqa (l := 5) (h := 0) c2 hx1 (iv_lit (l := 5) (h := 5) (by decide)) (by decide)) (by decide)).elim
    · skip
      exact (iv_emp (iv_eqa (l := 6) (h := 0) c2 hx1 (iv_lit (l := 6) (h := 6) (by decide)) (by decide)) (by decide)).elim
    · skip
      exact (iv_emp (iv_eqa (l := 7) (h := 0) c2 hx1 (iv_lit (l := 7) (h := 7) (by decide)) (by decide)) (by decide)).elim
    · skip
      exact (iv_emp (iv_eqa (l := 8) (h := 0) c2 hx1 (iv_lit (l := 8) (h := 8) (by decide)) (by decide)) (by decide)).elim
set_option maxRecDepth 20000 in
theorem s_tell_1 {lf_huts : Int32} {lf_singers : Int32} {lf_villages : Int32} {lf_dams : Int32} {lf_echoes : Int32} {lf_deep : Int32} {lf_slide : Int32} {la_heights : Nat → Int32} {la_ladders : Nat → Int32} {la_minutes : Nat → Int32} {la_echoFrom : Nat → Int32} {la_echoTo : Nat → Int32} {la_homes : Nat → Int32} {la_talls : Nat → Int32} {la_known : Nat → Int32} {vf_deeds : Int32} {va_kinds : Nat → Int32} {va_firsts : Nat → Int32} {va_seconds : Nat → Int32} {sf_facts : Int32} {sa_heard : Nat → Int32} {sa_huts : Nat → Int32} {sa_minutes : Nat → Int32} {cf_voices : Int32} {cf_step : Int32} {ca_parts : Nat → Int32} {ca_heights : Nat → Int32} {a_numbers : Nat → Int32} {f_hutsToldOf : Int32} {f_singersToldOf : Int32} {x1 : Int32} {post : (Int32) → (Int32) → (Int32) → (Int32) → (Int32) → (Int32) → (Int32) → (Nat → Int32) → (Nat → Int32) → (Nat → Int32) → (Nat → Int32) → (Nat → Int32) → (Nat → Int32) → (Nat → Int32) → (Nat → Int32) → (Int32) → (Nat → Int32) → (Nat → Int32) → (Nat → Int32) → (Int32) → (Nat → Int32) → (Nat → Int32) → (Nat → Int32) → (Int32) → (Int32) → (Nat → Int32) → (Nat → Int32) → (Int32) → (Int32) → Prop} (k_lf_huts : iv 0 9 lf_huts) (k_lf_singers : iv 0 6 lf_singers) (k_lf_villages : iv 0 511 lf_villages) (k_lf_dams : iv 0 511 lf_dams) (k_lf_echoes : iv 0 4 lf_echoes) (k_lf_deep : iv 1 9 lf_deep) (k_lf_slide : iv 0 10 lf_slide) (k_la_heights : ∀ j, iv 0 99 (la_heights j)) (k_la_ladders : ∀ j, iv 0 9 (la_ladders j)) (k_la_minutes : ∀ j, iv 0 9 (la_minutes j)) (k_la_echoFrom : ∀ j, iv 0 8 (la_echoFrom j)) (k_la_echoTo : ∀ j, iv 0 8 (la_echoTo j)) (k_la_homes : ∀ j, iv 0 8 (la_homes j)) (k_la_talls : ∀ j, iv 0 9 (la_talls j)) (k_la_known : ∀ j, iv 0 31 (la_known j)) (k_vf_deeds : iv 0 40 vf_deeds) (k_va_kinds : ∀ j, iv 0 5 (va_kinds j)) (k_va_firsts : ∀ j, iv 0 5 (va_firsts j)) (k_va_seconds : ∀ j, iv (-1) 8 (va_seconds j)) (k_sf_facts : iv 0 10 sf_facts) (k_sa_heard : ∀ j, iv 0 1 (sa_heard j)) (k_sa_huts : ∀ j, iv 0 8 (sa_huts j)) (k_sa_minutes : ∀ j, iv 0 60 (sa_minutes j)) (k_cf_voices : iv 0 9 cf_voices) (k_cf_step : iv 0 9 cf_step) (k_ca_parts : ∀ j, iv 0 3 (ca_parts j)) (k_ca_heights : ∀ j, iv 0 9 (ca_heights j)) (hx1 : iv 1 1 x1) (hn0 : iv 0 8 (a_numbers (Int32.toNatClampNeg (0 : Int32)))) (hpost : ∀ (lf_huts : Int32) (lf_singers : Int32) (lf_villages : Int32) (lf_dams : Int32) (lf_echoes : Int32) (lf_deep : Int32) (lf_slide : Int32) (la_heights : Nat → Int32) (la_ladders : Nat → Int32) (la_minutes : Nat → Int32) (la_echoFrom : Nat → Int32) (la_echoTo : Nat → Int32) (la_homes : Nat → Int32) (la_talls : Nat → Int32) (la_known : Nat → Int32) (vf_deeds : Int32) (va_kinds : Nat → Int32) (va_firsts : Nat → Int32) (va_seconds : Nat → Int32) (sf_facts : Int32) (sa_heard : Nat → Int32) (sa_huts : Nat → Int32) (sa_minutes : Nat → Int32) (cf_voices : Int32) (cf_step : Int32) (ca_parts : Nat → Int32) (ca_heights : Nat → Int32) (f_hutsToldOf : Int32) (f_singersToldOf : Int32), (iv 0 9 lf_huts) → (iv 0 6 lf_singers) → (iv 0 511 lf_villages) → (iv 0 511 lf_dams) → (iv 0 4 lf_echoes) → (iv 1 9 lf_deep) → (iv 0 10 lf_slide) → (∀ j, iv 0 99 (la_heights j)) → (∀ j, iv 0 9 (la_ladders j)) → (∀ j, iv 0 9 (la_minutes j)) → (∀ j, iv 0 8 (la_echoFrom j)) → (∀ j, iv 0 8 (la_echoTo j)) → (∀ j, iv 0 8 (la_homes j)) → (∀ j, iv 0 9 (la_talls j)) → (∀ j, iv 0 31 (la_known j)) → (iv 0 40 vf_deeds) → (∀ j, iv 0 5 (va_kinds j)) → (∀ j, iv 0 5 (va_firsts j)) → (∀ j, iv (-1) 8 (va_seconds j)) → (iv 0 10 sf_facts) → (∀ j, iv 0 1 (sa_heard j)) → (∀ j, iv 0 8 (sa_huts j)) → (∀ j, iv 0 60 (sa_minutes j)) → (iv 0 9 cf_voices) → (iv 0 9 cf_step) → (∀ j, iv 0 3 (ca_parts j)) → (∀ j, iv 0 9 (ca_heights j)) → post lf_huts lf_singers lf_villages lf_dams lf_echoes lf_deep lf_slide la_heights la_ladders la_minutes la_echoFrom la_echoTo la_homes la_talls la_known vf_deeds va_kinds va_firsts va_seconds sf_facts sa_heard sa_huts sa_minutes cf_voices cf_step ca_parts ca_heights f_hutsToldOf f_singersToldOf) : q_wr_X4_tell_0 lf_huts lf_singers lf_villages lf_dams lf_echoes lf_deep lf_slide la_heights la_ladders la_minutes la_echoFrom la_echoTo la_homes la_talls la_known vf_deeds va_kinds va_firsts va_seconds sf_facts sa_heard sa_huts sa_minutes cf_voices cf_step ca_parts ca_heights a_numbers f_hutsToldOf f_singersToldOf x1 post := by
  refine ⟨fun c1 => ?_, fun c1 => ?_⟩
  · skip
    exact (iv_emp (iv_lea (l := 10) (h := 1) (r_le c1) (iv_lit (l := 10) (h := 10) (by decide)) hx1 (by decide)) (by decide)).elim
  · skip
    refine ⟨fun c2 => ?_, fun c2 => ?_, fun c2 => ?_, fun c2 => ?_, fun c2 => ?_, fun c2 => ?_, fun c2 => ?_, fun c2 => ?_, fun c2 => ?_, fun c2 => ?_⟩
    · skip
      exact (iv_sw c2 hx1 (by decide)).elim
    · skip
      exact (iv_emp (iv_eqa (l := 1) (h := 0) c2 hx1 (iv_lit (l := 0) (h := 0) (by decide)) (by decide)) (by decide)).elim
    · skip
      intro w3 ew3
      have hw3 := iv_eq ew3 (iv_or 9 (l := 0) (h := 511) k_lf_villages (iv_shl1 (l := 1) (h := 256) (iv_lit (l := 1) (h := 1) (by decide)) hn0 (by decide)) (by decide))
      intro w4 ew4
      exact hpost _ _ _ _ _ _ _ _ _ _ _ _ _ _ _ _ _ _ _ _ _ _ _ _ _ _ _ _ _ k_lf_huts k_lf_singers hw3 k_lf_dams k_lf_echoes k_lf_deep k_lf_slide k_la_heights k_la_ladders k_la_minutes k_la_echoFrom k_la_echoTo k_la_homes k_la_talls k_la_known k_vf_deeds k_va_kinds k_va_firsts k_va_seconds k_sf_facts k_sa_heard k_sa_huts k_sa_minutes k_cf_voices k_cf_step k_ca_parts k_ca_heights
    · skip
      exact (iv_emp (iv_eqa (l := 2) (h := 1) c2 hx1 (iv_lit (l := 2) (h := 2) (by decide)) (by decide)) (by decide)).elim
    · skip
      exact (iv_emp (iv_eqa (l := 3) (h := 1) c2 hx1 (iv_lit (l := 3) (h := 3) (by decide)) (by decide)) (by decide)).elim
    · skip
      exact (iv_emp (iv_eqa (l := 4) (h := 1) c2 hx1 (iv_lit (l := 4) (h := 4) (by decide)) (by decide)) (by decide)).elim
    · skip
      exact (iv_emp (iv_eqa (l := 5) (h := 1) c2 hx1 (iv_lit (l := 5) (h := 5) (by decide)) (by decide)) (by decide)).elim
    · skip
      exact (iv_emp (iv_eqa (l := 6) (h := 1) c2 hx1 (iv_lit (l := 6) (h := 6) (by decide)) (by decide)) (by decide)).elim
    · skip
      exact (iv_emp (iv_eqa (l := 7) (h := 1) c2 hx1 (iv_lit (l := 7) (h := 7) (by decide)) (by decide)) (by decide)).elim
    · skip
      exact (iv_emp (iv_eqa (l := 8) (h := 1) c2 hx1 (iv_lit (l := 8) (h := 8) (by decide)) (by decide)) (by decide)).elim
set_option maxRecDepth 20000 in
theorem s_tell_2 {lf_huts : Int32} {lf_singers : Int32} {lf_villages : Int32} {lf_dams : Int32} {lf_echoes : Int32} {lf_deep : Int32} {lf_slide : Int32} {la_heights : Nat → Int32} {la_ladders : Nat → Int32} {la_minutes : Nat → Int32} {la_echoFrom : Nat → Int32} {la_echoTo : Nat → Int32} {la_homes : Nat → Int32} {la_talls : Nat → Int32} {la_known : Nat → Int32} {vf_deeds : Int32} {va_kinds : Nat → Int32} {va_firsts : Nat → Int32} {va_seconds : Nat → Int32} {sf_facts : Int32} {sa_heard : Nat → Int32} {sa_huts : Nat → Int32} {sa_minutes : Nat → Int32} {cf_voices : Int32} {cf_step : Int32} {ca_parts : Nat → Int32} {ca_heights : Nat → Int32} {a_numbers : Nat → Int32} {f_hutsToldOf : Int32} {f_singersToldOf : Int32} {x1 : Int32} {post : (Int32) → (Int32) → (Int32) → (Int32) → (Int32) → (Int32) → (Int32) → (Nat → Int32) → (Nat → Int32) → (Nat → Int32) → (Nat → Int32) → (Nat → Int32) → (Nat → Int32) → (Nat → Int32) → (Nat → Int32) → (Int32) → (Nat → Int32) → (Nat → Int32) → (Nat → Int32) → (Int32) → (Nat → Int32) → (Nat → Int32) → (Nat → Int32) → (Int32) → (Int32) → (Nat → Int32) → (Nat → Int32) → (Int32) → (Int32) → Prop} (k_lf_huts : iv 0 9 lf_huts) (k_lf_singers : iv 0 6 lf_singers) (k_lf_villages : iv 0 511 lf_villages) (k_lf_dams : iv 0 511 lf_dams) (k_lf_echoes : iv 0 4 lf_echoes) (k_lf_deep : iv 1 9 lf_deep) (k_lf_slide : iv 0 10 lf_slide) (k_la_heights : ∀ j, iv 0 99 (la_heights j)) (k_la_ladders : ∀ j, iv 0 9 (la_ladders j)) (k_la_minutes : ∀ j, iv 0 9 (la_minutes j)) (k_la_echoFrom : ∀ j, iv 0 8 (la_echoFrom j)) (k_la_echoTo : ∀ j, iv 0 8 (la_echoTo j)) (k_la_homes : ∀ j, iv 0 8 (la_homes j)) (k_la_talls : ∀ j, iv 0 9 (la_talls j)) (k_la_known : ∀ j, iv 0 31 (la_known j)) (k_vf_deeds : iv 0 40 vf_deeds) (k_va_kinds : ∀ j, iv 0 5 (va_kinds j)) (k_va_firsts : ∀ j, iv 0 5 (va_firsts j)) (k_va_seconds : ∀ j, iv (-1) 8 (va_seconds j)) (k_sf_facts : iv 0 10 sf_facts) (k_sa_heard : ∀ j, iv 0 1 (sa_heard j)) (k_sa_huts : ∀ j, iv 0 8 (sa_huts j)) (k_sa_minutes : ∀ j, iv 0 60 (sa_minutes j)) (k_cf_voices : iv 0 9 cf_voices) (k_cf_step : iv 0 9 cf_step) (k_ca_parts : ∀ j, iv 0 3 (ca_parts j)) (k_ca_heights : ∀ j, iv 0 9 (ca_heights j)) (hx1 : iv 2 2 x1) (hn0 : iv 0 8 (a_numbers (Int32.toNatClampNeg (0 : Int32)))) (hpost : ∀ (lf_huts : Int32) (lf_singers : Int32) (lf_villages : Int32) (lf_dams : Int32) (lf_echoes : Int32) (lf_deep : Int32) (lf_slide : Int32) (la_heights : Nat → Int32) (la_ladders : Nat → Int32) (la_minutes : Nat → Int32) (la_echoFrom : Nat → Int32) (la_echoTo : Nat → Int32) (la_homes : Nat → Int32) (la_talls : Nat → Int32) (la_known : Nat → Int32) (vf_deeds : Int32) (va_kinds : Nat → Int32) (va_firsts : Nat → Int32) (va_seconds : Nat → Int32) (sf_facts : Int32) (sa_heard : Nat → Int32) (sa_huts : Nat → Int32) (sa_minutes : Nat → Int32) (cf_voices : Int32) (cf_step : Int32) (ca_parts : Nat → Int32) (ca_heights : Nat → Int32) (f_hutsToldOf : Int32) (f_singersToldOf : Int32), (iv 0 9 lf_huts) → (iv 0 6 lf_singers) → (iv 0 511 lf_villages) → (iv 0 511 lf_dams) → (iv 0 4 lf_echoes) → (iv 1 9 lf_deep) → (iv 0 10 lf_slide) → (∀ j, iv 0 99 (la_heights j)) → (∀ j, iv 0 9 (la_ladders j)) → (∀ j, iv 0 9 (la_minutes j)) → (∀ j, iv 0 8 (la_echoFrom j)) → (∀ j, iv 0 8 (la_echoTo j)) → (∀ j, iv 0 8 (la_homes j)) → (∀ j, iv 0 9 (la_talls j)) → (∀ j, iv 0 31 (la_known j)) → (iv 0 40 vf_deeds) → (∀ j, iv 0 5 (va_kinds j)) → (∀ j, iv 0 5 (va_firsts j)) → (∀ j, iv (-1) 8 (va_seconds j)) → (iv 0 10 sf_facts) → (∀ j, iv 0 1 (sa_heard j)) → (∀ j, iv 0 8 (sa_huts j)) → (∀ j, iv 0 60 (sa_minutes j)) → (iv 0 9 cf_voices) → (iv 0 9 cf_step) → (∀ j, iv 0 3 (ca_parts j)) → (∀ j, iv 0 9 (ca_heights j)) → post lf_huts lf_singers lf_villages lf_dams lf_echoes lf_deep lf_slide la_heights la_ladders la_minutes la_echoFrom la_echoTo la_homes la_talls la_known vf_deeds va_kinds va_firsts va_seconds sf_facts sa_heard sa_huts sa_minutes cf_voices cf_step ca_parts ca_heights f_hutsToldOf f_singersToldOf) : q_wr_X4_tell_0 lf_huts lf_singers lf_villages lf_dams lf_echoes lf_deep lf_slide la_heights la_ladders la_minutes la_echoFrom la_echoTo la_homes la_talls la_known vf_deeds va_kinds va_firsts va_seconds sf_facts sa_heard sa_huts sa_minutes cf_voices cf_step ca_parts ca_heights a_numbers f_hutsToldOf f_singersToldOf x1 post := by
  refine ⟨fun c1 => ?_, fun c1 => ?_⟩
  · skip
    exact (iv_emp (iv_lea (l := 10) (h := 2) (r_le c1) (iv_lit (l := 10) (h := 10) (by decide)) hx1 (by decide)) (by decide)).elim
  · skip
    refine ⟨fun c2 => ?_, fun c2 => ?_, fun c2 => ?_, fun c2 => ?_, fun c2 => ?_, fun c2 => ?_, fun c2 => ?_, fun c2 => ?_, fun c2 => ?_, fun c2 => ?_⟩
    · skip
      exact (iv_sw c2 hx1 (by decide)).elim
    · skip
      exact (iv_emp (iv_eqa (l := 2) (h := 0) c2 hx1 (iv_lit (l := 0) (h := 0) (by decide)) (by decide)) (by decide)).elim
    · skip
      exact (iv_emp (iv_eqa (l := 2) (h := 1) c2 hx1 (iv_lit (l := 1) (h := 1) (by decide)) (by decide)) (by decide)).elim
    · skip
      intro w3 ew3
      have hw3 := iv_eq ew3 (iv_or 9 (l := 0) (h := 511) k_lf_dams (iv_shl1 (l := 1) (h := 256) (iv_lit (l := 1) (h := 1) (by decide)) hn0 (by decide)) (by decide))
      intro w4 ew4
      exact hpost _ _ _ _ _ _ _ _ _ _ _ _ _ _ _ _ _ _ _ _ _ _ _ _ _ _ _ _ _ k_lf_huts k_lf_singers k_lf_villages hw3 k_lf_echoes k_lf_deep k_lf_slide k_la_heights k_la_ladders k_la_minutes k_la_echoFrom k_la_echoTo k_la_homes k_la_talls k_la_known k_vf_deeds k_va_kinds k_va_firsts k_va_seconds k_sf_facts k_sa_heard k_sa_huts k_sa_minutes k_cf_voices k_cf_step k_ca_parts k_ca_heights
    · skip
      exact (iv_emp (iv_eqa (l := 3) (h := 2) c2 hx1 (iv_lit (l := 3) (h := 3) (by decide)) (by decide)) (by decide)).elim
    · skip
      exact (iv_emp (iv_eqa (l := 4) (h := 2) c2 hx1 (iv_lit (l := 4) (h := 4) (by decide)) (by decide)) (by decide)).elim
    · skip
      exact (iv_emp (iv_eqa (l := 5) (h := 2) c2 hx1 (iv_lit (l := 5) (h := 5) (by decide)) (by decide)) (by decide)).elim
    · skip
      exact (iv_emp (iv_eqa (l := 6) (h := 2) c2 hx1 (iv_lit (l := 6) (h := 6) (by decide)) (by decide)) (by decide)).elim
    · skip
      exact (iv_emp (iv_eqa (l := 7) (h := 2) c2 hx1 (iv_lit (l := 7) (h := 7) (by decide)) (by decide)) (by decide)).elim
    · skip
      exact (iv_emp (iv_eqa (l := 8) (h := 2) c2 hx1 (iv_lit (l := 8) (h := 8) (by decide)) (by decide)) (by decide)).elim
set_option maxRecDepth 20000 in
theorem s_tell_3 {lf_huts : Int32} {lf_singers : Int32} {lf_villages : Int32} {lf_dams : Int32} {lf_echoes : Int32} {lf_deep : Int32} {lf_slide : Int32} {la_heights : Nat → Int32} {la_ladders : Nat → Int32} {la_minutes : Nat → Int32} {la_echoFrom : Nat → Int32} {la_echoTo : Nat → Int32} {la_homes : Nat → Int32} {la_talls : Nat → Int32} {la_known : Nat → Int32} {vf_deeds : Int32} {va_kinds : Nat → Int32} {va_firsts : Nat → Int32} {va_seconds : Nat → Int32} {sf_facts : Int32} {sa_heard : Nat → Int32} {sa_huts : Nat → Int32} {sa_minutes : Nat → Int32} {cf_voices : Int32} {cf_step : Int32} {ca_parts : Nat → Int32} {ca_heights : Nat → Int32} {a_numbers : Nat → Int32} {f_hutsToldOf : Int32} {f_singersToldOf : Int32} {x1 : Int32} {post : (Int32) → (Int32) → (Int32) → (Int32) → (Int32) → (Int32) → (Int32) → (Nat → Int32) → (Nat → Int32) → (Nat → Int32) → (Nat → Int32) → (Nat → Int32) → (Nat → Int32) → (Nat → Int32) → (Nat → Int32) → (Int32) → (Nat → Int32) → (Nat → Int32) → (Nat → Int32) → (Int32) → (Nat → Int32) → (Nat → Int32) → (Nat → Int32) → (Int32) → (Int32) → (Nat → Int32) → (Nat → Int32) → (Int32) → (Int32) → Prop} (k_lf_huts : iv 0 9 lf_huts) (k_lf_singers : iv 0 6 lf_singers) (k_lf_villages : iv 0 511 lf_villages) (k_lf_dams : iv 0 511 lf_dams) (k_lf_echoes : iv 0 4 lf_echoes) (k_lf_deep : iv 1 9 lf_deep) (k_lf_slide : iv 0 10 lf_slide) (k_la_heights : ∀ j, iv 0 99 (la_heights j)) (k_la_ladders : ∀ j, iv 0 9 (la_ladders j)) (k_la_minutes : ∀ j, iv 0 9 (la_minutes j)) (k_la_echoFrom : ∀ j, iv 0 8 (la_echoFrom j)) (k_la_echoTo : ∀ j, iv 0 8 (la_echoTo j)) (k_la_homes : ∀ j, iv 0 8 (la_homes j)) (k_la_talls : ∀ j, iv 0 9 (la_talls j)) (k_la_known : ∀ j, iv 0 31 (la_known j)) (k_vf_deeds : iv 0 40 vf_deeds) (k_va_kinds : ∀ j, iv 0 5 (va_kinds j)) (k_va_firsts : ∀ j, iv 0 5 (va_firsts j)) (k_va_seconds : ∀ j, iv (-1) 8 (va_seconds j)) (k_sf_facts : iv 0 10 sf_facts) (k_sa_heard : ∀ j, iv 0 1 (sa_heard j)) (k_sa_huts : ∀ j, iv 0 8 (sa_huts j)) (k_sa_minutes : ∀ j, iv 0 60 (sa_minutes j)) (k_cf_voices : iv 0 9 cf_voices) (k_cf_step : iv 0 9 cf_step) (k_ca_parts : ∀ j, iv 0 3 (ca_parts j)) (k_ca_heights : ∀ j, iv 0 9 (ca_heights j)) (hx1 : iv 3 3 x1) (hn0 : iv 1 9 (a_numbers (Int32.toNatClampNeg (0 : Int32)))) (hpost : ∀ (lf_huts : Int32) (lf_singers : Int32) (lf_villages : Int32) (lf_dams : Int32) (lf_echoes : Int32) (lf_deep : Int32) (lf_slide : Int32) (la_heights : Nat → Int32) (la_ladders : Nat → Int32) (la_minutes : Nat → Int32) (la_echoFrom : Nat → Int32) (la_echoTo : Nat → Int32) (la_homes : Nat → Int32) (la_talls : Nat → Int32) (la_known : Nat → Int32) (vf_deeds : Int32) (va_kinds : Nat → Int32) (va_firsts : Nat → Int32) (va_seconds : Nat → Int32) (sf_facts : Int32) (sa_heard : Nat → Int32) (sa_huts : Nat → Int32) (sa_minutes : Nat → Int32) (cf_voices : Int32) (cf_step : Int32) (ca_parts : Nat → Int32) (ca_heights : Nat → Int32) (f_hutsToldOf : Int32) (f_singersToldOf : Int32), (iv 0 9 lf_huts) → (iv 0 6 lf_singers) → (iv 0 511 lf_villages) → (iv 0 511 lf_dams) → (iv 0 4 lf_echoes) → (iv 1 9 lf_deep) → (iv 0 10 lf_slide) → (∀ j, iv 0 99 (la_heights j)) → (∀ j, iv 0 9 (la_ladders j)) → (∀ j, iv 0 9 (la_minutes j)) → (∀ j, iv 0 8 (la_echoFrom j)) → (∀ j, iv 0 8 (la_echoTo j)) → (∀ j, iv 0 8 (la_homes j)) → (∀ j, iv 0 9 (la_talls j)) → (∀ j, iv 0 31 (la_known j)) → (iv 0 40 vf_deeds) → (∀ j, iv 0 5 (va_kinds j)) → (∀ j, iv 0 5 (va_firsts j)) → (∀ j, iv (-1) 8 (va_seconds j)) → (iv 0 10 sf_facts) → (∀ j, iv 0 1 (sa_heard j)) → (∀ j, iv 0 8 (sa_huts j)) → (∀ j, iv 0 60 (sa_minutes j)) → (iv 0 9 cf_voices) → (iv 0 9 cf_step) → (∀ j, iv 0 3 (ca_parts j)) → (∀ j, iv 0 9 (ca_heights j)) → post lf_huts lf_singers lf_villages lf_dams lf_echoes lf_deep lf_slide la_heights la_ladders la_minutes la_echoFrom la_echoTo la_homes la_talls la_known vf_deeds va_kinds va_firsts va_seconds sf_facts sa_heard sa_huts sa_minutes cf_voices cf_step ca_parts ca_heights f_hutsToldOf f_singersToldOf) : q_wr_X4_tell_0 lf_huts lf_singers lf_villages lf_dams lf_echoes lf_deep lf_slide la_heights la_ladders la_minutes la_echoFrom la_echoTo la_homes la_talls la_known vf_deeds va_kinds va_firsts va_seconds sf_facts sa_heard sa_huts sa_minutes cf_voices cf_step ca_parts ca_heights a_numbers f_hutsToldOf f_singersToldOf x1 post := by
  refine ⟨fun c1 => ?_, fun c1 => ?_⟩
  · skip
    exact (iv_emp (iv_lea (l := 10) (h := 3) (r_le c1) (iv_lit (l := 10) (h := 10) (by decide)) hx1 (by decide)) (by decide)).elim
  · skip
    refine ⟨fun c2 => ?_, fun c2 => ?_, fun c2 => ?_, fun c2 => ?_, fun c2 => ?_, fun c2 => ?_, fun c2 => ?_, fun c2 => ?_, fun c2 => ?_, fun c2 => ?_⟩
    · skip
      exact (iv_sw c2 hx1 (by decide)).elim
    · skip
      exact (iv_emp (iv_eqa (l := 3) (h := 0) c2 hx1 (iv_lit (l := 0) (h := 0) (by decide)) (by decide)) (by decide)).elim
    · skip
      exact (iv_emp (iv_eqa (l := 3) (h := 1) c2 hx1 (iv_lit (l := 1) (h := 1) (by decide)) (by decide)) (by decide)).elim
    · skip
      exact (iv_emp (iv_eqa (l := 3) (h := 2) c2 hx1 (iv_lit (l := 2) (h := 2) (by decide)) (by decide)) (by decide)).elim
    · skip
      exact hpost _ _ _ _ _ _ _ _ _ _ _ _ _ _ _ _ _ _ _ _ _ _ _ _ _ _ _ _ _ k_lf_huts k_lf_singers k_lf_villages k_lf_dams k_lf_echoes hn0 k_lf_slide k_la_heights k_la_ladders k_la_minutes k_la_echoFrom k_la_echoTo k_la_homes k_la_talls k_la_known k_vf_deeds k_va_kinds k_va_firsts k_va_seconds k_sf_facts k_sa_heard k_sa_huts k_sa_minutes k_cf_voices k_cf_step k_ca_parts k_ca_heights
    · skip
      exact (iv_emp (iv_eqa (l := 4) (h := 3) c2 hx1 (iv_lit (l := 4) (h := 4) (by decide)) (by decide)) (by decide)).elim
    · skip
      exact (iv_emp (iv_eqa (l := 5) (h := 3) c2 hx1 (iv_lit (l := 5) (h := 5) (by decide)) (by decide)) (by decide)).elim
    · skip
      exact (iv_emp (iv_eqa (l := 6) (h := 3) c2 hx1 (iv_lit (l := 6) (h := 6) (by decide)) (by decide)) (by decide)).elim
    · skip
      exact (iv_emp (iv_eqa (l := 7) (h := 3) c2 hx1 (iv_lit (l := 7) (h := 7) (by decide)) (by decide)) (by decide)).elim
    · skip
      exact (iv_emp (iv_eqa (l := 8) (h := 3) c2 hx1 (iv_lit (l := 8) (h := 8) (by decide)) (by decide)) (by decide)).elim
set_option maxRecDepth 20000 in
theorem s_tell_4 {lf_huts : Int32} {lf_singers : Int32} {lf_villages : Int32} {lf_dams : Int32} {lf_echoes : Int32} {lf_deep : Int32} {lf_slide : Int32} {la_heights : Nat → Int32} {la_ladders : Nat → Int32} {la_minutes : Nat → Int32} {la_echoFrom : Nat → Int32} {la_echoTo : Nat → Int32} {la_homes : Nat → Int32} {la_talls : Nat → Int32} {la_known : Nat → Int32} {vf_deeds : Int32} {va_kinds : Nat → Int32} {va_firsts : Nat → Int32} {va_seconds : Nat → Int32} {sf_facts : Int32} {sa_heard : Nat → Int32} {sa_huts : Nat → Int32} {sa_minutes : Nat → Int32} {cf_voices : Int32} {cf_step : Int32} {ca_parts : Nat → Int32} {ca_heights : Nat → Int32} {a_numbers : Nat → Int32} {f_hutsToldOf : Int32} {f_singersToldOf : Int32} {x1 : Int32} {post : (Int32) → (Int32) → (Int32) → (Int32) → (Int32) → (Int32) → (Int32) → (Nat → Int32) → (Nat → Int32) → (Nat → Int32) → (Nat → Int32) → (Nat → Int32) → (Nat → Int32) → (Nat → Int32) → (Nat → Int32) → (Int32) → (Nat → Int32) → (Nat → Int32) → (Nat → Int32) → (Int32) → (Nat → Int32) → (Nat → Int32) → (Nat → Int32) → (Int32) → (Int32) → (Nat → Int32) → (Nat → Int32) → (Int32) → (Int32) → Prop} (k_lf_huts : iv 0 9 lf_huts) (k_lf_singers : iv 0 6 lf_singers) (k_lf_villages : iv 0 511 lf_villages) (k_lf_dams : iv 0 511 lf_dams) (k_lf_echoes : iv 0 4 lf_echoes) (k_lf_deep : iv 1 9 lf_deep) (k_lf_slide : iv 0 10 lf_slide) (k_la_heights : ∀ j, iv 0 99 (la_heights j)) (k_la_ladders : ∀ j, iv 0 9 (la_ladders j)) (k_la_minutes : ∀ j, iv 0 9 (la_minutes j)) (k_la_echoFrom : ∀ j, iv 0 8 (la_echoFrom j)) (k_la_echoTo : ∀ j, iv 0 8 (la_echoTo j)) (k_la_homes : ∀ j, iv 0 8 (la_homes j)) (k_la_talls : ∀ j, iv 0 9 (la_talls j)) (k_la_known : ∀ j, iv 0 31 (la_known j)) (k_vf_deeds : iv 0 40 vf_deeds) (k_va_kinds : ∀ j, iv 0 5 (va_kinds j)) (k_va_firsts : ∀ j, iv 0 5 (va_firsts j)) (k_va_seconds : ∀ j, iv (-1) 8 (va_seconds j)) (k_sf_facts : iv 0 10 sf_facts) (k_sa_heard : ∀ j, iv 0 1 (sa_heard j)) (k_sa_huts : ∀ j, iv 0 8 (sa_huts j)) (k_sa_minutes : ∀ j, iv 0 60 (sa_minutes j)) (k_cf_voices : iv 0 9 cf_voices) (k_cf_step : iv 0 9 cf_step) (k_ca_parts : ∀ j, iv 0 3 (ca_parts j)) (k_ca_heights : ∀ j, iv 0 9 (ca_heights j)) (hx1 : iv 4 4 x1) (hn0 : iv 0 10 (a_numbers (Int32.toNatClampNeg (0 : Int32)))) (hpost : ∀ (lf_huts : Int32) (lf_singers : Int32) (lf_villages : Int32) (lf_dams : Int32) (lf_echoes : Int32) (lf_deep : Int32) (lf_slide : Int32) (la_heights : Nat → Int32) (la_ladders : Nat → Int32) (la_minutes : Nat → Int32) (la_echoFrom : Nat → Int32) (la_echoTo : Nat → Int32) (la_homes : Nat → Int32) (la_talls : Nat → Int32) (la_known : Nat → Int32) (vf_deeds : Int32) (va_kinds : Nat → Int32) (va_firsts : Nat → Int32) (va_seconds : Nat → Int32) (sf_facts : Int32) (sa_heard : Nat → Int32) (sa_huts : Nat → Int32) (sa_minutes : Nat → Int32) (cf_voices : Int32) (cf_step : Int32) (ca_parts : Nat → Int32) (ca_heights : Nat → Int32) (f_hutsToldOf : Int32) (f_singersToldOf : Int32), (iv 0 9 lf_huts) → (iv 0 6 lf_singers) → (iv 0 511 lf_villages) → (iv 0 511 lf_dams) → (iv 0 4 lf_echoes) → (iv 1 9 lf_deep) → (iv 0 10 lf_slide) → (∀ j, iv 0 99 (la_heights j)) → (∀ j, iv 0 9 (la_ladders j)) → (∀ j, iv 0 9 (la_minutes j)) → (∀ j, iv 0 8 (la_echoFrom j)) → (∀ j, iv 0 8 (la_echoTo j)) → (∀ j, iv 0 8 (la_homes j)) → (∀ j, iv 0 9 (la_talls j)) → (∀ j, iv 0 31 (la_known j)) → (iv 0 40 vf_deeds) → (∀ j, iv 0 5 (va_kinds j)) → (∀ j, iv 0 5 (va_firsts j)) → (∀ j, iv (-1) 8 (va_seconds j)) → (iv 0 10 sf_facts) → (∀ j, iv 0 1 (sa_heard j)) → (∀ j, iv 0 8 (sa_huts j)) → (∀ j, iv 0 60 (sa_minutes j)) → (iv 0 9 cf_voices) → (iv 0 9 cf_step) → (∀ j, iv 0 3 (ca_parts j)) → (∀ j, iv 0 9 (ca_heights j)) → post lf_huts lf_singers lf_villages lf_dams lf_echoes lf_deep lf_slide la_heights la_ladders la_minutes la_echoFrom la_echoTo la_homes la_talls la_known vf_deeds va_kinds va_firsts va_seconds sf_facts sa_heard sa_huts sa_minutes cf_voices cf_step ca_parts ca_heights f_hutsToldOf f_singersToldOf) : q_wr_X4_tell_0 lf_huts lf_singers lf_villages lf_dams lf_echoes lf_deep lf_slide la_heights la_ladders la_minutes la_echoFrom la_echoTo la_homes la_talls la_known vf_deeds va_kinds va_firsts va_seconds sf_facts sa_heard sa_huts sa_minutes cf_voices cf_step ca_parts ca_heights a_numbers f_hutsToldOf f_singersToldOf x1 post := by
  refine ⟨fun c1 => ?_, fun c1 => ?_⟩
  · skip
    exact (iv_emp (iv_lea (l := 10) (h := 4) (r_le c1) (iv_lit (l := 10) (h := 10) (by decide)) hx1 (by decide)) (by decide)).elim
  · skip
    refine ⟨fun c2 => ?_, fun c2 => ?_, fun c2 => ?_, fun c2 => ?_, fun c2 => ?_, fun c2 => ?_, fun c2 => ?_, fun c2 => ?_, fun c2 => ?_, fun c2 => ?_⟩
    · skip
      exact (iv_sw c2 hx1 (by decide)).elim
    · skip
      exact (iv_emp (iv_eqa (l := 4) (h := 0) c2 hx1 (iv_lit (l := 0) (h := 0) (by decide)) (by decide)) (by decide)).elim
    · skip
      exact (iv_emp (iv_eqa (l := 4) (h := 1) c2 hx1 (iv_lit (l := 1) (h := 1) (by decide)) (by decide)) (by decide)).elim
    · skip
      exact (iv_emp (iv_eqa (l := 4) (h := 2) c2 hx1 (iv_lit (l := 2) (h := 2) (by decide)) (by decide)) (by decide)).elim
    · skip
      exact (iv_emp (iv_eqa (l := 4) (h := 3) c2 hx1 (iv_lit (l := 3) (h := 3) (by decide)) (by decide)) (by decide)).elim
    · skip
      exact hpost _ _ _ _ _ _ _ _ _ _ _ _ _ _ _ _ _ _ _ _ _ _ _ _ _ _ _ _ _ k_lf_huts k_lf_singers k_lf_villages k_lf_dams k_lf_echoes k_lf_deep hn0 k_la_heights k_la_ladders k_la_minutes k_la_echoFrom k_la_echoTo k_la_homes k_la_talls k_la_known k_vf_deeds k_va_kinds k_va_firsts k_va_seconds k_sf_facts k_sa_heard k_sa_huts k_sa_minutes k_cf_voices k_cf_step k_ca_parts k_ca_heights
    · skip
      exact (iv_emp (iv_eqa (l := 5) (h := 4) c2 hx1 (iv_lit (l := 5) (h := 5) (by decide)) (by decide)) (by decide)).elim
    · skip
      exact (iv_emp (iv_eqa (l := 6) (h := 4) c2 hx1 (iv_lit (l := 6) (h := 6) (by decide)) (by decide)) (by decide)).elim
    · skip
      exact (iv_emp (iv_eqa (l := 7) (h := 4) c2 hx1 (iv_lit (l := 7) (h := 7) (by decide)) (by decide)) (by decide)).elim
    · skip
      exact (iv_emp (iv_eqa (l := 8) (h := 4) c2 hx1 (iv_lit (l := 8) (h := 8) (by decide)) (by decide)) (by decide)).elim
set_option maxRecDepth 20000 in
theorem s_tell_5 {lf_huts : Int32} {lf_singers : Int32} {lf_villages : Int32} {lf_dams : Int32} {lf_echoes : Int32} {lf_deep : Int32} {lf_slide : Int32} {la_heights : Nat → Int32} {la_ladders : Nat → Int32} {la_minutes : Nat → Int32} {la_echoFrom : Nat → Int32} {la_echoTo : Nat → Int32} {la_homes : Nat → Int32} {la_talls : Nat → Int32} {la_known : Nat → Int32} {vf_deeds : Int32} {va_kinds : Nat → Int32} {va_firsts : Nat → Int32} {va_seconds : Nat → Int32} {sf_facts : Int32} {sa_heard : Nat → Int32} {sa_huts : Nat → Int32} {sa_minutes : Nat → Int32} {cf_voices : Int32} {cf_step : Int32} {ca_parts : Nat → Int32} {ca_heights : Nat → Int32} {a_numbers : Nat → Int32} {f_hutsToldOf : Int32} {f_singersToldOf : Int32} {x1 : Int32} {post : (Int32) → (Int32) → (Int32) → (Int32) → (Int32) → (Int32) → (Int32) → (Nat → Int32) → (Nat → Int32) → (Nat → Int32) → (Nat → Int32) → (Nat → Int32) → (Nat → Int32) → (Nat → Int32) → (Nat → Int32) → (Int32) → (Nat → Int32) → (Nat → Int32) → (Nat → Int32) → (Int32) → (Nat → Int32) → (Nat → Int32) → (Nat → Int32) → (Int32) → (Int32) → (Nat → Int32) → (Nat → Int32) → (Int32) → (Int32) → Prop} (k_lf_huts : iv 0 9 lf_huts) (k_lf_singers : iv 0 6 lf_singers) (k_lf_villages : iv 0 511 lf_villages) (k_lf_dams : iv 0 511 lf_dams) (k_lf_echoes : iv 0 4 lf_echoes) (k_lf_deep : iv 1 9 lf_deep) (k_lf_slide : iv 0 10 lf_slide) (k_la_heights : ∀ j, iv 0 99 (la_heights j)) (k_la_ladders : ∀ j, iv 0 9 (la_ladders j)) (k_la_minutes : ∀ j, iv 0 9 (la_minutes j)) (k_la_echoFrom : ∀ j, iv 0 8 (la_echoFrom j)) (k_la_echoTo : ∀ j, iv 0 8 (la_echoTo j)) (k_la_homes : ∀ j, iv 0 8 (la_homes j)) (k_la_talls : ∀ j, iv 0 9 (la_talls j)) (k_la_known : ∀ j, iv 0 31 (la_known j)) (k_vf_deeds : iv 0 40 vf_deeds) (k_va_kinds : ∀ j, iv 0 5 (va_kinds j)) (k_va_firsts : ∀ j, iv 0 5 (va_firsts j)) (k_va_seconds : ∀ j, iv (-1) 8 (va_seconds j)) (k_sf_facts : iv 0 10 sf_facts) (k_sa_heard : ∀ j, iv 0 1 (sa_heard j)) (k_sa_huts : ∀ j, iv 0 8 (sa_huts j)) (k_sa_minutes : ∀ j, iv 0 60 (sa_minutes j)) (k_cf_voices : iv 0 9 cf_voices) (k_cf_step : iv 0 9 cf_step) (k_ca_parts : ∀ j, iv 0 3 (ca_parts j)) (k_ca_heights : ∀ j, iv 0 9 (ca_heights j)) (hx1 : iv 5 5 x1) (hn0 : iv 0 8 (a_numbers (Int32.toNatClampNeg (0 : Int32)))) (hn1 : iv 0 8 (a_numbers (Int32.toNatClampNeg (1 : Int32)))) (hn2 : iv 1 9 (a_numbers (Int32.toNatClampNeg (2 : Int32)))) (hpost : ∀ (lf_huts : Int32) (lf_singers : Int32) (lf_villages : Int32) (lf_dams : Int32) (lf_echoes : Int32) (lf_deep : Int32) (lf_slide : Int32) (la_heights : Nat → Int32) (la_ladders : Nat → Int32) (la_minutes : Nat → Int32) (la_echoFrom : Nat → Int32) (la_echoTo : Nat → Int32) (la_homes : Nat → Int32) (la_talls : Nat → Int32) (la_known : Nat → Int32) (vf_deeds : Int32) (va_kinds : Nat → Int32) (va_firsts : Nat → Int32) (va_seconds : Nat → Int32) (sf_facts : Int32) (sa_heard : Nat → Int32) (sa_huts : Nat → Int32) (sa_minutes : Nat → Int32) (cf_voices : Int32) (cf_step : Int32) (ca_parts : Nat → Int32) (ca_heights : Nat → Int32) (f_hutsToldOf : Int32) (f_singersToldOf : Int32), (iv 0 9 lf_huts) → (iv 0 6 lf_singers) → (iv 0 511 lf_villages) → (iv 0 511 lf_dams) → (iv 0 4 lf_echoes) → (iv 1 9 lf_deep) → (iv 0 10 lf_slide) → (∀ j, iv 0 99 (la_heights j)) → (∀ j, iv 0 9 (la_ladders j)) → (∀ j, iv 0 9 (la_minutes j)) → (∀ j, iv 0 8 (la_echoFrom j)) → (∀ j, iv 0 8 (la_echoTo j)) → (∀ j, iv 0 8 (la_homes j)) → (∀ j, iv 0 9 (la_talls j)) → (∀ j, iv 0 31 (la_known j)) → (iv 0 40 vf_deeds) → (∀ j, iv 0 5 (va_kinds j)) → (∀ j, iv 0 5 (va_firsts j)) → (∀ j, iv (-1) 8 (va_seconds j)) → (iv 0 10 sf_facts) → (∀ j, iv 0 1 (sa_heard j)) → (∀ j, iv 0 8 (sa_huts j)) → (∀ j, iv 0 60 (sa_minutes j)) → (iv 0 9 cf_voices) → (iv 0 9 cf_step) → (∀ j, iv 0 3 (ca_parts j)) → (∀ j, iv 0 9 (ca_heights j)) → post lf_huts lf_singers lf_villages lf_dams lf_echoes lf_deep lf_slide la_heights la_ladders la_minutes la_echoFrom la_echoTo la_homes la_talls la_known vf_deeds va_kinds va_firsts va_seconds sf_facts sa_heard sa_huts sa_minutes cf_voices cf_step ca_parts ca_heights f_hutsToldOf f_singersToldOf) : q_wr_X4_tell_0 lf_huts lf_singers lf_villages lf_dams lf_echoes lf_deep lf_slide la_heights la_ladders la_minutes la_echoFrom la_echoTo la_homes la_talls la_known vf_deeds va_kinds va_firsts va_seconds sf_facts sa_heard sa_huts sa_minutes cf_voices cf_step ca_parts ca_heights a_numbers f_hutsToldOf f_singersToldOf x1 post := by
  refine ⟨fun c1 => ?_, fun c1 => ?_⟩
  · skip
    exact (iv_emp (iv_lea (l := 10) (h := 5) (r_le c1) (iv_lit (l := 10) (h := 10) (by decide)) hx1 (by decide)) (by decide)).elim
  · skip
    refine ⟨fun c2 => ?_, fun c2 => ?_, fun c2 => ?_, fun c2 => ?_, fun c2 => ?_, fun c2 => ?_, fun c2 => ?_, fun c2 => ?_, fun c2 => ?_, fun c2 => ?_⟩
    · skip
      exact (iv_sw c2 hx1 (by decide)).elim
    · skip
      exact (iv_emp (iv_eqa (l := 5) (h := 0) c2 hx1 (iv_lit (l := 0) (h := 0) (by decide)) (by decide)) (by decide)).elim
    · skip
      exact (iv_emp (iv_eqa (l := 5) (h := 1) c2 hx1 (iv_lit (l := 1) (h := 1) (by decide)) (by decide)) (by decide)).elim
    · skip
      exact (iv_emp (iv_eqa (l := 5) (h := 2) c2 hx1 (iv_lit (l := 2) (h := 2) (by decide)) (by decide)) (by decide)).elim
    · skip
      exact (iv_emp (iv_eqa (l := 5) (h := 3) c2 hx1 (iv_lit (l := 3) (h := 3) (by decide)) (by decide)) (by decide)).elim
    · skip
      exact (iv_emp (iv_eqa (l := 5) (h := 4) c2 hx1 (iv_lit (l := 4) (h := 4) (by decide)) (by decide)) (by decide)).elim
    · skip
      refine ⟨iv_in (iv_add (l := 0) (h := 80) (iv_mul (l := 0) (h := 72) hn0 (iv_lit (l := 9) (h := 9) (by decide)) (by decide)) hn1 (by decide)) (by decide), ?_⟩
      intro a3 ea3
      have k_a3 := iv_upd ea3 k_la_minutes (iv_w hn2 (by decide))
      refine ⟨iv_in (iv_add (l := 0) (h := 80) (iv_mul (l := 0) (h := 72) hn1 (iv_lit (l := 9) (h := 9) (by decide)) (by decide)) hn0 (by decide)) (by decide), ?_⟩
      intro a4 ea4
      have k_a4 := iv_upd ea4 k_a3 (iv_w hn2 (by decide))
      intro w5 ew5
      exact hpost _ _ _ _ _ _ _ _ _ _ _ _ _ _ _ _ _ _ _ _ _ _ _ _ _ _ _ _ _ k_lf_huts k_lf_singers k_lf_villages k_lf_dams k_lf_echoes k_lf_deep k_lf_slide k_la_heights k_la_ladders k_a4 k_la_echoFrom k_la_echoTo k_la_homes k_la_talls k_la_known k_vf_deeds k_va_kinds k_va_firsts k_va_seconds k_sf_facts k_sa_heard k_sa_huts k_sa_minutes k_cf_voices k_cf_step k_ca_parts k_ca_heights
    · skip
      exact (iv_emp (iv_eqa (l := 6) (h := 5) c2 hx1 (iv_lit (l := 6) (h := 6) (by decide)) (by decide)) (by decide)).elim
    · skip
      exact (iv_emp (iv_eqa (l := 7) (h := 5) c2 hx1 (iv_lit (l := 7) (h := 7) (by decide)) (by decide)) (by decide)).elim
    · skip
      exact (iv_emp (iv_eqa (l := 8) (h := 5) c2 hx1 (iv_lit (l := 8) (h := 8) (by decide)) (by decide)) (by decide)).elim
set_option maxRecDepth 20000 in
theorem s_tell_6 {lf_huts : Int32} {lf_singers : Int32} {lf_villages : Int32} {lf_dams : Int32} {lf_echoes : Int32} {lf_deep : Int32} {lf_slide : Int32} {la_heights : Nat → Int32} {la_ladders : Nat → Int32} {la_minutes : Nat → Int32} {la_echoFrom : Nat → Int32} {la_echoTo : Nat → Int32} {la_homes : Nat → Int32} {la_talls : Nat → Int32} {la_known : Nat → Int32} {vf_deeds : Int32} {va_kinds : Nat → Int32} {va_firsts : Nat → Int32} {va_seconds : Nat → Int32} {sf_facts : Int32} {sa_heard : Nat → Int32} {sa_huts : Nat → Int32} {sa_minutes : Nat → Int32} {cf_voices : Int32} {cf_step : Int32} {ca_parts : Nat → Int32} {ca_heights : Nat → Int32} {a_numbers : Nat → Int32} {f_hutsToldOf : Int32} {f_singersToldOf : Int32} {x1 : Int32} {post : (Int32) → (Int32) → (Int32) → (Int32) → (Int32) → (Int32) → (Int32) → (Nat → Int32) → (Nat → Int32) → (Nat → Int32) → (Nat → Int32) → (Nat → Int32) → (Nat → Int32) → (Nat → Int32) → (Nat → Int32) → (Int32) → (Nat → Int32) → (Nat → Int32) → (Nat → Int32) → (Int32) → (Nat → Int32) → (Nat → Int32) → (Nat → Int32) → (Int32) → (Int32) → (Nat → Int32) → (Nat → Int32) → (Int32) → (Int32) → Prop} (k_lf_huts : iv 0 9 lf_huts) (k_lf_singers : iv 0 6 lf_singers) (k_lf_villages : iv 0 511 lf_villages) (k_lf_dams : iv 0 511 lf_dams) (k_lf_echoes : iv 0 3 lf_echoes) (k_lf_deep : iv 1 9 lf_deep) (k_lf_slide : iv 0 10 lf_slide) (k_la_heights : ∀ j, iv 0 99 (la_heights j)) (k_la_ladders : ∀ j, iv 0 9 (la_ladders j)) (k_la_minutes : ∀ j, iv 0 9 (la_minutes j)) (k_la_echoFrom : ∀ j, iv 0 8 (la_echoFrom j)) (k_la_echoTo : ∀ j, iv 0 8 (la_echoTo j)) (k_la_homes : ∀ j, iv 0 8 (la_homes j)) (k_la_talls : ∀ j, iv 0 9 (la_talls j)) (k_la_known : ∀ j, iv 0 31 (la_known j)) (k_vf_deeds : iv 0 40 vf_deeds) (k_va_kinds : ∀ j, iv 0 5 (va_kinds j)) (k_va_firsts : ∀ j, iv 0 5 (va_firsts j)) (k_va_seconds : ∀ j, iv (-1) 8 (va_seconds j)) (k_sf_facts : iv 0 10 sf_facts) (k_sa_heard : ∀ j, iv 0 1 (sa_heard j)) (k_sa_huts : ∀ j, iv 0 8 (sa_huts j)) (k_sa_minutes : ∀ j, iv 0 60 (sa_minutes j)) (k_cf_voices : iv 0 9 cf_voices) (k_cf_step : iv 0 9 cf_step) (k_ca_parts : ∀ j, iv 0 3 (ca_parts j)) (k_ca_heights : ∀ j, iv 0 9 (ca_heights j)) (hx1 : iv 6 6 x1) (hn0 : iv 0 8 (a_numbers (Int32.toNatClampNeg (0 : Int32)))) (hn1 : iv 0 8 (a_numbers (Int32.toNatClampNeg (1 : Int32)))) (hpost : ∀ (lf_huts : Int32) (lf_singers : Int32) (lf_villages : Int32) (lf_dams : Int32) (lf_echoes : Int32) (lf_deep : Int32) (lf_slide : Int32) (la_heights : Nat → Int32) (la_ladders : Nat → Int32) (la_minutes : Nat → Int32) (la_echoFrom : Nat → Int32) (la_echoTo : Nat → Int32) (la_homes : Nat → Int32) (la_talls : Nat → Int32) (la_known : Nat → Int32) (vf_deeds : Int32) (va_kinds : Nat → Int32) (va_firsts : Nat → Int32) (va_seconds : Nat → Int32) (sf_facts : Int32) (sa_heard : Nat → Int32) (sa_huts : Nat → Int32) (sa_minutes : Nat → Int32) (cf_voices : Int32) (cf_step : Int32) (ca_parts : Nat → Int32) (ca_heights : Nat → Int32) (f_hutsToldOf : Int32) (f_singersToldOf : Int32), (iv 0 9 lf_huts) → (iv 0 6 lf_singers) → (iv 0 511 lf_villages) → (iv 0 511 lf_dams) → (iv 0 4 lf_echoes) → (iv 1 9 lf_deep) → (iv 0 10 lf_slide) → (∀ j, iv 0 99 (la_heights j)) → (∀ j, iv 0 9 (la_ladders j)) → (∀ j, iv 0 9 (la_minutes j)) → (∀ j, iv 0 8 (la_echoFrom j)) → (∀ j, iv 0 8 (la_echoTo j)) → (∀ j, iv 0 8 (la_homes j)) → (∀ j, iv 0 9 (la_talls j)) → (∀ j, iv 0 31 (la_known j)) → (iv 0 40 vf_deeds) → (∀ j, iv 0 5 (va_kinds j)) → (∀ j, iv 0 5 (va_firsts j)) → (∀ j, iv (-1) 8 (va_seconds j)) → (iv 0 10 sf_facts) → (∀ j, iv 0 1 (sa_heard j)) → (∀ j, iv 0 8 (sa_huts j)) → (∀ j, iv 0 60 (sa_minutes j)) → (iv 0 9 cf_voices) → (iv 0 9 cf_step) → (∀ j, iv 0 3 (ca_parts j)) → (∀ j, iv 0 9 (ca_heights j)) → post lf_huts lf_singers lf_villages lf_dams lf_echoes lf_deep lf_slide la_heights la_ladders la_minutes la_echoFrom la_echoTo la_homes la_talls la_known vf_deeds va_kinds va_firsts va_seconds sf_facts sa_heard sa_huts sa_minutes cf_voices cf_step ca_parts ca_heights f_hutsToldOf f_singersToldOf) : q_wr_X4_tell_0 lf_huts lf_singers lf_villages lf_dams lf_echoes lf_deep lf_slide la_heights la_ladders la_minutes la_echoFrom la_echoTo la_homes la_talls la_known vf_deeds va_kinds va_firsts va_seconds sf_facts sa_heard sa_huts sa_minutes cf_voices cf_step ca_parts ca_heights a_numbers f_hutsToldOf f_singersToldOf x1 post := by
  refine ⟨fun c1 => ?_, fun c1 => ?_⟩
  · skip
    exact (iv_emp (iv_lea (l := 10) (h := 6) (r_le c1) (iv_lit (l := 10) (h := 10) (by decide)) hx1 (by decide)) (by decide)).elim
  · skip
    refine ⟨fun c2 => ?_, fun c2 => ?_, fun c2 => ?_, fun c2 => ?_, fun c2 => ?_, fun c2 => ?_, fun c2 => ?_, fun c2 => ?_, fun c2 => ?_, fun c2 => ?_⟩
    · skip
      exact (iv_sw c2 hx1 (by decide)).elim
    · skip
      exact (iv_emp (iv_eqa (l := 6) (h := 0) c2 hx1 (iv_lit (l := 0) (h := 0) (by decide)) (by decide)) (by decide)).elim
    · skip
      exact (iv_emp (iv_eqa (l := 6) (h := 1) c2 hx1 (iv_lit (l := 1) (h := 1) (by decide)) (by decide)) (by decide)).elim
    · skip
      exact (iv_emp (iv_eqa (l := 6) (h := 2) c2 hx1 (iv_lit (l := 2) (h := 2) (by decide)) (by decide)) (by decide)).elim
    · skip
      exact (iv_emp (iv_eqa (l := 6) (h := 3) c2 hx1 (iv_lit (l := 3) (h := 3) (by decide)) (by decide)) (by decide)).elim
    · skip
      exact (iv_emp (iv_eqa (l := 6) (h := 4) c2 hx1 (iv_lit (l := 4) (h := 4) (by decide)) (by decide)) (by decide)).elim
    · skip
      exact (iv_emp (iv_eqa (l := 6) (h := 5) c2 hx1 (iv_lit (l := 5) (h := 5) (by decide)) (by decide)) (by decide)).elim
    · skip
      refine ⟨iv_in k_lf_echoes (by decide), ?_⟩
      intro a3 ea3
      have k_a3 := iv_upd ea3 k_la_echoFrom hn0
      refine ⟨iv_in k_lf_echoes (by decide), ?_⟩
      intro a4 ea4
      have k_a4 := iv_upd ea4 k_la_echoTo hn1
      intro w5 ew5
      have hw5 := iv_eq ew5 (iv_add (l := 1) (h := 4) k_lf_echoes (iv_lit (l := 1) (h := 1) (by decide)) (by decide))
      intro w6 ew6
      exact hpost _ _ _ _ _ _ _ _ _ _ _ _ _ _ _ _ _ _ _ _ _ _ _ _ _ _ _ _ _ k_lf_huts k_lf_singers k_lf_villages k_lf_dams (iv_w hw5 (by decide)) k_lf_deep k_lf_slide k_la_heights k_la_ladders k_la_minutes k_a3 k_a4 k_la_homes k_la_talls k_la_known k_vf_deeds k_va_kinds k_va_firsts k_va_seconds k_sf_facts k_sa_heard k_sa_huts k_sa_minutes k_cf_voices k_cf_step k_ca_parts k_ca_heights
    · skip
      exact (iv_emp (iv_eqa (l := 7) (h := 6) c2 hx1 (iv_lit (l := 7) (h := 7) (by decide)) (by decide)) (by decide)).elim
    · skip
      exact (iv_emp (iv_eqa (l := 8) (h := 6) c2 hx1 (iv_lit (l := 8) (h := 8) (by decide)) (by decide)) (by decide)).elim
set_option maxRecDepth 20000 in
theorem s_tell_7 {lf_huts : Int32} {lf_singers : Int32} {lf_villages : Int32} {lf_dams : Int32} {lf_echoes : Int32} {lf_deep : Int32} {lf_slide : Int32} {la_heights : Nat → Int32} {la_ladders : Nat → Int32} {la_minutes : Nat → Int32} {la_echoFrom : Nat → Int32} {la_echoTo : Nat → Int32} {la_homes : Nat → Int32} {la_talls : Nat → Int32} {la_known : Nat → Int32} {vf_deeds : Int32} {va_kinds : Nat → Int32} {va_firsts : Nat → Int32} {va_seconds : Nat → Int32} {sf_facts : Int32} {sa_heard : Nat → Int32} {sa_huts : Nat → Int32} {sa_minutes : Nat → Int32} {cf_voices : Int32} {cf_step : Int32} {ca_parts : Nat → Int32} {ca_heights : Nat → Int32} {a_numbers : Nat → Int32} {f_hutsToldOf : Int32} {f_singersToldOf : Int32} {x1 : Int32} {post : (Int32) → (Int32) → (Int32) → (Int32) → (Int32) → (Int32) → (Int32) → (Nat → Int32) → (Nat → Int32) → (Nat → Int32) → (Nat → Int32) → (Nat → Int32) → (Nat → Int32) → (Nat → Int32) → (Nat → Int32) → (Int32) → (Nat → Int32) → (Nat → Int32) → (Nat → Int32) → (Int32) → (Nat → Int32) → (Nat → Int32) → (Nat → Int32) → (Int32) → (Int32) → (Nat → Int32) → (Nat → Int32) → (Int32) → (Int32) → Prop} (k_lf_huts : iv 0 9 lf_huts) (k_lf_singers : iv 0 6 lf_singers) (k_lf_villages : iv 0 511 lf_villages) (k_lf_dams : iv 0 511 lf_dams) (k_lf_echoes : iv 0 4 lf_echoes) (k_lf_deep : iv 1 9 lf_deep) (k_lf_slide : iv 0 10 lf_slide) (k_la_heights : ∀ j, iv 0 99 (la_heights j)) (k_la_ladders : ∀ j, iv 0 9 (la_ladders j)) (k_la_minutes : ∀ j, iv 0 9 (la_minutes j)) (k_la_echoFrom : ∀ j, iv 0 8 (la_echoFrom j)) (k_la_echoTo : ∀ j, iv 0 8 (la_echoTo j)) (k_la_homes : ∀ j, iv 0 8 (la_homes j)) (k_la_talls : ∀ j, iv 0 9 (la_talls j)) (k_la_known : ∀ j, iv 0 31 (la_known j)) (k_vf_deeds : iv 0 40 vf_deeds) (k_va_kinds : ∀ j, iv 0 5 (va_kinds j)) (k_va_firsts : ∀ j, iv 0 5 (va_firsts j)) (k_va_seconds : ∀ j, iv (-1) 8 (va_seconds j)) (k_sf_facts : iv 0 10 sf_facts) (k_sa_heard : ∀ j, iv 0 1 (sa_heard j)) (k_sa_huts : ∀ j, iv 0 8 (sa_huts j)) (k_sa_minutes : ∀ j, iv 0 60 (sa_minutes j)) (k_cf_voices : iv 0 9 cf_voices) (k_cf_step : iv 0 9 cf_step) (k_ca_parts : ∀ j, iv 0 3 (ca_parts j)) (k_ca_heights : ∀ j, iv 0 9 (ca_heights j)) (hx1 : iv 7 7 x1) (hn0 : iv 0 8 (a_numbers (Int32.toNatClampNeg (0 : Int32)))) (hn1 : iv 0 9 (a_numbers (Int32.toNatClampNeg (1 : Int32)))) (hpost : ∀ (lf_huts : Int32) (lf_singers : Int32) (lf_villages : Int32) (lf_dams : Int32) (lf_echoes : Int32) (lf_deep : Int32) (lf_slide : Int32) (la_heights : Nat → Int32) (la_ladders : Nat → Int32) (la_minutes : Nat → Int32) (la_echoFrom : Nat → Int32) (la_echoTo : Nat → Int32) (la_homes : Nat → Int32) (la_talls : Nat → Int32) (la_known : Nat → Int32) (vf_deeds : Int32) (va_kinds : Nat → Int32) (va_firsts : Nat → Int32) (va_seconds : Nat → Int32) (sf_facts : Int32) (sa_heard : Nat → Int32) (sa_huts : Nat → Int32) (sa_minutes : Nat → Int32) (cf_voices : Int32) (cf_step : Int32) (ca_parts : Nat → Int32) (ca_heights : Nat → Int32) (f_hutsToldOf : Int32) (f_singersToldOf : Int32), (iv 0 9 lf_huts) → (iv 0 6 lf_singers) → (iv 0 511 lf_villages) → (iv 0 511 lf_dams) → (iv 0 4 lf_echoes) → (iv 1 9 lf_deep) → (iv 0 10 lf_slide) → (∀ j, iv 0 99 (la_heights j)) → (∀ j, iv 0 9 (la_ladders j)) → (∀ j, iv 0 9 (la_minutes j)) → (∀ j, iv 0 8 (la_echoFrom j)) → (∀ j, iv 0 8 (la_echoTo j)) → (∀ j, iv 0 8 (la_homes j)) → (∀ j, iv 0 9 (la_talls j)) → (∀ j, iv 0 31 (la_known j)) → (iv 0 40 vf_deeds) → (∀ j, iv 0 5 (va_kinds j)) → (∀ j, iv 0 5 (va_firsts j)) → (∀ j, iv (-1) 8 (va_seconds j)) → (iv 0 10 sf_facts) → (∀ j, iv 0 1 (sa_heard j)) → (∀ j, iv 0 8 (sa_huts j)) → (∀ j, iv 0 60 (sa_minutes j)) → (iv 0 9 cf_voices) → (iv 0 9 cf_step) → (∀ j, iv 0 3 (ca_parts j)) → (∀ j, iv 0 9 (ca_heights j)) → post lf_huts lf_singers lf_villages lf_dams lf_echoes lf_deep lf_slide la_heights la_ladders la_minutes la_echoFrom la_echoTo la_homes la_talls la_known vf_deeds va_kinds va_firsts va_seconds sf_facts sa_heard sa_huts sa_minutes cf_voices cf_step ca_parts ca_heights f_hutsToldOf f_singersToldOf) : q_wr_X4_tell_0 lf_huts lf_singers lf_villages lf_dams lf_echoes lf_deep lf_slide la_heights la_ladders la_minutes la_echoFrom la_echoTo la_homes la_talls la_known vf_deeds va_kinds va_firsts va_seconds sf_facts sa_heard sa_huts sa_minutes cf_voices cf_step ca_parts ca_heights a_numbers f_hutsToldOf f_singersToldOf x1 post := by
  refine ⟨fun c1 => ?_, fun c1 => ?_⟩
  · skip
    exact (iv_emp (iv_lea (l := 10) (h := 7) (r_le c1) (iv_lit (l := 10) (h := 10) (by decide)) hx1 (by decide)) (by decide)).elim
  · skip
    refine ⟨fun c2 => ?_, fun c2 => ?_, fun c2 => ?_, fun c2 => ?_, fun c2 => ?_, fun c2 => ?_, fun c2 => ?_, fun c2 => ?_, fun c2 => ?_, fun c2 => ?_⟩
    · skip
      exact (iv_sw c2 hx1 (by decide)).elim
    · skip
      exact (iv_emp (iv_eqa (l := 7) (h := 0) c2 hx1 (iv_lit (l := 0) (h := 0) (by decide)) (by decide)) (by decide)).elim
    · skip
      exact (iv_emp (iv_eqa (l := 7) (h := 1) c2 hx1 (iv_lit (l := 1) (h := 1) (by decide)) (by decide)) (by decide)).elim
    · skip
      exact (iv_emp (iv_eqa (l := 7) (h := 2) c2 hx1 (iv_lit (l := 2) (h := 2) (by decide)) (by decide)) (by decide)).elim
    · skip
      exact (iv_emp (iv_eqa (l := 7) (h := 3) c2 hx1 (iv_lit (l := 3) (h := 3) (by decide)) (by decide)) (by decide)).elim
    · skip
      exact (iv_emp (iv_eqa (l := 7) (h := 4) c2 hx1 (iv_lit (l := 4) (h := 4) (by decide)) (by decide)) (by decide)).elim
    · skip
      exact (iv_emp (iv_eqa (l := 7) (h := 5) c2 hx1 (iv_lit (l := 5) (h := 5) (by decide)) (by decide)) (by decide)).elim
    · skip
      exact (iv_emp (iv_eqa (l := 7) (h := 6) c2 hx1 (iv_lit (l := 6) (h := 6) (by decide)) (by decide)) (by decide)).elim
    · skip
      refine ⟨iv_in hn0 (by decide), ?_⟩
      intro a3 ea3
      have k_a3 := iv_upd ea3 k_la_ladders hn1
      intro w4 ew4
      exact hpost _ _ _ _ _ _ _ _ _ _ _ _ _ _ _ _ _ _ _ _ _ _ _ _ _ _ _ _ _ k_lf_huts k_lf_singers k_lf_villages k_lf_dams k_lf_echoes k_lf_deep k_lf_slide k_la_heights k_a3 k_la_minutes k_la_echoFrom k_la_echoTo k_la_homes k_la_talls k_la_known k_vf_deeds k_va_kinds k_va_firsts k_va_seconds k_sf_facts k_sa_heard k_sa_huts k_sa_minutes k_cf_voices k_cf_step k_ca_parts k_ca_heights
    · skip
      exact (iv_emp (iv_eqa (l := 8) (h := 7) c2 hx1 (iv_lit (l := 8) (h := 8) (by decide)) (by decide)) (by decide)).elim
set_option maxRecDepth 20000 in
theorem s_tell_8 {lf_huts : Int32} {lf_singers : Int32} {lf_villages : Int32} {lf_dams : Int32} {lf_echoes : Int32} {lf_deep : Int32} {lf_slide : Int32} {la_heights : Nat → Int32} {la_ladders : Nat → Int32} {la_minutes : Nat → Int32} {la_echoFrom : Nat → Int32} {la_echoTo : Nat → Int32} {la_homes : Nat → Int32} {la_talls : Nat → Int32} {la_known : Nat → Int32} {vf_deeds : Int32} {va_kinds : Nat → Int32} {va_firsts : Nat → Int32} {va_seconds : Nat → Int32} {sf_facts : Int32} {sa_heard : Nat → Int32} {sa_huts : Nat → Int32} {sa_minutes : Nat → Int32} {cf_voices : Int32} {cf_step : Int32} {ca_parts : Nat → Int32} {ca_heights : Nat → Int32} {a_numbers : Nat → Int32} {f_hutsToldOf : Int32} {f_singersToldOf : Int32} {x1 : Int32} {post : (Int32) → (Int32) → (Int32) → (Int32) → (Int32) → (Int32) → (Int32) → (Nat → Int32) → (Nat → Int32) → (Nat → Int32) → (Nat → Int32) → (Nat → Int32) → (Nat → Int32) → (Nat → Int32) → (Nat → Int32) → (Int32) → (Nat → Int32) → (Nat → Int32) → (Nat → Int32) → (Int32) → (Nat → Int32) → (Nat → Int32) → (Nat → Int32) → (Int32) → (Int32) → (Nat → Int32) → (Nat → Int32) → (Int32) → (Int32) → Prop} (k_lf_huts : iv 0 9 lf_huts) (k_lf_singers : iv 0 5 lf_singers) (k_lf_villages : iv 0 511 lf_villages) (k_lf_dams : iv 0 511 lf_dams) (k_lf_echoes : iv 0 4 lf_echoes) (k_lf_deep : iv 1 9 lf_deep) (k_lf_slide : iv 0 10 lf_slide) (k_la_heights : ∀ j, iv 0 99 (la_heights j)) (k_la_ladders : ∀ j, iv 0 9 (la_ladders j)) (k_la_minutes : ∀ j, iv 0 9 (la_minutes j)) (k_la_echoFrom : ∀ j, iv 0 8 (la_echoFrom j)) (k_la_echoTo : ∀ j, iv 0 8 (la_echoTo j)) (k_la_homes : ∀ j, iv 0 8 (la_homes j)) (k_la_talls : ∀ j, iv 0 9 (la_talls j)) (k_la_known : ∀ j, iv 0 31 (la_known j)) (k_vf_deeds : iv 0 40 vf_deeds) (k_va_kinds : ∀ j, iv 0 5 (va_kinds j)) (k_va_firsts : ∀ j, iv 0 5 (va_firsts j)) (k_va_seconds : ∀ j, iv (-1) 8 (va_seconds j)) (k_sf_facts : iv 0 10 sf_facts) (k_sa_heard : ∀ j, iv 0 1 (sa_heard j)) (k_sa_huts : ∀ j, iv 0 8 (sa_huts j)) (k_sa_minutes : ∀ j, iv 0 60 (sa_minutes j)) (k_cf_voices : iv 0 9 cf_voices) (k_cf_step : iv 0 9 cf_step) (k_ca_parts : ∀ j, iv 0 3 (ca_parts j)) (k_ca_heights : ∀ j, iv 0 9 (ca_heights j)) (hx1 : iv 8 8 x1) (hn0 : iv 0 8 (a_numbers (Int32.toNatClampNeg (0 : Int32)))) (hn1 : iv 0 9 (a_numbers (Int32.toNatClampNeg (1 : Int32)))) (hpost : ∀ (lf_huts : Int32) (lf_singers : Int32) (lf_villages : Int32) (lf_dams : Int32) (lf_echoes : Int32) (lf_deep : Int32) (lf_slide : Int32) (la_heights : Nat → Int32) (la_ladders : Nat → Int32) (la_minutes : Nat → Int32) (la_echoFrom : Nat → Int32) (la_echoTo : Nat → Int32) (la_homes : Nat → Int32) (la_talls : Nat → Int32) (la_known : Nat → Int32) (vf_deeds : Int32) (va_kinds : Nat → Int32) (va_firsts : Nat → Int32) (va_seconds : Nat → Int32) (sf_facts : Int32) (sa_heard : Nat → Int32) (sa_huts : Nat → Int32) (sa_minutes : Nat → Int32) (cf_voices : Int32) (cf_step : Int32) (ca_parts : Nat → Int32) (ca_heights : Nat → Int32) (f_hutsToldOf : Int32) (f_singersToldOf : Int32), (iv 0 9 lf_huts) → (iv 0 6 lf_singers) → (iv 0 511 lf_villages) → (iv 0 511 lf_dams) → (iv 0 4 lf_echoes) → (iv 1 9 lf_deep) → (iv 0 10 lf_slide) → (∀ j, iv 0 99 (la_heights j)) → (∀ j, iv 0 9 (la_ladders j)) → (∀ j, iv 0 9 (la_minutes j)) → (∀ j, iv 0 8 (la_echoFrom j)) → (∀ j, iv 0 8 (la_echoTo j)) → (∀ j, iv 0 8 (la_homes j)) → (∀ j, iv 0 9 (la_talls j)) → (∀ j, iv 0 31 (la_known j)) → (iv 0 40 vf_deeds) → (∀ j, iv 0 5 (va_kinds j)) → (∀ j, iv 0 5 (va_firsts j)) → (∀ j, iv (-1) 8 (va_seconds j)) → (iv 0 10 sf_facts) → (∀ j, iv 0 1 (sa_heard j)) → (∀ j, iv 0 8 (sa_huts j)) → (∀ j, iv 0 60 (sa_minutes j)) → (iv 0 9 cf_voices) → (iv 0 9 cf_step) → (∀ j, iv 0 3 (ca_parts j)) → (∀ j, iv 0 9 (ca_heights j)) → post lf_huts lf_singers lf_villages lf_dams lf_echoes lf_deep lf_slide la_heights la_ladders la_minutes la_echoFrom la_echoTo la_homes la_talls la_known vf_deeds va_kinds va_firsts va_seconds sf_facts sa_heard sa_huts sa_minutes cf_voices cf_step ca_parts ca_heights f_hutsToldOf f_singersToldOf) : q_wr_X4_tell_0 lf_huts lf_singers lf_villages lf_dams lf_echoes lf_deep lf_slide la_heights la_ladders la_minutes la_echoFrom la_echoTo la_homes la_talls la_known vf_deeds va_kinds va_firsts va_seconds sf_facts sa_heard sa_huts sa_minutes cf_voices cf_step ca_parts ca_heights a_numbers f_hutsToldOf f_singersToldOf x1 post := by
  refine ⟨fun c1 => ?_, fun c1 => ?_⟩
  · skip
    exact (iv_emp (iv_lea (l := 10) (h := 8) (r_le c1) (iv_lit (l := 10) (h := 10) (by decide)) hx1 (by decide)) (by decide)).elim
  · skip
    refine ⟨fun c2 => ?_, fun c2 => ?_, fun c2 => ?_, fun c2 => ?_, fun c2 => ?_, fun c2 => ?_, fun c2 => ?_, fun c2 => ?_, fun c2 => ?_, fun c2 => ?_⟩
    · skip
      exact (iv_sw c2 hx1 (by decide)).elim
    · skip
      exact (iv_emp (iv_eqa (l := 8) (h := 0) c2 hx1 (iv_lit (l := 0) (h := 0) (by decide)) (by decide)) (by decide)).elim
    · skip
      exact (iv_emp (iv_eqa (l := 8) (h := 1) c2 hx1 (iv_lit (l := 1) (h := 1) (by decide)) (by decide)) (by decide)).elim
    · skip
      exact (iv_emp (iv_eqa (l := 8) (h := 2) c2 hx1 (iv_lit (l := 2) (h := 2) (by decide)) (by decide)) (by decide)).elim
    · skip
      exact (iv_emp (iv_eqa (l := 8) (h := 3) c2 hx1 (iv_lit (l := 3) (h := 3) (by decide)) (by decide)) (by decide)).elim
    · skip
      exact (iv_emp (iv_eqa (l := 8) (h := 4) c2 hx1 (iv_lit (l := 4) (h := 4) (by decide)) (by decide)) (by decide)).elim
    · skip
      exact (iv_emp (iv_eqa (l := 8) (h := 5) c2 hx1 (iv_lit (l := 5) (h := 5) (by decide)) (by decide)) (by decide)).elim
    · skip
      exact (iv_emp (iv_eqa (l := 8) (h := 6) c2 hx1 (iv_lit (l := 6) (h := 6) (by decide)) (by decide)) (by decide)).elim
    · skip
      exact (iv_emp (iv_eqa (l := 8) (h := 7) c2 hx1 (iv_lit (l := 7) (h := 7) (by decide)) (by decide)) (by decide)).elim
    · skip
      refine ⟨iv_in k_lf_singers (by decide), ?_⟩
      intro a3 ea3
      have k_a3 := iv_upd ea3 k_la_homes hn0
      refine ⟨iv_in k_lf_singers (by decide), ?_⟩
      intro a4 ea4
      have k_a4 := iv_upd ea4 k_la_talls hn1
      intro w5 ew5
      have hw5 := iv_eq ew5 (iv_add (l := 1) (h := 6) k_lf_singers (iv_lit (l := 1) (h := 1) (by decide)) (by decide))
      intro w6 ew6
      exact hpost _ _ _ _ _ _ _ _ _ _ _ _ _ _ _ _ _ _ _ _ _ _ _ _ _ _ _ _ _ k_lf_huts (iv_w hw5 (by decide)) k_lf_villages k_lf_dams k_lf_echoes k_lf_deep k_lf_slide k_la_heights k_la_ladders k_la_minutes k_la_echoFrom k_la_echoTo k_a3 k_a4 k_la_known k_vf_deeds k_va_kinds k_va_firsts k_va_seconds k_sf_facts k_sa_heard k_sa_huts k_sa_minutes k_cf_voices k_cf_step k_ca_parts k_ca_heights
set_option maxRecDepth 20000 in
theorem s_tell_9 {lf_huts : Int32} {lf_singers : Int32} {lf_villages : Int32} {lf_dams : Int32} {lf_echoes : Int32} {lf_deep : Int32} {lf_slide : Int32} {la_heights : Nat → Int32} {la_ladders : Nat → Int32} {la_minutes : Nat → Int32} {la_echoFrom : Nat → Int32} {la_echoTo : Nat → Int32} {la_homes : Nat → Int32} {la_talls : Nat → Int32} {la_known : Nat → Int32} {vf_deeds : Int32} {va_kinds : Nat → Int32} {va_firsts : Nat → Int32} {va_seconds : Nat → Int32} {sf_facts : Int32} {sa_heard : Nat → Int32} {sa_huts : Nat → Int32} {sa_minutes : Nat → Int32} {cf_voices : Int32} {cf_step : Int32} {ca_parts : Nat → Int32} {ca_heights : Nat → Int32} {a_numbers : Nat → Int32} {f_hutsToldOf : Int32} {f_singersToldOf : Int32} {x1 : Int32} {post : (Int32) → (Int32) → (Int32) → (Int32) → (Int32) → (Int32) → (Int32) → (Nat → Int32) → (Nat → Int32) → (Nat → Int32) → (Nat → Int32) → (Nat → Int32) → (Nat → Int32) → (Nat → Int32) → (Nat → Int32) → (Int32) → (Nat → Int32) → (Nat → Int32) → (Nat → Int32) → (Int32) → (Nat → Int32) → (Nat → Int32) → (Nat → Int32) → (Int32) → (Int32) → (Nat → Int32) → (Nat → Int32) → (Int32) → (Int32) → Prop} (k_lf_huts : iv 0 9 lf_huts) (k_lf_singers : iv 0 6 lf_singers) (k_lf_villages : iv 0 511 lf_villages) (k_lf_dams : iv 0 511 lf_dams) (k_lf_echoes : iv 0 4 lf_echoes) (k_lf_deep : iv 1 9 lf_deep) (k_lf_slide : iv 0 10 lf_slide) (k_la_heights : ∀ j, iv 0 99 (la_heights j)) (k_la_ladders : ∀ j, iv 0 9 (la_ladders j)) (k_la_minutes : ∀ j, iv 0 9 (la_minutes j)) (k_la_echoFrom : ∀ j, iv 0 8 (la_echoFrom j)) (k_la_echoTo : ∀ j, iv 0 8 (la_echoTo j)) (k_la_homes : ∀ j, iv 0 8 (la_homes j)) (k_la_talls : ∀ j, iv 0 9 (la_talls j)) (k_la_known : ∀ j, iv 0 31 (la_known j)) (k_vf_deeds : iv 0 40 vf_deeds) (k_va_kinds : ∀ j, iv 0 5 (va_kinds j)) (k_va_firsts : ∀ j, iv 0 5 (va_firsts j)) (k_va_seconds : ∀ j, iv (-1) 8 (va_seconds j)) (k_sf_facts : iv 0 10 sf_facts) (k_sa_heard : ∀ j, iv 0 1 (sa_heard j)) (k_sa_huts : ∀ j, iv 0 8 (sa_huts j)) (k_sa_minutes : ∀ j, iv 0 60 (sa_minutes j)) (k_cf_voices : iv 0 9 cf_voices) (k_cf_step : iv 0 9 cf_step) (k_ca_parts : ∀ j, iv 0 3 (ca_parts j)) (k_ca_heights : ∀ j, iv 0 9 (ca_heights j)) (hx1 : iv 9 9 x1) (hn0 : iv 0 5 (a_numbers (Int32.toNatClampNeg (0 : Int32)))) (hn1 : iv 0 4 (a_numbers (Int32.toNatClampNeg (1 : Int32)))) (hpost : ∀ (lf_huts : Int32) (lf_singers : Int32) (lf_villages : Int32) (lf_dams : Int32) (lf_echoes : Int32) (lf_deep : Int32) (lf_slide : Int32) (la_heights : Nat → Int32) (la_ladders : Nat → Int32) (la_minutes : Nat → Int32) (la_echoFrom : Nat → Int32) (la_echoTo : Nat → Int32) (la_homes : Nat → Int32) (la_talls : Nat → Int32) (la_known : Nat → Int32) (vf_deeds : Int32) (va_kinds : Nat → Int32) (va_firsts : Nat → Int32) (va_seconds : Nat → Int32) (sf_facts : Int32) (sa_heard : Nat → Int32) (sa_huts : Nat → Int32) (sa_minutes : Nat → Int32) (cf_voices : Int32) (cf_step : Int32) (ca_parts : Nat → Int32) (ca_heights : Nat → Int32) (f_hutsToldOf : Int32) (f_singersToldOf : Int32), (iv 0 9 lf_huts) → (iv 0 6 lf_singers) → (iv 0 511 lf_villages) → (iv 0 511 lf_dams) → (iv 0 4 lf_echoes) → (iv 1 9 lf_deep) → (iv 0 10 lf_slide) → (∀ j, iv 0 99 (la_heights j)) → (∀ j, iv 0 9 (la_ladders j)) → (∀ j, iv 0 9 (la_minutes j)) → (∀ j, iv 0 8 (la_echoFrom j)) → (∀ j, iv 0 8 (la_echoTo j)) → (∀ j, iv 0 8 (la_homes j)) → (∀ j, iv 0 9 (la_talls j)) → (∀ j, iv 0 31 (la_known j)) → (iv 0 40 vf_deeds) → (∀ j, iv 0 5 (va_kinds j)) → (∀ j, iv 0 5 (va_firsts j)) → (∀ j, iv (-1) 8 (va_seconds j)) → (iv 0 10 sf_facts) → (∀ j, iv 0 1 (sa_heard j)) → (∀ j, iv 0 8 (sa_huts j)) → (∀ j, iv 0 60 (sa_minutes j)) → (iv 0 9 cf_voices) → (iv 0 9 cf_step) → (∀ j, iv 0 3 (ca_parts j)) → (∀ j, iv 0 9 (ca_heights j)) → post lf_huts lf_singers lf_villages lf_dams lf_echoes lf_deep lf_slide la_heights la_ladders la_minutes la_echoFrom la_echoTo la_homes la_talls la_known vf_deeds va_kinds va_firsts va_seconds sf_facts sa_heard sa_huts sa_minutes cf_voices cf_step ca_parts ca_heights f_hutsToldOf f_singersToldOf) : q_wr_X4_tell_0 lf_huts lf_singers lf_villages lf_dams lf_echoes lf_deep lf_slide la_heights la_ladders la_minutes la_echoFrom la_echoTo la_homes la_talls la_known vf_deeds va_kinds va_firsts va_seconds sf_facts sa_heard sa_huts sa_minutes cf_voices cf_step ca_parts ca_heights a_numbers f_hutsToldOf f_singersToldOf x1 post := by
  refine ⟨fun c1 => ?_, fun c1 => ?_⟩
  · skip
    exact (iv_emp (iv_lea (l := 10) (h := 9) (r_le c1) (iv_lit (l := 10) (h := 10) (by decide)) hx1 (by decide)) (by decide)).elim
  · skip
    refine ⟨fun c2 => ?_, fun c2 => ?_, fun c2 => ?_, fun c2 => ?_, fun c2 => ?_, fun c2 => ?_, fun c2 => ?_, fun c2 => ?_, fun c2 => ?_, fun c2 => ?_⟩
    · skip
      refine ⟨iv_in hn0 (by decide), ?_⟩
      intro w3 ew3
      have hw3 := iv_eq ew3 (iv_or 5 (l := 0) (h := 31) (k_la_known _) (iv_shl1 (l := 1) (h := 16) (iv_lit (l := 1) (h := 1) (by decide)) hn1 (by decide)) (by decide))
      refine ⟨iv_in hn0 (by decide), ?_⟩
      intro a4 ea4
      have k_a4 := iv_upd ea4 k_la_known hw3
      intro w5 ew5
      exact hpost _ _ _ _ _ _ _ _ _ _ _ _ _ _ _ _ _ _ _ _ _ _ _ _ _ _ _ _ _ k_lf_huts k_lf_singers k_lf_villages k_lf_dams k_lf_echoes k_lf_deep k_lf_slide k_la_heights k_la_ladders k_la_minutes k_la_echoFrom k_la_echoTo k_la_homes k_la_talls k_a4 k_vf_deeds k_va_kinds k_va_firsts k_va_seconds k_sf_facts k_sa_heard k_sa_huts k_sa_minutes k_cf_voices k_cf_step k_ca_parts k_ca_heights
    · skip
      exact (iv_emp (iv_eqa (l := 9) (h := 0) c2 hx1 (iv_lit (l := 0) (h := 0) (by decide)) (by decide)) (by decide)).elim
    · skip
      exact (iv_emp (iv_eqa (l := 9) (h := 1) c2 hx1 (iv_lit (l := 1) (h := 1) (by decide)) (by decide)) (by decide)).elim
    · skip
      exact (iv_emp (iv_eqa (l := 9) (h := 2) c2 hx1 (iv_lit (l := 2) (h := 2) (by decide)) (by decide)) (by decide)).elim
    · skip
      exact (iv_emp (iv_eqa (l := 9) (h := 3) c2 hx1 (iv_lit (l := 3) (h := 3) (by decide)) (by decide)) (by decide)).elim
    · skip
      exact (iv_emp (iv_eqa (l := 9) (h := 4) c2 hx1 (iv_lit (l := 4) (h := 4) (by decide)) (by decide)) (by decide)).elim
    · skip
      exact (iv_emp (iv_eqa (l := 9) (h := 5) c2 hx1 (iv_lit (l := 5) (h := 5) (by decide)) (by decide)) (by decide)).elim
    · skip
      exact (iv_emp (iv_eqa (l := 9) (h := 6) c2 hx1 (iv_lit (l := 6) (h := 6) (by decide)) (by decide)) (by decide)).elim
    · skip
      exact (iv_emp (iv_eqa (l := 9) (h := 7) c2 hx1 (iv_lit (l := 7) (h := 7) (by decide)) (by decide)) (by decide)).elim
    · skip
      exact (iv_emp (iv_eqa (l := 9) (h := 8) c2 hx1 (iv_lit (l := 8) (h := 8) (by decide)) (by decide)) (by decide)).elim
set_option maxRecDepth 20000 in
theorem s_tell_10 {lf_huts : Int32} {lf_singers : Int32} {lf_villages : Int32} {lf_dams : Int32} {lf_echoes : Int32} {lf_deep : Int32} {lf_slide : Int32} {la_heights : Nat → Int32} {la_ladders : Nat → Int32} {la_minutes : Nat → Int32} {la_echoFrom : Nat → Int32} {la_echoTo : Nat → Int32} {la_homes : Nat → Int32} {la_talls : Nat → Int32} {la_known : Nat → Int32} {vf_deeds : Int32} {va_kinds : Nat → Int32} {va_firsts : Nat → Int32} {va_seconds : Nat → Int32} {sf_facts : Int32} {sa_heard : Nat → Int32} {sa_huts : Nat → Int32} {sa_minutes : Nat → Int32} {cf_voices : Int32} {cf_step : Int32} {ca_parts : Nat → Int32} {ca_heights : Nat → Int32} {a_numbers : Nat → Int32} {f_hutsToldOf : Int32} {f_singersToldOf : Int32} {x1 : Int32} {post : (Int32) → (Int32) → (Int32) → (Int32) → (Int32) → (Int32) → (Int32) → (Nat → Int32) → (Nat → Int32) → (Nat → Int32) → (Nat → Int32) → (Nat → Int32) → (Nat → Int32) → (Nat → Int32) → (Nat → Int32) → (Int32) → (Nat → Int32) → (Nat → Int32) → (Nat → Int32) → (Int32) → (Nat → Int32) → (Nat → Int32) → (Nat → Int32) → (Int32) → (Int32) → (Nat → Int32) → (Nat → Int32) → (Int32) → (Int32) → Prop} (k_lf_huts : iv 0 9 lf_huts) (k_lf_singers : iv 0 6 lf_singers) (k_lf_villages : iv 0 511 lf_villages) (k_lf_dams : iv 0 511 lf_dams) (k_lf_echoes : iv 0 4 lf_echoes) (k_lf_deep : iv 1 9 lf_deep) (k_lf_slide : iv 0 10 lf_slide) (k_la_heights : ∀ j, iv 0 99 (la_heights j)) (k_la_ladders : ∀ j, iv 0 9 (la_ladders j)) (k_la_minutes : ∀ j, iv 0 9 (la_minutes j)) (k_la_echoFrom : ∀ j, iv 0 8 (la_echoFrom j)) (k_la_echoTo : ∀ j, iv 0 8 (la_echoTo j)) (k_la_homes : ∀ j, iv 0 8 (la_homes j)) (k_la_talls : ∀ j, iv 0 9 (la_talls j)) (k_la_known : ∀ j, iv 0 31 (la_known j)) (k_vf_deeds : iv 0 39 vf_deeds) (k_va_kinds : ∀ j, iv 0 5 (va_kinds j)) (k_va_firsts : ∀ j, iv 0 5 (va_firsts j)) (k_va_seconds : ∀ j, iv (-1) 8 (va_seconds j)) (k_sf_facts : iv 0 10 sf_facts) (k_sa_heard : ∀ j, iv 0 1 (sa_heard j)) (k_sa_huts : ∀ j, iv 0 8 (sa_huts j)) (k_sa_minutes : ∀ j, iv 0 60 (sa_minutes j)) (k_cf_voices : iv 0 9 cf_voices) (k_cf_step : iv 0 9 cf_step) (k_ca_parts : ∀ j, iv 0 3 (ca_parts j)) (k_ca_heights : ∀ j, iv 0 9 (ca_heights j)) (hx1 : iv 10 10 x1) (hn0 : iv 0 5 (a_numbers (Int32.toNatClampNeg (0 : Int32)))) (hn1 : iv 0 4 (a_numbers (Int32.toNatClampNeg (1 : Int32)))) (hpost : ∀ (lf_huts : Int32) (lf_singers : Int32) (lf_villages : Int32) (lf_dams : Int32) (lf_echoes : Int32) (lf_deep : Int32) (lf_slide : Int32) (la_heights : Nat → Int32) (la_ladders : Nat → Int32) (la_minutes : Nat → Int32) (la_echoFrom : Nat → Int32) (la_echoTo : Nat → Int32) (la_homes : Nat → Int32) (la_talls : Nat → Int32) (la_known : Nat → Int32) (vf_deeds : Int32) (va_kinds : Nat → Int32) (va_firsts : Nat → Int32) (va_seconds : Nat → Int32) (sf_facts : Int32) (sa_heard : Nat → Int32) (sa_huts : Nat → Int32) (sa_minutes : Nat → Int32) (cf_voices : Int32) (cf_step : Int32) (ca_parts : Nat → Int32) (ca_heights : Nat → Int32) (f_hutsToldOf : Int32) (f_singersToldOf : Int32), (iv 0 9 lf_huts) → (iv 0 6 lf_singers) → (iv 0 511 lf_villages) → (iv 0 511 lf_dams) → (iv 0 4 lf_echoes) → (iv 1 9 lf_deep) → (iv 0 10 lf_slide) → (∀ j, iv 0 99 (la_heights j)) → (∀ j, iv 0 9 (la_ladders j)) → (∀ j, iv 0 9 (la_minutes j)) → (∀ j, iv 0 8 (la_echoFrom j)) → (∀ j, iv 0 8 (la_echoTo j)) → (∀ j, iv 0 8 (la_homes j)) → (∀ j, iv 0 9 (la_talls j)) → (∀ j, iv 0 31 (la_known j)) → (iv 0 40 vf_deeds) → (∀ j, iv 0 5 (va_kinds j)) → (∀ j, iv 0 5 (va_firsts j)) → (∀ j, iv (-1) 8 (va_seconds j)) → (iv 0 10 sf_facts) → (∀ j, iv 0 1 (sa_heard j)) → (∀ j, iv 0 8 (sa_huts j)) → (∀ j, iv 0 60 (sa_minutes j)) → (iv 0 9 cf_voices) → (iv 0 9 cf_step) → (∀ j, iv 0 3 (ca_parts j)) → (∀ j, iv 0 9 (ca_heights j)) → post lf_huts lf_singers lf_villages lf_dams lf_echoes lf_deep lf_slide la_heights la_ladders la_minutes la_echoFrom la_echoTo la_homes la_talls la_known vf_deeds va_kinds va_firsts va_seconds sf_facts sa_heard sa_huts sa_minutes cf_voices cf_step ca_parts ca_heights f_hutsToldOf f_singersToldOf) : q_wr_X4_tell_0 lf_huts lf_singers lf_villages lf_dams lf_echoes lf_deep lf_slide la_heights la_ladders la_minutes la_echoFrom la_echoTo la_homes la_talls la_known vf_deeds va_kinds va_firsts va_seconds sf_facts sa_heard sa_huts sa_minutes cf_voices cf_step ca_parts ca_heights a_numbers f_hutsToldOf f_singersToldOf x1 post := by
  refine ⟨fun c1 => ?_, fun c1 => ?_⟩
  · skip
    refine ⟨fun c2 => ?_, fun c2 => ?_⟩
    · skip
      exact (iv_emp (iv_lea (l := 16) (h := 10) (r_le c2) (iv_lit (l := 16) (h := 16) (by decide)) hx1 (by decide)) (by decide)).elim
    · skip
      refine ⟨iv_in hx1 (by decide), ?_⟩
      refine ⟨fun c3 => ?_, fun c3 => ?_⟩
      · skip
        exact (iv_emp (iv_lea (l := 2) (h := 1) (r_le c3) (tbe_1 (l := 2) (h := 2) hx1 (by decide +kernel)) (iv_lit (l := 1) (h := 1) (by decide)) (by decide)) (by decide)).elim
      · skip
        refine ⟨fun c4 => ?_, fun c4 => ?_⟩
        · skip
          exact (iv_emp (iv_lea (l := 40) (h := 39) (r_le c4) (iv_lit (l := 40) (h := 40) (by decide)) k_vf_deeds (by decide)) (by decide)).elim
        · skip
          refine ⟨iv_in k_vf_deeds (by decide), ?_⟩
          intro a5 ea5
          have k_a5 := iv_upd ea5 k_va_kinds (iv_w (iv_sub (l := 0) (h := 0) hx1 (iv_lit (l := 10) (h := 10) (by decide)) (by decide)) (by decide))
          refine ⟨iv_in k_vf_deeds (by decide), ?_⟩
          intro a6 ea6
          have k_a6 := iv_upd ea6 k_va_firsts hn0
          refine ⟨iv_in k_vf_deeds (by decide), ?_⟩
          intro a7 ea7
          have k_a7 := iv_upd ea7 k_va_seconds (iv_w hn1 (by decide))
          intro w8 ew8
          have hw8 := iv_eq ew8 (iv_add (l := 1) (h := 40) k_vf_deeds (iv_lit (l := 1) (h := 1) (by decide)) (by decide))
          exact hpost _ _ _ _ _ _ _ _ _ _ _ _ _ _ _ _ _ _ _ _ _ _ _ _ _ _ _ _ _ k_lf_huts k_lf_singers k_lf_villages k_lf_dams k_lf_echoes k_lf_deep k_lf_slide k_la_heights k_la_ladders k_la_minutes k_la_echoFrom k_la_echoTo k_la_homes k_la_talls k_la_known (iv_w hw8 (by decide)) k_a5 k_a6 k_a7 k_sf_facts k_sa_heard k_sa_huts k_sa_minutes k_cf_voices k_cf_step k_ca_parts k_ca_heights
  · skip
    exact (iv_emp (iv_lta (l := 10) (h := 9) (r_nle c1) hx1 (iv_lit (l := 10) (h := 10) (by decide)) (by decide)) (by decide)).elim
set_option maxRecDepth 20000 in
theorem s_tell_11 {lf_huts : Int32} {lf_singers : Int32} {lf_villages : Int32} {lf_dams : Int32} {lf_echoes : Int32} {lf_deep : Int32} {lf_slide : Int32} {la_heights : Nat → Int32} {la_ladders : Nat → Int32} {la_minutes : Nat → Int32} {la_echoFrom : Nat → Int32} {la_echoTo : Nat → Int32} {la_homes : Nat → Int32} {la_talls : Nat → Int32} {la_known : Nat → Int32} {vf_deeds : Int32} {va_kinds : Nat → Int32} {va_firsts : Nat → Int32} {va_seconds : Nat → Int32} {sf_facts : Int32} {sa_heard : Nat → Int32} {sa_huts : Nat → Int32} {sa_minutes : Nat → Int32} {cf_voices : Int32} {cf_step : Int32} {ca_parts : Nat → Int32} {ca_heights : Nat → Int32} {a_numbers : Nat → Int32} {f_hutsToldOf : Int32} {f_singersToldOf : Int32} {x1 : Int32} {post : (Int32) → (Int32) → (Int32) → (Int32) → (Int32) → (Int32) → (Int32) → (Nat → Int32) → (Nat → Int32) → (Nat → Int32) → (Nat → Int32) → (Nat → Int32) → (Nat → Int32) → (Nat → Int32) → (Nat → Int32) → (Int32) → (Nat → Int32) → (Nat → Int32) → (Nat → Int32) → (Int32) → (Nat → Int32) → (Nat → Int32) → (Nat → Int32) → (Int32) → (Int32) → (Nat → Int32) → (Nat → Int32) → (Int32) → (Int32) → Prop} (k_lf_huts : iv 0 9 lf_huts) (k_lf_singers : iv 0 6 lf_singers) (k_lf_villages : iv 0 511 lf_villages) (k_lf_dams : iv 0 511 lf_dams) (k_lf_echoes : iv 0 4 lf_echoes) (k_lf_deep : iv 1 9 lf_deep) (k_lf_slide : iv 0 10 lf_slide) (k_la_heights : ∀ j, iv 0 99 (la_heights j)) (k_la_ladders : ∀ j, iv 0 9 (la_ladders j)) (k_la_minutes : ∀ j, iv 0 9 (la_minutes j)) (k_la_echoFrom : ∀ j, iv 0 8 (la_echoFrom j)) (k_la_echoTo : ∀ j, iv 0 8 (la_echoTo j)) (k_la_homes : ∀ j, iv 0 8 (la_homes j)) (k_la_talls : ∀ j, iv 0 9 (la_talls j)) (k_la_known : ∀ j, iv 0 31 (la_known j)) (k_vf_deeds : iv 0 39 vf_deeds) (k_va_kinds : ∀ j, iv 0 5 (va_kinds j)) (k_va_firsts : ∀ j, iv 0 5 (va_firsts j)) (k_va_seconds : ∀ j, iv (-1) 8 (va_seconds j)) (k_sf_facts : iv 0 10 sf_facts) (k_sa_heard : ∀ j, iv 0 1 (sa_heard j)) (k_sa_huts : ∀ j, iv 0 8 (sa_huts j)) (k_sa_minutes : ∀ j, iv 0 60 (sa_minutes j)) (k_cf_voices : iv 0 9 cf_voices) (k_cf_step : iv 0 9 cf_step) (k_ca_parts : ∀ j, iv 0 3 (ca_parts j)) (k_ca_heights : ∀ j, iv 0 9 (ca_heights j)) (hx1 : iv 11 11 x1) (hn0 : iv 0 5 (a_numbers (Int32.toNatClampNeg (0 : Int32)))) (hn1 : iv 0 4 (a_numbers (Int32.toNatClampNeg (1 : Int32)))) (hpost : ∀ (lf_huts : Int32) (lf_singers : Int32) (lf_villages : Int32) (lf_dams : Int32) (lf_echoes : Int32) (lf_deep : Int32) (lf_slide : Int32) (la_heights : Nat → Int32) (la_ladders : Nat → Int32) (la_minutes : Nat → Int32) (la_echoFrom : Nat → Int32) (la_echoTo : Nat → Int32) (la_homes : Nat → Int32) (la_talls : Nat → Int32) (la_known : Nat → Int32) (vf_deeds : Int32) (va_kinds : Nat → Int32) (va_firsts : Nat → Int32) (va_seconds : Nat → Int32) (sf_facts : Int32) (sa_heard : Nat → Int32) (sa_huts : Nat → Int32) (sa_minutes : Nat → Int32) (cf_voices : Int32) (cf_step : Int32) (ca_parts : Nat → Int32) (ca_heights : Nat → Int32) (f_hutsToldOf : Int32) (f_singersToldOf : Int32), (iv 0 9 lf_huts) → (iv 0 6 lf_singers) → (iv 0 511 lf_villages) → (iv 0 511 lf_dams) → (iv 0 4 lf_echoes) → (iv 1 9 lf_deep) → (iv 0 10 lf_slide) → (∀ j, iv 0 99 (la_heights j)) → (∀ j, iv 0 9 (la_ladders j)) → (∀ j, iv 0 9 (la_minutes j)) → (∀ j, iv 0 8 (la_echoFrom j)) → (∀ j, iv 0 8 (la_echoTo j)) → (∀ j, iv 0 8 (la_homes j)) → (∀ j, iv 0 9 (la_talls j)) → (∀ j, iv 0 31 (la_known j)) → (iv 0 40 vf_deeds) → (∀ j, iv 0 5 (va_kinds j)) → (∀ j, iv 0 5 (va_firsts j)) → (∀ j, iv (-1) 8 (va_seconds j)) → (iv 0 10 sf_facts) → (∀ j, iv 0 1 (sa_heard j)) → (∀ j, iv 0 8 (sa_huts j)) → (∀ j, iv 0 60 (sa_minutes j)) → (iv 0 9 cf_voices) → (iv 0 9 cf_step) → (∀ j, iv 0 3 (ca_parts j)) → (∀ j, iv 0 9 (ca_heights j)) → post lf_huts lf_singers lf_villages lf_dams lf_echoes lf_deep lf_slide la_heights la_ladders la_minutes la_echoFrom la_echoTo la_homes la_talls la_known vf_deeds va_kinds va_firsts va_seconds sf_facts sa_heard sa_huts sa_minutes cf_voices cf_step ca_parts ca_heights f_hutsToldOf f_singersToldOf) : q_wr_X4_tell_0 lf_huts lf_singers lf_villages lf_dams lf_echoes lf_deep lf_slide la_heights la_ladders la_minutes la_echoFrom la_echoTo la_homes la_talls la_known vf_deeds va_kinds va_firsts va_seconds sf_facts sa_heard sa_huts sa_minutes cf_voices cf_step ca_parts ca_heights a_numbers f_hutsToldOf f_singersToldOf x1 post := by
  refine ⟨fun c1 => ?_, fun c1 => ?_⟩
  · skip
    refine ⟨fun c2 => ?_, fun c2 => ?_⟩
    · skip
      exact (iv_emp (iv_lea (l := 16) (h := 11) (r_le c2) (iv_lit (l := 16) (h := 16) (by decide)) hx1 (by decide)) (by decide)).elim
    · skip
      refine ⟨iv_in hx1 (by decide), ?_⟩
      refine ⟨fun c3 => ?_, fun c3 => ?_⟩
      · skip
        exact (iv_emp (iv_lea (l := 2) (h := 1) (r_le c3) (tbe_1 (l := 2) (h := 2) hx1 (by decide +kernel)) (iv_lit (l := 1) (h := 1) (by decide)) (by decide)) (by decide)).elim
      · skip
        refine ⟨fun c4 => ?_, fun c4 => ?_⟩
        · skip
          exact (iv_emp (iv_lea (l := 40) (h := 39) (r_le c4) (iv_lit (l := 40) (h := 40) (by decide)) k_vf_deeds (by decide)) (by decide)).elim
        · skip
          refine ⟨iv_in k_vf_deeds (by decide), ?_⟩
          intro a5 ea5
          have k_a5 := iv_upd ea5 k_va_kinds (iv_w (iv_sub (l := 1) (h := 1) hx1 (iv_lit (l := 10) (h := 10) (by decide)) (by decide)) (by decide))
          refine ⟨iv_in k_vf_deeds (by decide), ?_⟩
          intro a6 ea6
          have k_a6 := iv_upd ea6 k_va_firsts hn0
          refine ⟨iv_in k_vf_deeds (by decide), ?_⟩
          intro a7 ea7
          have k_a7 := iv_upd ea7 k_va_seconds (iv_w hn1 (by decide))
          intro w8 ew8
          have hw8 := iv_eq ew8 (iv_add (l := 1) (h := 40) k_vf_deeds (iv_lit (l := 1) (h := 1) (by decide)) (by decide))
          exact hpost _ _ _ _ _ _ _ _ _ _ _ _ _ _ _ _ _ _ _ _ _ _ _ _ _ _ _ _ _ k_lf_huts k_lf_singers k_lf_villages k_lf_dams k_lf_echoes k_lf_deep k_lf_slide k_la_heights k_la_ladders k_la_minutes k_la_echoFrom k_la_echoTo k_la_homes k_la_talls k_la_known (iv_w hw8 (by decide)) k_a5 k_a6 k_a7 k_sf_facts k_sa_heard k_sa_huts k_sa_minutes k_cf_voices k_cf_step k_ca_parts k_ca_heights
  · skip
    exact (iv_emp (iv_lta (l := 11) (h := 9) (r_nle c1) hx1 (iv_lit (l := 10) (h := 10) (by decide)) (by decide)) (by decide)).elim
set_option maxRecDepth 20000 in
theorem s_tell_12 {lf_huts : Int32} {lf_singers : Int32} {lf_villages : Int32} {lf_dams : Int32} {lf_echoes : Int32} {lf_deep : Int32} {lf_slide : Int32} {la_heights : Nat → Int32} {la_ladders : Nat → Int32} {la_minutes : Nat → Int32} {la_echoFrom : Nat → Int32} {la_echoTo : Nat → Int32} {la_homes : Nat → Int32} {la_talls : Nat → Int32} {la_known : Nat → Int32} {vf_deeds : Int32} {va_kinds : Nat → Int32} {va_firsts : Nat → Int32} {va_seconds : Nat → Int32} {sf_facts : Int32} {sa_heard : Nat → Int32} {sa_huts : Nat → Int32} {sa_minutes : Nat → Int32} {cf_voices : Int32} {cf_step : Int32} {ca_parts : Nat → Int32} {ca_heights : Nat → Int32} {a_numbers : Nat → Int32} {f_hutsToldOf : Int32} {f_singersToldOf : Int32} {x1 : Int32} {post : (Int32) → (Int32) → (Int32) → (Int32) → (Int32) → (Int32) → (Int32) → (Nat → Int32) → (Nat → Int32) → (Nat → Int32) → (Nat → Int32) → (Nat → Int32) → (Nat → Int32) → (Nat → Int32) → (Nat → Int32) → (Int32) → (Nat → Int32) → (Nat → Int32) → (Nat → Int32) → (Int32) → (Nat → Int32) → (Nat → Int32) → (Nat → Int32) → (Int32) → (Int32) → (Nat → Int32) → (Nat → Int32) → (Int32) → (Int32) → Prop} (k_lf_huts : iv 0 9 lf_huts) (k_lf_singers : iv 0 6 lf_singers) (k_lf_villages : iv 0 511 lf_villages) (k_lf_dams : iv 0 511 lf_dams) (k_lf_echoes : iv 0 4 lf_echoes) (k_lf_deep : iv 1 9 lf_deep) (k_lf_slide : iv 0 10 lf_slide) (k_la_heights : ∀ j, iv 0 99 (la_heights j)) (k_la_ladders : ∀ j, iv 0 9 (la_ladders j)) (k_la_minutes : ∀ j, iv 0 9 (la_minutes j)) (k_la_echoFrom : ∀ j, iv 0 8 (la_echoFrom j)) (k_la_echoTo : ∀ j, iv 0 8 (la_echoTo j)) (k_la_homes : ∀ j, iv 0 8 (la_homes j)) (k_la_talls : ∀ j, iv 0 9 (la_talls j)) (k_la_known : ∀ j, iv 0 31 (la_known j)) (k_vf_deeds : iv 0 39 vf_deeds) (k_va_kinds : ∀ j, iv 0 5 (va_kinds j)) (k_va_firsts : ∀ j, iv 0 5 (va_firsts j)) (k_va_seconds : ∀ j, iv (-1) 8 (va_seconds j)) (k_sf_facts : iv 0 10 sf_facts) (k_sa_heard : ∀ j, iv 0 1 (sa_heard j)) (k_sa_huts : ∀ j, iv 0 8 (sa_huts j)) (k_sa_minutes : ∀ j, iv 0 60 (sa_minutes j)) (k_cf_voices : iv 0 9 cf_voices) (k_cf_step : iv 0 9 cf_step) (k_ca_parts : ∀ j, iv 0 3 (ca_parts j)) (k_ca_heights : ∀ j, iv 0 9 (ca_heights j)) (hx1 : iv 12 12 x1) (hn0 : iv 0 5 (a_numbers (Int32.toNatClampNeg (0 : Int32)))) (hn1 : iv 0 4 (a_numbers (Int32.toNatClampNeg (1 : Int32)))) (hpost : ∀ (lf_huts : Int32) (lf_singers : Int32) (lf_villages : Int32) (lf_dams : Int32) (lf_echoes : Int32) (lf_deep : Int32) (lf_slide : Int32) (la_heights : Nat → Int32) (la_ladders : Nat → Int32) (la_minutes : Nat → Int32) (la_echoFrom : Nat → Int32) (la_echoTo : Nat → Int32) (la_homes : Nat → Int32) (la_talls : Nat → Int32) (la_known : Nat → Int32) (vf_deeds : Int32) (va_kinds : Nat → Int32) (va_firsts : Nat → Int32) (va_seconds : Nat → Int32) (sf_facts : Int32) (sa_heard : Nat → Int32) (sa_huts : Nat → Int32) (sa_minutes : Nat → Int32) (cf_voices : Int32) (cf_step : Int32) (ca_parts : Nat → Int32) (ca_heights : Nat → Int32) (f_hutsToldOf : Int32) (f_singersToldOf : Int32), (iv 0 9 lf_huts) → (iv 0 6 lf_singers) → (iv 0 511 lf_villages) → (iv 0 511 lf_dams) → (iv 0 4 lf_echoes) → (iv 1 9 lf_deep) → (iv 0 10 lf_slide) → (∀ j, iv 0 99 (la_heights j)) → (∀ j, iv 0 9 (la_ladders j)) → (∀ j, iv 0 9 (la_minutes j)) → (∀ j, iv 0 8 (la_echoFrom j)) → (∀ j, iv 0 8 (la_echoTo j)) → (∀ j, iv 0 8 (la_homes j)) → (∀ j, iv 0 9 (la_talls j)) → (∀ j, iv 0 31 (la_known j)) → (iv 0 40 vf_deeds) → (∀ j, iv 0 5 (va_kinds j)) → (∀ j, iv 0 5 (va_firsts j)) → (∀ j, iv (-1) 8 (va_seconds j)) → (iv 0 10 sf_facts) → (∀ j, iv 0 1 (sa_heard j)) → (∀ j, iv 0 8 (sa_huts j)) → (∀ j, iv 0 60 (sa_minutes j)) → (iv 0 9 cf_voices) → (iv 0 9 cf_step) → (∀ j, iv 0 3 (ca_parts j)) → (∀ j, iv 0 9 (ca_heights j)) → post lf_huts lf_singers lf_villages lf_dams lf_echoes lf_deep lf_slide la_heights la_ladders la_minutes la_echoFrom la_echoTo la_homes la_talls la_known vf_deeds va_kinds va_firsts va_seconds sf_facts sa_heard sa_huts sa_minutes cf_voices cf_step ca_parts ca_heights f_hutsToldOf f_singersToldOf) : q_wr_X4_tell_0 lf_huts lf_singers lf_villages lf_dams lf_echoes lf_deep lf_slide la_heights la_ladders la_minutes la_echoFrom la_echoTo la_homes la_talls la_known vf_deeds va_kinds va_firsts va_seconds sf_facts sa_heard sa_huts sa_minutes cf_voices cf_step ca_parts ca_heights a_numbers f_hutsToldOf f_singersToldOf x1 post := by
  refine ⟨fun c1 => ?_, fun c1 => ?_⟩
  · skip
    refine ⟨fun c2 => ?_, fun c2 => ?_⟩
    · skip
      exact (iv_emp (iv_lea (l := 16) (h := 12) (r_le c2) (iv_lit (l := 16) (h := 16) (by decide)) hx1 (by decide)) (by decide)).elim
    · skip
      refine ⟨iv_in hx1 (by decide), ?_⟩
      refine ⟨fun c3 => ?_, fun c3 => ?_⟩
      · skip
        exact (iv_emp (iv_lea (l := 2) (h := 1) (r_le c3) (tbe_1 (l := 2) (h := 2) hx1 (by decide +kernel)) (iv_lit (l := 1) (h := 1) (by decide)) (by decide)) (by decide)).elim
      · skip
        refine ⟨fun c4 => ?_, fun c4 => ?_⟩
        · skip
          exact (iv_emp (iv_lea (l := 40) (h := 39) (r_le c4) (iv_lit (l := 40) (h := 40) (by decide)) k_vf_deeds (by decide)) (by decide)).elim
        · skip
          refine ⟨iv_in k_vf_deeds (by decide), ?_⟩
          intro a5 ea5
          have k_a5 := iv_upd ea5 k_va_kinds (iv_w (iv_sub (l := 2) (h := 2) hx1 (iv_lit (l := 10) (h := 10) (by decide)) (by decide)) (by decide))
          refine ⟨iv_in k_vf_deeds (by decide), ?_⟩
          intro a6 ea6
          have k_a6 := iv_upd ea6 k_va_firsts hn0
          refine ⟨iv_in k_vf_deeds (by decide), ?_⟩
          intro a7 ea7
          have k_a7 := iv_upd ea7 k_va_seconds (iv_w hn1 (by decide))
          intro w8 ew8
          have hw8 := iv_eq ew8 (iv_add (l := 1) (h := 40) k_vf_deeds (iv_lit (l := 1) (h := 1) (by decide)) (by decide))
          exact hpost _ _ _ _ _ _ _ _ _ _ _ _ _ _ _ _ _ _ _ _ _ _ _ _ _ _ _ _ _ k_lf_huts k_lf_singers k_lf_villages k_lf_dams k_lf_echoes k_lf_deep k_lf_slide k_la_heights k_la_ladders k_la_minutes k_la_echoFrom k_la_echoTo k_la_homes k_la_talls k_la_known (iv_w hw8 (by decide)) k_a5 k_a6 k_a7 k_sf_facts k_sa_heard k_sa_huts k_sa_minutes k_cf_voices k_cf_step k_ca_parts k_ca_heights
  · skip
    exact (iv_emp (iv_lta (l := 12) (h := 9) (r_nle c1) hx1 (iv_lit (l := 10) (h := 10) (by decide)) (by decide)) (by decide)).elim
set_option maxRecDepth 20000 in
theorem s_tell_13 {lf_huts : Int32} {lf_singers : Int32} {lf_villages : Int32} {lf_dams : Int32} {lf_echoes : Int32} {lf_deep : Int32} {lf_slide : Int32} {la_heights : Nat → Int32} {la_ladders : Nat → Int32} {la_minutes : Nat → Int32} {la_echoFrom : Nat → Int32} {la_echoTo : Nat → Int32} {la_homes : Nat → Int32} {la_talls : Nat → Int32} {la_known : Nat → Int32} {vf_deeds : Int32} {va_kinds : Nat → Int32} {va_firsts : Nat → Int32} {va_seconds : Nat → Int32} {sf_facts : Int32} {sa_heard : Nat → Int32} {sa_huts : Nat → Int32} {sa_minutes : Nat → Int32} {cf_voices : Int32} {cf_step : Int32} {ca_parts : Nat → Int32} {ca_heights : Nat → Int32} {a_numbers : Nat → Int32} {f_hutsToldOf : Int32} {f_singersToldOf : Int32} {x1 : Int32} {post : (Int32) → (Int32) → (Int32) → (Int32) → (Int32) → (Int32) → (Int32) → (Nat → Int32) → (Nat → Int32) → (Nat → Int32) → (Nat → Int32) → (Nat → Int32) → (Nat → Int32) → (Nat → Int32) → (Nat → Int32) → (Int32) → (Nat → Int32) → (Nat → Int32) → (Nat → Int32) → (Int32) → (Nat → Int32) → (Nat → Int32) → (Nat → Int32) → (Int32) → (Int32) → (Nat → Int32) → (Nat → Int32) → (Int32) → (Int32) → Prop} (k_lf_huts : iv 0 9 lf_huts) (k_lf_singers : iv 0 6 lf_singers) (k_lf_villages : iv 0 511 lf_villages) (k_lf_dams : iv 0 511 lf_dams) (k_lf_echoes : iv 0 4 lf_echoes) (k_lf_deep : iv 1 9 lf_deep) (k_lf_slide : iv 0 10 lf_slide) (k_la_heights : ∀ j, iv 0 99 (la_heights j)) (k_la_ladders : ∀ j, iv 0 9 (la_ladders j)) (k_la_minutes : ∀ j, iv 0 9 (la_minutes j)) (k_la_echoFrom : ∀ j, iv 0 8 (la_echoFrom j)) (k_la_echoTo : ∀ j, iv 0 8 (la_echoTo j)) (k_la_homes : ∀ j, iv 0 8 (la_homes j)) (k_la_talls : ∀ j, iv 0 9 (la_talls j)) (k_la_known : ∀ j, iv 0 31 (la_known j)) (k_vf_deeds : iv 0 39 vf_deeds) (k_va_kinds : ∀ j, iv 0 5 (va_kinds j)) (k_va_firsts : ∀ j, iv 0 5 (va_firsts j)) (k_va_seconds : ∀ j, iv (-1) 8 (va_seconds j)) (k_sf_facts : iv 0 10 sf_facts) (k_sa_heard : ∀ j, iv 0 1 (sa_heard j)) (k_sa_huts : ∀ j, iv 0 8 (sa_huts j)) (k_sa_minutes : ∀ j, iv 0 60 (sa_minutes j)) (k_cf_voices : iv 0 9 cf_voices) (k_cf_step : iv 0 9 cf_step) (k_ca_parts : ∀ j, iv 0 3 (ca_parts j)) (k_ca_heights : ∀ j, iv 0 9 (ca_heights j)) (hx1 : iv 13 13 x1) (hn0 : iv 0 5 (a_numbers (Int32.toNatClampNeg (0 : Int32)))) (hn1 : iv 0 8 (a_numbers (Int32.toNatClampNeg (1 : Int32)))) (hpost : ∀ (lf_huts : Int32) (lf_singers : Int32) (lf_villages : Int32) (lf_dams : Int32) (lf_echoes : Int32) (lf_deep : Int32) (lf_slide : Int32) (la_heights : Nat → Int32) (la_ladders : Nat → Int32) (la_minutes : Nat → Int32) (la_echoFrom : Nat → Int32) (la_echoTo : Nat → Int32) (la_homes : Nat → Int32) (la_talls : Nat → Int32) (la_known : Nat → Int32) (vf_deeds : Int32) (va_kinds : Nat → Int32) (va_firsts : Nat → Int32) (va_seconds : Nat → Int32) (sf_facts : Int32) (sa_heard : Nat → Int32) (sa_huts : Nat → Int32) (sa_minutes : Nat → Int32) (cf_voices : Int32) (cf_step : Int32) (ca_parts : Nat → Int32) (ca_heights : Nat → Int32) (f_hutsToldOf : Int32) (f_singersToldOf : Int32), (iv 0 9 lf_huts) → (iv 0 6 lf_singers) → (iv 0 511 lf_villages) → (iv 0 511 lf_dams) → (iv 0 4 lf_echoes) → (iv 1 9 lf_deep) → (iv 0 10 lf_slide) → (∀ j, iv 0 99 (la_heights j)) → (∀ j, iv 0 9 (la_ladders j)) → (∀ j, iv 0 9 (la_minutes j)) → (∀ j, iv 0 8 (la_echoFrom j)) → (∀ j, iv 0 8 (la_echoTo j)) → (∀ j, iv 0 8 (la_homes j)) → (∀ j, iv 0 9 (la_talls j)) → (∀ j, iv 0 31 (la_known j)) → (iv 0 40 vf_deeds) → (∀ j, iv 0 5 (va_kinds j)) → (∀ j, iv 0 5 (va_firsts j)) → (∀ j, iv (-1) 8 (va_seconds j)) → (iv 0 10 sf_facts) → (∀ j, iv 0 1 (sa_heard j)) → (∀ j, iv 0 8 (sa_huts j)) → (∀ j, iv 0 60 (sa_minutes j)) → (iv 0 9 cf_voices) → (iv 0 9 cf_step) → (∀ j, iv 0 3 (ca_parts j)) → (∀ j, iv 0 9 (ca_heights j)) → post lf_huts lf_singers lf_villages lf_dams lf_echoes lf_deep lf_slide la_heights la_ladders la_minutes la_echoFrom la_echoTo la_homes la_talls la_known vf_deeds va_kinds va_firsts va_seconds sf_facts sa_heard sa_huts sa_minutes cf_voices cf_step ca_parts ca_heights f_hutsToldOf f_singersToldOf) : q_wr_X4_tell_0 lf_huts lf_singers lf_villages lf_dams lf_echoes lf_deep lf_slide la_heights la_ladders la_minutes la_echoFrom la_echoTo la_homes la_talls la_known vf_deeds va_kinds va_firsts va_seconds sf_facts sa_heard sa_huts sa_minutes cf_voices cf_step ca_parts ca_heights a_numbers f_hutsToldOf f_singersToldOf x1 post := by
  refine ⟨fun c1 => ?_, fun c1 => ?_⟩
  · skip
    refine ⟨fun c2 => ?_, fun c2 => ?_⟩
    · skip
      exact (iv_emp (iv_lea (l := 16) (h := 13) (r_le c2) (iv_lit (l := 16) (h := 16) (by decide)) hx1 (by decide)) (by decide)).elim
    · skip
      refine ⟨iv_in hx1 (by decide), ?_⟩
      refine ⟨fun c3 => ?_, fun c3 => ?_⟩
      · skip
        exact (iv_emp (iv_lea (l := 2) (h := 1) (r_le c3) (tbe_1 (l := 2) (h := 2) hx1 (by decide +kernel)) (iv_lit (l := 1) (h := 1) (by decide)) (by decide)) (by decide)).elim
      · skip
        refine ⟨fun c4 => ?_, fun c4 => ?_⟩
        · skip
          exact (iv_emp (iv_lea (l := 40) (h := 39) (r_le c4) (iv_lit (l := 40) (h := 40) (by decide)) k_vf_deeds (by decide)) (by decide)).elim
        · skip
          refine ⟨iv_in k_vf_deeds (by decide), ?_⟩
          intro a5 ea5
          have k_a5 := iv_upd ea5 k_va_kinds (iv_w (iv_sub (l := 3) (h := 3) hx1 (iv_lit (l := 10) (h := 10) (by decide)) (by decide)) (by decide))
          refine ⟨iv_in k_vf_deeds (by decide), ?_⟩
          intro a6 ea6
          have k_a6 := iv_upd ea6 k_va_firsts hn0
          refine ⟨iv_in k_vf_deeds (by decide), ?_⟩
          intro a7 ea7
          have k_a7 := iv_upd ea7 k_va_seconds (iv_w hn1 (by decide))
          intro w8 ew8
          have hw8 := iv_eq ew8 (iv_add (l := 1) (h := 40) k_vf_deeds (iv_lit (l := 1) (h := 1) (by decide)) (by decide))
          exact hpost _ _ _ _ _ _ _ _ _ _ _ _ _ _ _ _ _ _ _ _ _ _ _ _ _ _ _ _ _ k_lf_huts k_lf_singers k_lf_villages k_lf_dams k_lf_echoes k_lf_deep k_lf_slide k_la_heights k_la_ladders k_la_minutes k_la_echoFrom k_la_echoTo k_la_homes k_la_talls k_la_known (iv_w hw8 (by decide)) k_a5 k_a6 k_a7 k_sf_facts k_sa_heard k_sa_huts k_sa_minutes k_cf_voices k_cf_step k_ca_parts k_ca_heights
  · skip
    exact (iv_emp (iv_lta (l := 13) (h := 9) (r_nle c1) hx1 (iv_lit (l := 10) (h := 10) (by decide)) (by decide)) (by decide)).elim
set_option maxRecDepth 20000 in
theorem s_tell_14 {lf_huts : Int32} {lf_singers : Int32} {lf_villages : Int32} {lf_dams : Int32} {lf_echoes : Int32} {lf_deep : Int32} {lf_slide : Int32} {la_heights : Nat → Int32} {la_ladders : Nat → Int32} {la_minutes : Nat → Int32} {la_echoFrom : Nat → Int32} {la_echoTo : Nat → Int32} {la_homes : Nat → Int32} {la_talls : Nat → Int32} {la_known : Nat → Int32} {vf_deeds : Int32} {va_kinds : Nat → Int32} {va_firsts : Nat → Int32} {va_seconds : Nat → Int32} {sf_facts : Int32} {sa_heard : Nat → Int32} {sa_huts : Nat → Int32} {sa_minutes : Nat → Int32} {cf_voices : Int32} {cf_step : Int32} {ca_parts : Nat → Int32} {ca_heights : Nat → Int32} {a_numbers : Nat → Int32} {f_hutsToldOf : Int32} {f_singersToldOf : Int32} {x1 : Int32} {post : (Int32) → (Int32) → (Int32) → (Int32) → (Int32) → (Int32) → (Int32) → (Nat → Int32) → (Nat → Int32) → (Nat → Int32) → (Nat → Int32) → (Nat → Int32) → (Nat → Int32) → (Nat → Int32) → (Nat → Int32) → (Int32) → (Nat → Int32) → (Nat → Int32) → (Nat → Int32) → (Int32) → (Nat → Int32) → (Nat → Int32) → (Nat → Int32) → (Int32) → (Int32) → (Nat → Int32) → (Nat → Int32) → (Int32) → (Int32) → Prop} (k_lf_huts : iv 0 9 lf_huts) (k_lf_singers : iv 0 6 lf_singers) (k_lf_villages : iv 0 511 lf_villages) (k_lf_dams : iv 0 511 lf_dams) (k_lf_echoes : iv 0 4 lf_echoes) (k_lf_deep : iv 1 9 lf_deep) (k_lf_slide : iv 0 10 lf_slide) (k_la_heights : ∀ j, iv 0 99 (la_heights j)) (k_la_ladders : ∀ j, iv 0 9 (la_ladders j)) (k_la_minutes : ∀ j, iv 0 9 (la_minutes j)) (k_la_echoFrom : ∀ j, iv 0 8 (la_echoFrom j)) (k_la_echoTo : ∀ j, iv 0 8 (la_echoTo j)) (k_la_homes : ∀ j, iv 0 8 (la_homes j)) (k_la_talls : ∀ j, iv 0 9 (la_talls j)) (k_la_known : ∀ j, iv 0 31 (la_known j)) (k_vf_deeds : iv 0 39 vf_deeds) (k_va_kinds : ∀ j, iv 0 5 (va_kinds j)) (k_va_firsts : ∀ j, iv 0 5 (va_firsts j)) (k_va_seconds : ∀ j, iv (-1) 8 (va_seconds j)) (k_sf_facts : iv 0 10 sf_facts) (k_sa_heard : ∀ j, iv 0 1 (sa_heard j)) (k_sa_huts : ∀ j, iv 0 8 (sa_huts j)) (k_sa_minutes : ∀ j, iv 0 60 (sa_minutes j)) (k_cf_voices : iv 0 9 cf_voices) (k_cf_step : iv 0 9 cf_step) (k_ca_parts : ∀ j, iv 0 3 (ca_parts j)) (k_ca_heights : ∀ j, iv 0 9 (ca_heights j)) (hx1 : iv 14 14 x1) (hn0 : iv 0 5 (a_numbers (Int32.toNatClampNeg (0 : Int32)))) (hpost : ∀ (lf_huts : Int32) (lf_singers : Int32) (lf_villages : Int32) (lf_dams : Int32) (lf_echoes : Int32) (lf_deep : Int32) (lf_slide : Int32) (la_heights : Nat → Int32) (la_ladders : Nat → Int32) (la_minutes : Nat → Int32) (la_echoFrom : Nat → Int32) (la_echoTo : Nat → Int32) (la_homes : Nat → Int32) (la_talls : Nat → Int32) (la_known : Nat → Int32) (vf_deeds : Int32) (va_kinds : Nat → Int32) (va_firsts : Nat → Int32) (va_seconds : Nat → Int32) (sf_facts : Int32) (sa_heard : Nat → Int32) (sa_huts : Nat → Int32) (sa_minutes : Nat → Int32) (cf_voices : Int32) (cf_step : Int32) (ca_parts : Nat → Int32) (ca_heights : Nat → Int32) (f_hutsToldOf : Int32) (f_singersToldOf : Int32), (iv 0 9 lf_huts) → (iv 0 6 lf_singers) → (iv 0 511 lf_villages) → (iv 0 511 lf_dams) → (iv 0 4 lf_echoes) → (iv 1 9 lf_deep) → (iv 0 10 lf_slide) → (∀ j, iv 0 99 (la_heights j)) → (∀ j, iv 0 9 (la_ladders j)) → (∀ j, iv 0 9 (la_minutes j)) → (∀ j, iv 0 8 (la_echoFrom j)) → (∀ j, iv 0 8 (la_echoTo j)) → (∀ j, iv 0 8 (la_homes j)) → (∀ j, iv 0 9 (la_talls j)) → (∀ j, iv 0 31 (la_known j)) → (iv 0 40 vf_deeds) → (∀ j, iv 0 5 (va_kinds j)) → (∀ j, iv 0 5 (va_firsts j)) → (∀ j, iv (-1) 8 (va_seconds j)) → (iv 0 10 sf_facts) → (∀ j, iv 0 1 (sa_heard j)) → (∀ j, iv 0 8 (sa_huts j)) → (∀ j, iv 0 60 (sa_minutes j)) → (iv 0 9 cf_voices) → (iv 0 9 cf_step) → (∀ j, iv 0 3 (ca_parts j)) → (∀ j, iv 0 9 (ca_heights j)) → post lf_huts lf_singers lf_villages lf_dams lf_echoes lf_deep lf_slide la_heights la_ladders la_minutes la_echoFrom la_echoTo la_homes la_talls la_known vf_deeds va_kinds va_firsts va_seconds sf_facts sa_heard sa_huts sa_minutes cf_voices cf_step ca_parts ca_heights f_hutsToldOf f_singersToldOf) : q_wr_X4_tell_0 lf_huts lf_singers lf_villages lf_dams lf_echoes lf_deep lf_slide la_heights la_ladders la_minutes la_echoFrom la_echoTo la_homes la_talls la_known vf_deeds va_kinds va_firsts va_seconds sf_facts sa_heard sa_huts sa_minutes cf_voices cf_step ca_parts ca_heights a_numbers f_hutsToldOf f_singersToldOf x1 post := by
  refine ⟨fun c1 => ?_, fun c1 => ?_⟩
  · skip
    refine ⟨fun c2 => ?_, fun c2 => ?_⟩
    · skip
      exact (iv_emp (iv_lea (l := 16) (h := 14) (r_le c2) (iv_lit (l := 16) (h := 16) (by decide)) hx1 (by decide)) (by decide)).elim
    · skip
      refine ⟨iv_in hx1 (by decide), ?_⟩
      refine ⟨fun c3 => ?_, fun c3 => ?_⟩
      · skip
        refine ⟨fun c4 => ?_, fun c4 => ?_⟩
        · skip
          exact (iv_emp (iv_lea (l := 40) (h := 39) (r_le c4) (iv_lit (l := 40) (h := 40) (by decide)) k_vf_deeds (by decide)) (by decide)).elim
        · skip
          refine ⟨iv_in k_vf_deeds (by decide), ?_⟩
          intro a5 ea5
          have k_a5 := iv_upd ea5 k_va_kinds (iv_w (iv_sub (l := 4) (h := 4) hx1 (iv_lit (l := 10) (h := 10) (by decide)) (by decide)) (by decide))
          refine ⟨iv_in k_vf_deeds (by decide), ?_⟩
          intro a6 ea6
          have k_a6 := iv_upd ea6 k_va_firsts hn0
          refine ⟨iv_in k_vf_deeds (by decide), ?_⟩
          intro a7 ea7
          have k_a7 := iv_upd ea7 k_va_seconds (iv_w (iv_lit (l := (-1)) (h := (-1)) (by decide)) (by decide))
          intro w8 ew8
          have hw8 := iv_eq ew8 (iv_add (l := 1) (h := 40) k_vf_deeds (iv_lit (l := 1) (h := 1) (by decide)) (by decide))
          exact hpost _ _ _ _ _ _ _ _ _ _ _ _ _ _ _ _ _ _ _ _ _ _ _ _ _ _ _ _ _ k_lf_huts k_lf_singers k_lf_villages k_lf_dams k_lf_echoes k_lf_deep k_lf_slide k_la_heights k_la_ladders k_la_minutes k_la_echoFrom k_la_echoTo k_la_homes k_la_talls k_la_known (iv_w hw8 (by decide)) k_a5 k_a6 k_a7 k_sf_facts k_sa_heard k_sa_huts k_sa_minutes k_cf_voices k_cf_step k_ca_parts k_ca_heights
      · skip
        exact (iv_emp (iv_lta (l := 1) (h := 0) (r_nle c3) (iv_lit (l := 1) (h := 1) (by decide)) (tbe_1 (l := 1) (h := 1) hx1 (by decide +kernel)) (by decide)) (by decide)).elim
  · skip
    exact (iv_emp (iv_lta (l := 14) (h := 9) (r_nle c1) hx1 (iv_lit (l := 10) (h := 10) (by decide)) (by decide)) (by decide)).elim
set_option maxRecDepth 20000 in
theorem s_tell_15 {lf_huts : Int32} {lf_singers : Int32} {lf_villages : Int32} {lf_dams : Int32} {lf_echoes : Int32} {lf_deep : Int32} {lf_slide : Int32} {la_heights : Nat → Int32} {la_ladders : Nat → Int32} {la_minutes : Nat → Int32} {la_echoFrom : Nat → Int32} {la_echoTo : Nat → Int32} {la_homes : Nat → Int32} {la_talls : Nat → Int32} {la_known : Nat → Int32} {vf_deeds : Int32} {va_kinds : Nat → Int32} {va_firsts : Nat → Int32} {va_seconds : Nat → Int32} {sf_facts : Int32} {sa_heard : Nat → Int32} {sa_huts : Nat → Int32} {sa_minutes : Nat → Int32} {cf_voices : Int32} {cf_step : Int32} {ca_parts : Nat → Int32} {ca_heights : Nat → Int32} {a_numbers : Nat → Int32} {f_hutsToldOf : Int32} {f_singersToldOf : Int32} {x1 : Int32} {post : (Int32) → (Int32) → (Int32) → (Int32) → (Int32) → (Int32) → (Int32) → (Nat → Int32) → (Nat → Int32) → (Nat → Int32) → (Nat → Int32) → (Nat → Int32) → (Nat → Int32) → (Nat → Int32) → (Nat → Int32) → (Int32) → (Nat → Int32) → (Nat → Int32) → (Nat → Int32) → (Int32) → (Nat → Int32) → (Nat → Int32) → (Nat → Int32) → (Int32) → (Int32) → (Nat → Int32) → (Nat → Int32) → (Int32) → (Int32) → Prop} (k_lf_huts : iv 0 9 lf_huts) (k_lf_singers : iv 0 6 lf_singers) (k_lf_villages : iv 0 511 lf_villages) (k_lf_dams : iv 0 511 lf_dams) (k_lf_echoes : iv 0 4 lf_echoes) (k_lf_deep : iv 1 9 lf_deep) (k_lf_slide : iv 0 10 lf_slide) (k_la_heights : ∀ j, iv 0 99 (la_heights j)) (k_la_ladders : ∀ j, iv 0 9 (la_ladders j)) (k_la_minutes : ∀ j, iv 0 9 (la_minutes j)) (k_la_echoFrom : ∀ j, iv 0 8 (la_echoFrom j)) (k_la_echoTo : ∀ j, iv 0 8 (la_echoTo j)) (k_la_homes : ∀ j, iv 0 8 (la_homes j)) (k_la_talls : ∀ j, iv 0 9 (la_talls j)) (k_la_known : ∀ j, iv 0 31 (la_known j)) (k_vf_deeds : iv 0 39 vf_deeds) (k_va_kinds : ∀ j, iv 0 5 (va_kinds j)) (k_va_firsts : ∀ j, iv 0 5 (va_firsts j)) (k_va_seconds : ∀ j, iv (-1) 8 (va_seconds j)) (k_sf_facts : iv 0 10 sf_facts) (k_sa_heard : ∀ j, iv 0 1 (sa_heard j)) (k_sa_huts : ∀ j, iv 0 8 (sa_huts j)) (k_sa_minutes : ∀ j, iv 0 60 (sa_minutes j)) (k_cf_voices : iv 0 9 cf_voices) (k_cf_step : iv 0 9 cf_step) (k_ca_parts : ∀ j, iv 0 3 (ca_parts j)) (k_ca_heights : ∀ j, iv 0 9 (ca_heights j)) (hx1 : iv 15 15 x1) (hn0 : iv 0 5 (a_numbers (Int32.toNatClampNeg (0 : Int32)))) (hpost : ∀ (lf_huts : Int32) (lf_singers : Int32) (lf_villages : Int32) (lf_dams : Int32) (lf_echoes : Int32) (lf_deep : Int32) (lf_slide : Int32) (la_heights : Nat → Int32) (la_ladders : Nat → Int32) (la_minutes : Nat → Int32) (la_echoFrom : Nat → Int32) (la_echoTo : Nat → Int32) (la_homes : Nat → Int32) (la_talls : Nat → Int32) (la_known : Nat → Int32) (vf_deeds : Int32) (va_kinds : Nat → Int32) (va_firsts : Nat → Int32) (va_seconds : Nat → Int32) (sf_facts : Int32) (sa_heard : Nat → Int32) (sa_huts : Nat → Int32) (sa_minutes : Nat → Int32) (cf_voices : Int32) (cf_step : Int32) (ca_parts : Nat → Int32) (ca_heights : Nat → Int32) (f_hutsToldOf : Int32) (f_singersToldOf : Int32), (iv 0 9 lf_huts) → (iv 0 6 lf_singers) → (iv 0 511 lf_villages) → (iv 0 511 lf_dams) → (iv 0 4 lf_echoes) → (iv 1 9 lf_deep) → (iv 0 10 lf_slide) → (∀ j, iv 0 99 (la_heights j)) → (∀ j, iv 0 9 (la_ladders j)) → (∀ j, iv 0 9 (la_minutes j)) → (∀ j, iv 0 8 (la_echoFrom j)) → (∀ j, iv 0 8 (la_echoTo j)) → (∀ j, iv 0 8 (la_homes j)) → (∀ j, iv 0 9 (la_talls j)) → (∀ j, iv 0 31 (la_known j)) → (iv 0 40 vf_deeds) → (∀ j, iv 0 5 (va_kinds j)) → (∀ j, iv 0 5 (va_firsts j)) → (∀ j, iv (-1) 8 (va_seconds j)) → (iv 0 10 sf_facts) → (∀ j, iv 0 1 (sa_heard j)) → (∀ j, iv 0 8 (sa_huts j)) → (∀ j, iv 0 60 (sa_minutes j)) → (iv 0 9 cf_voices) → (iv 0 9 cf_step) → (∀ j, iv 0 3 (ca_parts j)) → (∀ j, iv 0 9 (ca_heights j)) → post lf_huts lf_singers lf_villages lf_dams lf_echoes lf_deep lf_slide la_heights la_ladders la_minutes la_echoFrom la_echoTo la_homes la_talls la_known vf_deeds va_kinds va_firsts va_seconds sf_facts sa_heard sa_huts sa_minutes cf_voices cf_step ca_parts ca_heights f_hutsToldOf f_singersToldOf) : q_wr_X4_tell_0 lf_huts lf_singers lf_villages lf_dams lf_echoes lf_deep lf_slide la_heights la_ladders la_minutes la_echoFrom la_echoTo la_homes la_talls la_known vf_deeds va_kinds va_firsts va_seconds sf_facts sa_heard sa_huts sa_minutes cf_voices cf_step ca_parts ca_heights a_numbers f_hutsToldOf f_singersToldOf x1 post := by
  refine ⟨fun c1 => ?_, fun c1 => ?_⟩
  · skip
    refine ⟨fun c2 => ?_, fun c2 => ?_⟩
    · skip
      exact (iv_emp (iv_lea (l := 16) (h := 15) (r_le c2) (iv_lit (l := 16) (h := 16) (by decide)) hx1 (by decide)) (by decide)).elim
    · skip
      refine ⟨iv_in hx1 (by decide), ?_⟩
      refine ⟨fun c3 => ?_, fun c3 => ?_⟩
      · skip
        refine ⟨fun c4 => ?_, fun c4 => ?_⟩
        · skip
          exact (iv_emp (iv_lea (l := 40) (h := 39) (r_le c4) (iv_lit (l := 40) (h := 40) (by decide)) k_vf_deeds (by decide)) (by decide)).elim
        · skip
          refine ⟨iv_in k_vf_deeds (by decide), ?_⟩
          intro a5 ea5
          have k_a5 := iv_upd ea5 k_va_kinds (iv_w (iv_sub (l := 5) (h := 5) hx1 (iv_lit (l := 10) (h := 10) (by decide)) (by decide)) (by decide))
          refine ⟨iv_in k_vf_deeds (by decide), ?_⟩
          intro a6 ea6
          have k_a6 := iv_upd ea6 k_va_firsts hn0
          refine ⟨iv_in k_vf_deeds (by decide), ?_⟩
          intro a7 ea7
          have k_a7 := iv_upd ea7 k_va_seconds (iv_w (iv_lit (l := (-1)) (h := (-1)) (by decide)) (by decide))
          intro w8 ew8
          have hw8 := iv_eq ew8 (iv_add (l := 1) (h := 40) k_vf_deeds (iv_lit (l := 1) (h := 1) (by decide)) (by decide))
          exact hpost _ _ _ _ _ _ _ _ _ _ _ _ _ _ _ _ _ _ _ _ _ _ _ _ _ _ _ _ _ k_lf_huts k_lf_singers k_lf_villages k_lf_dams k_lf_echoes k_lf_deep k_lf_slide k_la_heights k_la_ladders k_la_minutes k_la_echoFrom k_la_echoTo k_la_homes k_la_talls k_la_known (iv_w hw8 (by decide)) k_a5 k_a6 k_a7 k_sf_facts k_sa_heard k_sa_huts k_sa_minutes k_cf_voices k_cf_step k_ca_parts k_ca_heights
      · skip
        exact (iv_emp (iv_lta (l := 1) (h := 0) (r_nle c3) (iv_lit (l := 1) (h := 1) (by decide)) (tbe_1 (l := 1) (h := 1) hx1 (by decide +kernel)) (by decide)) (by decide)).elim
  · skip
    exact (iv_emp (iv_lta (l := 15) (h := 9) (r_nle c1) hx1 (iv_lit (l := 10) (h := 10) (by decide)) (by decide)) (by decide)).elim
set_option maxRecDepth 20000 in
theorem s_tell_16 {lf_huts : Int32} {lf_singers : Int32} {lf_villages : Int32} {lf_dams : Int32} {lf_echoes : Int32} {lf_deep : Int32} {lf_slide : Int32} {la_heights : Nat → Int32} {la_ladders : Nat → Int32} {la_minutes : Nat → Int32} {la_echoFrom : Nat → Int32} {la_echoTo : Nat → Int32} {la_homes : Nat → Int32} {la_talls : Nat → Int32} {la_known : Nat → Int32} {vf_deeds : Int32} {va_kinds : Nat → Int32} {va_firsts : Nat → Int32} {va_seconds : Nat → Int32} {sf_facts : Int32} {sa_heard : Nat → Int32} {sa_huts : Nat → Int32} {sa_minutes : Nat → Int32} {cf_voices : Int32} {cf_step : Int32} {ca_parts : Nat → Int32} {ca_heights : Nat → Int32} {a_numbers : Nat → Int32} {f_hutsToldOf : Int32} {f_singersToldOf : Int32} {x1 : Int32} {post : (Int32) → (Int32) → (Int32) → (Int32) → (Int32) → (Int32) → (Int32) → (Nat → Int32) → (Nat → Int32) → (Nat → Int32) → (Nat → Int32) → (Nat → Int32) → (Nat → Int32) → (Nat → Int32) → (Nat → Int32) → (Int32) → (Nat → Int32) → (Nat → Int32) → (Nat → Int32) → (Int32) → (Nat → Int32) → (Nat → Int32) → (Nat → Int32) → (Int32) → (Int32) → (Nat → Int32) → (Nat → Int32) → (Int32) → (Int32) → Prop} (k_lf_huts : iv 0 9 lf_huts) (k_lf_singers : iv 0 6 lf_singers) (k_lf_villages : iv 0 511 lf_villages) (k_lf_dams : iv 0 511 lf_dams) (k_lf_echoes : iv 0 4 lf_echoes) (k_lf_deep : iv 1 9 lf_deep) (k_lf_slide : iv 0 10 lf_slide) (k_la_heights : ∀ j, iv 0 99 (la_heights j)) (k_la_ladders : ∀ j, iv 0 9 (la_ladders j)) (k_la_minutes : ∀ j, iv 0 9 (la_minutes j)) (k_la_echoFrom : ∀ j, iv 0 8 (la_echoFrom j)) (k_la_echoTo : ∀ j, iv 0 8 (la_echoTo j)) (k_la_homes : ∀ j, iv 0 8 (la_homes j)) (k_la_talls : ∀ j, iv 0 9 (la_talls j)) (k_la_known : ∀ j, iv 0 31 (la_known j)) (k_vf_deeds : iv 0 40 vf_deeds) (k_va_kinds : ∀ j, iv 0 5 (va_kinds j)) (k_va_firsts : ∀ j, iv 0 5 (va_firsts j)) (k_va_seconds : ∀ j, iv (-1) 8 (va_seconds j)) (k_sf_facts : iv 0 9 sf_facts) (k_sa_heard : ∀ j, iv 0 1 (sa_heard j)) (k_sa_huts : ∀ j, iv 0 8 (sa_huts j)) (k_sa_minutes : ∀ j, iv 0 60 (sa_minutes j)) (k_cf_voices : iv 0 9 cf_voices) (k_cf_step : iv 0 9 cf_step) (k_ca_parts : ∀ j, iv 0 3 (ca_parts j)) (k_ca_heights : ∀ j, iv 0 9 (ca_heights j)) (hx1 : iv 16 16 x1) (hn0 : iv 0 8 (a_numbers (Int32.toNatClampNeg (0 : Int32)))) (hn1 : iv 0 60 (a_numbers (Int32.toNatClampNeg (1 : Int32)))) (hpost : ∀ (lf_huts : Int32) (lf_singers : Int32) (lf_villages : Int32) (lf_dams : Int32) (lf_echoes : Int32) (lf_deep : Int32) (lf_slide : Int32) (la_heights : Nat → Int32) (la_ladders : Nat → Int32) (la_minutes : Nat → Int32) (la_echoFrom : Nat → Int32) (la_echoTo : Nat → Int32) (la_homes : Nat → Int32) (la_talls : Nat → Int32) (la_known : Nat → Int32) (vf_deeds : Int32) (va_kinds : Nat → Int32) (va_firsts : Nat → Int32) (va_seconds : Nat → Int32) (sf_facts : Int32) (sa_heard : Nat → Int32) (sa_huts : Nat → Int32) (sa_minutes : Nat → Int32) (cf_voices : Int32) (cf_step : Int32) (ca_parts : Nat → Int32) (ca_heights : Nat → Int32) (f_hutsToldOf : Int32) (f_singersToldOf : Int32), (iv 0 9 lf_huts) → (iv 0 6 lf_singers) → (iv 0 511 lf_villages) → (iv 0 511 lf_dams) → (iv 0 4 lf_echoes) → (iv 1 9 lf_deep) → (iv 0 10 lf_slide) → (∀ j, iv 0 99 (la_heights j)) → (∀ j, iv 0 9 (la_ladders j)) → (∀ j, iv 0 9 (la_minutes j)) → (∀ j, iv 0 8 (la_echoFrom j)) → (∀ j, iv 0 8 (la_echoTo j)) → (∀ j, iv 0 8 (la_homes j)) → (∀ j, iv 0 9 (la_talls j)) → (∀ j, iv 0 31 (la_known j)) → (iv 0 40 vf_deeds) → (∀ j, iv 0 5 (va_kinds j)) → (∀ j, iv 0 5 (va_firsts j)) → (∀ j, iv (-1) 8 (va_seconds j)) → (iv 0 10 sf_facts) → (∀ j, iv 0 1 (sa_heard j)) → (∀ j, iv 0 8 (sa_huts j)) → (∀ j, iv 0 60 (sa_minutes j)) → (iv 0 9 cf_voices) → (iv 0 9 cf_step) → (∀ j, iv 0 3 (ca_parts j)) → (∀ j, iv 0 9 (ca_heights j)) → post lf_huts lf_singers lf_villages lf_dams lf_echoes lf_deep lf_slide la_heights la_ladders la_minutes la_echoFrom la_echoTo la_homes la_talls la_known vf_deeds va_kinds va_firsts va_seconds sf_facts sa_heard sa_huts sa_minutes cf_voices cf_step ca_parts ca_heights f_hutsToldOf f_singersToldOf) : q_wr_X4_tell_0 lf_huts lf_singers lf_villages lf_dams lf_echoes lf_deep lf_slide la_heights la_ladders la_minutes la_echoFrom la_echoTo la_homes la_talls la_known vf_deeds va_kinds va_firsts va_seconds sf_facts sa_heard sa_huts sa_minutes cf_voices cf_step ca_parts ca_heights a_numbers f_hutsToldOf f_singersToldOf x1 post := by
  refine ⟨fun c1 => ?_, fun c1 => ?_⟩
  · skip
    refine ⟨fun c2 => ?_, fun c2 => ?_⟩
    · skip
      refine ⟨fun c3 => ?_, fun c3 => ?_⟩
      · skip
        exact (iv_emp (iv_lea (l := 18) (h := 16) (r_le c3) (iv_lit (l := 18) (h := 18) (by decide)) hx1 (by decide)) (by decide)).elim
      · skip
        refine ⟨fun c4 => ?_, fun c4 => ?_⟩
        · skip
          exact (iv_emp (iv_ne (l := 17) (h := 16) c4 hx1 (iv_lit (l := 16) (h := 16) (by decide)) (by decide)) (by decide)).elim
        · skip
          refine ⟨fun c5 => ?_, fun c5 => ?_⟩
          · skip
            exact (iv_emp (iv_lea (l := 10) (h := 9) (r_le c5) (iv_lit (l := 10) (h := 10) (by decide)) k_sf_facts (by decide)) (by decide)).elim
          · skip
            refine ⟨iv_in k_sf_facts (by decide), ?_⟩
            intro a6 ea6
            have k_a6 := iv_upd ea6 k_sa_heard (iv_w (iv_lit (l := 1) (h := 1) (by decide)) (by decide))
            refine ⟨iv_in k_sf_facts (by decide), ?_⟩
            intro a7 ea7
            have k_a7 := iv_upd ea7 k_sa_huts hn0
            refine ⟨iv_in k_sf_facts (by decide), ?_⟩
            intro a8 ea8
            have k_a8 := iv_upd ea8 k_sa_minutes hn1
            intro w9 ew9
            have hw9 := iv_eq ew9 (iv_add (l := 1) (h := 10) k_sf_facts (iv_lit (l := 1) (h := 1) (by decide)) (by decide))
            exact hpost _ _ _ _ _ _ _ _ _ _ _ _ _ _ _ _ _ _ _ _ _ _ _ _ _ _ _ _ _ k_lf_huts k_lf_singers k_lf_villages k_lf_dams k_lf_echoes k_lf_deep k_lf_slide k_la_heights k_la_ladders k_la_minutes k_la_echoFrom k_la_echoTo k_la_homes k_la_talls k_la_known k_vf_deeds k_va_kinds k_va_firsts k_va_seconds (iv_w hw9 (by decide)) k_a6 k_a7 k_a8 k_cf_voices k_cf_step k_ca_parts k_ca_heights
    · skip
      exact (iv_emp (iv_lta (l := 16) (h := 15) (r_nle c2) hx1 (iv_lit (l := 16) (h := 16) (by decide)) (by decide)) (by decide)).elim
  · skip
    exact (iv_emp (iv_lta (l := 16) (h := 9) (r_nle c1) hx1 (iv_lit (l := 10) (h := 10) (by decide)) (by decide)) (by decide)).elim
set_option maxRecDepth 20000 in
theorem s_tell_17 {lf_huts : Int32} {lf_singers : Int32} {lf_villages : Int32} {lf_dams : Int32} {lf_echoes : Int32} {lf_deep : Int32} {lf_slide : Int32} {la_heights : Nat → Int32} {la_ladders : Nat → Int32} {la_minutes : Nat → Int32} {la_echoFrom : Nat → Int32} {la_echoTo : Nat → Int32} {la_homes : Nat → Int32} {la_talls : Nat → Int32} {la_known : Nat → Int32} {vf_deeds : Int32} {va_kinds : Nat → Int32} {va_firsts : Nat → Int32} {va_seconds : Nat → Int32} {sf_facts : Int32} {sa_heard : Nat → Int32} {sa_huts : Nat → Int32} {sa_minutes : Nat → Int32} {cf_voices : Int32} {cf_step : Int32} {ca_parts : Nat → Int32} {ca_heights : Nat → Int32} {a_numbers : Nat → Int32} {f_hutsToldOf : Int32} {f_singersToldOf : Int32} {x1 : Int32} {post : (Int32) → (Int32) → (Int32) → (Int32) → (Int32) → (Int32) → (Int32) → (Nat → Int32) → (Nat → Int32) → (Nat → Int32) → (Nat → Int32) → (Nat → Int32) → (Nat → Int32) → (Nat → Int32) → (Nat → Int32) → (Int32) → (Nat → Int32) → (Nat → Int32) → (Nat → Int32) → (Int32) → (Nat → Int32) → (Nat → Int32) → (Nat → Int32) → (Int32) → (Int32) → (Nat → Int32) → (Nat → Int32) → (Int32) → (Int32) → Prop} (k_lf_huts : iv 0 9 lf_huts) (k_lf_singers : iv 0 6 lf_singers) (k_lf_villages : iv 0 511 lf_villages) (k_lf_dams : iv 0 511 lf_dams) (k_lf_echoes : iv 0 4 lf_echoes) (k_lf_deep : iv 1 9 lf_deep) (k_lf_slide : iv 0 10 lf_slide) (k_la_heights : ∀ j, iv 0 99 (la_heights j)) (k_la_ladders : ∀ j, iv 0 9 (la_ladders j)) (k_la_minutes : ∀ j, iv 0 9 (la_minutes j)) (k_la_echoFrom : ∀ j, iv 0 8 (la_echoFrom j)) (k_la_echoTo : ∀ j, iv 0 8 (la_echoTo j)) (k_la_homes : ∀ j, iv 0 8 (la_homes j)) (k_la_talls : ∀ j, iv 0 9 (la_talls j)) (k_la_known : ∀ j, iv 0 31 (la_known j)) (k_vf_deeds : iv 0 40 vf_deeds) (k_va_kinds : ∀ j, iv 0 5 (va_kinds j)) (k_va_firsts : ∀ j, iv 0 5 (va_firsts j)) (k_va_seconds : ∀ j, iv (-1) 8 (va_seconds j)) (k_sf_facts : iv 0 9 sf_facts) (k_sa_heard : ∀ j, iv 0 1 (sa_heard j)) (k_sa_huts : ∀ j, iv 0 8 (sa_huts j)) (k_sa_minutes : ∀ j, iv 0 60 (sa_minutes j)) (k_cf_voices : iv 0 9 cf_voices) (k_cf_step : iv 0 9 cf_step) (k_ca_parts : ∀ j, iv 0 3 (ca_parts j)) (k_ca_heights : ∀ j, iv 0 9 (ca_heights j)) (hx1 : iv 17 17 x1) (hn0 : iv 0 8 (a_numbers (Int32.toNatClampNeg (0 : Int32)))) (hn1 : iv 0 60 (a_numbers (Int32.toNatClampNeg (1 : Int32)))) (hpost : ∀ (lf_huts : Int32) (lf_singers : Int32) (lf_villages : Int32) (lf_dams : Int32) (lf_echoes : Int32) (lf_deep : Int32) (lf_slide : Int32) (la_heights : Nat → Int32) (la_ladders : Nat → Int32) (la_minutes : Nat → Int32) (la_echoFrom : Nat → Int32) (la_echoTo : Nat → Int32) (la_homes : Nat → Int32) (la_talls : Nat → Int32) (la_known : Nat → Int32) (vf_deeds : Int32) (va_kinds : Nat → Int32) (va_firsts : Nat → Int32) (va_seconds : Nat → Int32) (sf_facts : Int32) (sa_heard : Nat → Int32) (sa_huts : Nat → Int32) (sa_minutes : Nat → Int32) (cf_voices : Int32) (cf_step : Int32) (ca_parts : Nat → Int32) (ca_heights : Nat → Int32) (f_hutsToldOf : Int32) (f_singersToldOf : Int32), (iv 0 9 lf_huts) → (iv 0 6 lf_singers) → (iv 0 511 lf_villages) → (iv 0 511 lf_dams) → (iv 0 4 lf_echoes) → (iv 1 9 lf_deep) → (iv 0 10 lf_slide) → (∀ j, iv 0 99 (la_heights j)) → (∀ j, iv 0 9 (la_ladders j)) → (∀ j, iv 0 9 (la_minutes j)) → (∀ j, iv 0 8 (la_echoFrom j)) → (∀ j, iv 0 8 (la_echoTo j)) → (∀ j, iv 0 8 (la_homes j)) → (∀ j, iv 0 9 (la_talls j)) → (∀ j, iv 0 31 (la_known j)) → (iv 0 40 vf_deeds) → (∀ j, iv 0 5 (va_kinds j)) → (∀ j, iv 0 5 (va_firsts j)) → (∀ j, iv (-1) 8 (va_seconds j)) → (iv 0 10 sf_facts) → (∀ j, iv 0 1 (sa_heard j)) → (∀ j, iv 0 8 (sa_huts j)) → (∀ j, iv 0 60 (sa_minutes j)) → (iv 0 9 cf_voices) → (iv 0 9 cf_step) → (∀ j, iv 0 3 (ca_parts j)) → (∀ j, iv 0 9 (ca_heights j)) → post lf_huts lf_singers lf_villages lf_dams lf_echoes lf_deep lf_slide la_heights la_ladders la_minutes la_echoFrom la_echoTo la_homes la_talls la_known vf_deeds va_kinds va_firsts va_seconds sf_facts sa_heard sa_huts sa_minutes cf_voices cf_step ca_parts ca_heights f_hutsToldOf f_singersToldOf) : q_wr_X4_tell_0 lf_huts lf_singers lf_villages lf_dams lf_echoes lf_deep lf_slide la_heights la_ladders la_minutes la_echoFrom la_echoTo la_homes la_talls la_known vf_deeds va_kinds va_firsts va_seconds sf_facts sa_heard sa_huts sa_minutes cf_voices cf_step ca_parts ca_heights a_numbers f_hutsToldOf f_singersToldOf x1 post := by
  refine ⟨fun c1 => ?_, fun c1 => ?_⟩
  · skip
    refine ⟨fun c2 => ?_, fun c2 => ?_⟩
    · skip
      refine ⟨fun c3 => ?_, fun c3 => ?_⟩
      · skip
        exact (iv_emp (iv_lea (l := 18) (h := 17) (r_le c3) (iv_lit (l := 18) (h := 18) (by decide)) hx1 (by decide)) (by decide)).elim
      · skip
        refine ⟨fun c4 => ?_, fun c4 => ?_⟩
        · skip
          refine ⟨fun c5 => ?_, fun c5 => ?_⟩
          · skip
            exact (iv_emp (iv_lea (l := 10) (h := 9) (r_le c5) (iv_lit (l := 10) (h := 10) (by decide)) k_sf_facts (by decide)) (by decide)).elim
          · skip
            refine ⟨iv_in k_sf_facts (by decide), ?_⟩
            intro a6 ea6
            have k_a6 := iv_upd ea6 k_sa_heard (iv_w (iv_lit (l := 0) (h := 0) (by decide)) (by decide))
            refine ⟨iv_in k_sf_facts (by decide), ?_⟩
            intro a7 ea7
            have k_a7 := iv_upd ea7 k_sa_huts hn0
            refine ⟨iv_in k_sf_facts (by decide), ?_⟩
            intro a8 ea8
            have k_a8 := iv_upd ea8 k_sa_minutes hn1
            intro w9 ew9
            have hw9 := iv_eq ew9 (iv_add (l := 1) (h := 10) k_sf_facts (iv_lit (l := 1) (h := 1) (by decide)) (by decide))
            exact hpost _ _ _ _ _ _ _ _ _ _ _ _ _ _ _ _ _ _ _ _ _ _ _ _ _ _ _ _ _ k_lf_huts k_lf_singers k_lf_villages k_lf_dams k_lf_echoes k_lf_deep k_lf_slide k_la_heights k_la_ladders k_la_minutes k_la_echoFrom k_la_echoTo k_la_homes k_la_talls k_la_known k_vf_deeds k_va_kinds k_va_firsts k_va_seconds (iv_w hw9 (by decide)) k_a6 k_a7 k_a8 k_cf_voices k_cf_step k_ca_parts k_ca_heights
        · skip
          exact (iv_emp (iv_eqa (l := 17) (h := 16) c4 hx1 (iv_lit (l := 16) (h := 16) (by decide)) (by decide)) (by decide)).elim
    · skip
      exact (iv_emp (iv_lta (l := 17) (h := 15) (r_nle c2) hx1 (iv_lit (l := 16) (h := 16) (by decide)) (by decide)) (by decide)).elim
  · skip
    exact (iv_emp (iv_lta (l := 17) (h := 9) (r_nle c1) hx1 (iv_lit (l := 10) (h := 10) (by decide)) (by decide)) (by decide)).elim
set_option maxRecDepth 20000 in
theorem s_tell_18 {lf_huts : Int32} {lf_singers : Int32} {lf_villages : Int32} {lf_dams : Int32} {lf_echoes : Int32} {lf_deep : Int32} {lf_slide : Int32} {la_heights : Nat → Int32} {la_ladders : Nat → Int32} {la_minutes : Nat → Int32} {la_echoFrom : Nat → Int32} {la_echoTo : Nat → Int32} {la_homes : Nat → Int32} {la_talls : Nat → Int32} {la_known : Nat → Int32} {vf_deeds : Int32} {va_kinds : Nat → Int32} {va_firsts : Nat → Int32} {va_seconds : Nat → Int32} {sf_facts : Int32} {sa_heard : Nat → Int32} {sa_huts : Nat → Int32} {sa_minutes : Nat → Int32} {cf_voices : Int32} {cf_step : Int32} {ca_parts : Nat → Int32} {ca_heights : Nat → Int32} {a_numbers : Nat → Int32} {f_hutsToldOf : Int32} {f_singersToldOf : Int32} {x1 : Int32} {post : (Int32) → (Int32) → (Int32) → (Int32) → (Int32) → (Int32) → (Int32) → (Nat → Int32) → (Nat → Int32) → (Nat → Int32) → (Nat → Int32) → (Nat → Int32) → (Nat → Int32) → (Nat → Int32) → (Nat → Int32) → (Int32) → (Nat → Int32) → (Nat → Int32) → (Nat → Int32) → (Int32) → (Nat → Int32) → (Nat → Int32) → (Nat → Int32) → (Int32) → (Int32) → (Nat → Int32) → (Nat → Int32) → (Int32) → (Int32) → Prop} (k_lf_huts : iv 0 9 lf_huts) (k_lf_singers : iv 0 6 lf_singers) (k_lf_villages : iv 0 511 lf_villages) (k_lf_dams : iv 0 511 lf_dams) (k_lf_echoes : iv 0 4 lf_echoes) (k_lf_deep : iv 1 9 lf_deep) (k_lf_slide : iv 0 10 lf_slide) (k_la_heights : ∀ j, iv 0 99 (la_heights j)) (k_la_ladders : ∀ j, iv 0 9 (la_ladders j)) (k_la_minutes : ∀ j, iv 0 9 (la_minutes j)) (k_la_echoFrom : ∀ j, iv 0 8 (la_echoFrom j)) (k_la_echoTo : ∀ j, iv 0 8 (la_echoTo j)) (k_la_homes : ∀ j, iv 0 8 (la_homes j)) (k_la_talls : ∀ j, iv 0 9 (la_talls j)) (k_la_known : ∀ j, iv 0 31 (la_known j)) (k_vf_deeds : iv 0 40 vf_deeds) (k_va_kinds : ∀ j, iv 0 5 (va_kinds j)) (k_va_firsts : ∀ j, iv 0 5 (va_firsts j)) (k_va_seconds : ∀ j, iv (-1) 8 (va_seconds j)) (k_sf_facts : iv 0 10 sf_facts) (k_sa_heard : ∀ j, iv 0 1 (sa_heard j)) (k_sa_huts : ∀ j, iv 0 8 (sa_huts j)) (k_sa_minutes : ∀ j, iv 0 60 (sa_minutes j)) (k_cf_voices : iv 0 8 cf_voices) (k_cf_step : iv 0 9 cf_step) (k_ca_parts : ∀ j, iv 0 3 (ca_parts j)) (k_ca_heights : ∀ j, iv 0 9 (ca_heights j)) (hx1 : iv 18 18 x1) (hn0 : iv 0 3 (a_numbers (Int32.toNatClampNeg (0 : Int32)))) (hn1 : iv 0 9 (a_numbers (Int32.toNatClampNeg (1 : Int32)))) (hpost : ∀ (lf_huts : Int32) (lf_singers : Int32) (lf_villages : Int32) (lf_dams : Int32) (lf_echoes : Int32) (lf_deep : Int32) (lf_slide : Int32) (la_heights : Nat → Int32) (la_ladders : Nat → Int32) (la_minutes : Nat → Int32) (la_echoFrom : Nat → Int32) (la_echoTo : Nat → Int32) (la_homes : Nat → Int32) (la_talls : Nat → Int32) (la_known : Nat → Int32) (vf_deeds : Int32) (va_kinds : Nat → Int32) (va_firsts : Nat → Int32) (va_seconds : Nat → Int32) (sf_facts : Int32) (sa_heard : Nat → Int32) (sa_huts : Nat → Int32) (sa_minutes : Nat → Int32) (cf_voices : Int32) (cf_step : Int32) (ca_parts : Nat → Int32) (ca_heights : Nat → Int32) (f_hutsToldOf : Int32) (f_singersToldOf : Int32), (iv 0 9 lf_huts) → (iv 0 6 lf_singers) → (iv 0 511 lf_villages) → (iv 0 511 lf_dams) → (iv 0 4 lf_echoes) → (iv 1 9 lf_deep) → (iv 0 10 lf_slide) → (∀ j, iv 0 99 (la_heights j)) → (∀ j, iv 0 9 (la_ladders j)) → (∀ j, iv 0 9 (la_minutes j)) → (∀ j, iv 0 8 (la_echoFrom j)) → (∀ j, iv 0 8 (la_echoTo j)) → (∀ j, iv 0 8 (la_homes j)) → (∀ j, iv 0 9 (la_talls j)) → (∀ j, iv 0 31 (la_known j)) → (iv 0 40 vf_deeds) → (∀ j, iv 0 5 (va_kinds j)) → (∀ j, iv 0 5 (va_firsts j)) → (∀ j, iv (-1) 8 (va_seconds j)) → (iv 0 10 sf_facts) → (∀ j, iv 0 1 (sa_heard j)) → (∀ j, iv 0 8 (sa_huts j)) → (∀ j, iv 0 60 (sa_minutes j)) → (iv 0 9 cf_voices) → (iv 0 9 cf_step) → (∀ j, iv 0 3 (ca_parts j)) → (∀ j, iv 0 9 (ca_heights j)) → post lf_huts lf_singers lf_villages lf_dams lf_echoes lf_deep lf_slide la_heights la_ladders la_minutes la_echoFrom la_echoTo la_homes la_talls la_known vf_deeds va_kinds va_firsts va_seconds sf_facts sa_heard sa_huts sa_minutes cf_voices cf_step ca_parts ca_heights f_hutsToldOf f_singersToldOf) : q_wr_X4_tell_0 lf_huts lf_singers lf_villages lf_dams lf_echoes lf_deep lf_slide la_heights la_ladders la_minutes la_echoFrom la_echoTo la_homes la_talls la_known vf_deeds va_kinds va_firsts va_seconds sf_facts sa_heard sa_huts sa_minutes cf_voices cf_step ca_parts ca_heights a_numbers f_hutsToldOf f_singersToldOf x1 post := by
  refine ⟨fun c1 => ?_, fun c1 => ?_⟩
  · skip
    refine ⟨fun c2 => ?_, fun c2 => ?_⟩
    · skip
      refine ⟨fun c3 => ?_, fun c3 => ?_⟩
      · skip
        refine ⟨fun c4 => ?_, fun c4 => ?_⟩
        · skip
          exact (iv_emp (iv_ne (l := 19) (h := 18) c4 hx1 (iv_lit (l := 18) (h := 18) (by decide)) (by decide)) (by decide)).elim
        · skip
          refine ⟨fun c5 => ?_, fun c5 => ?_⟩
          · skip
            exact (iv_emp (iv_lea (l := 9) (h := 8) (r_le c5) (iv_lit (l := 9) (h := 9) (by decide)) k_cf_voices (by decide)) (by decide)).elim
          · skip
            refine ⟨iv_in k_cf_voices (by decide), ?_⟩
            intro a6 ea6
            have k_a6 := iv_upd ea6 k_ca_parts hn0
            refine ⟨iv_in k_cf_voices (by decide), ?_⟩
            intro a7 ea7
            have k_a7 := iv_upd ea7 k_ca_heights hn1
            intro w8 ew8
            have hw8 := iv_eq ew8 (iv_add (l := 1) (h := 9) k_cf_voices (iv_lit (l := 1) (h := 1) (by decide)) (by decide))
            exact hpost _ _ _ _ _ _ _ _ _ _ _ _ _ _ _ _ _ _ _ _ _ _ _ _ _ _ _ _ _ k_lf_huts k_lf_singers k_lf_villages k_lf_dams k_lf_echoes k_lf_deep k_lf_slide k_la_heights k_la_ladders k_la_minutes k_la_echoFrom k_la_echoTo k_la_homes k_la_talls k_la_known k_vf_deeds k_va_kinds k_va_firsts k_va_seconds k_sf_facts k_sa_heard k_sa_huts k_sa_minutes (iv_w hw8 (by decide)) k_cf_step k_a6 k_a7
      · skip
        exact (iv_emp (iv_lta (l := 18) (h := 17) (r_nle c3) hx1 (iv_lit (l := 18) (h := 18) (by decide)) (by decide)) (by decide)).elim
    · skip
      exact (iv_emp (iv_lta (l := 18) (h := 15) (r_nle c2) hx1 (iv_lit (l := 16) (h := 16) (by decide)) (by decide)) (by decide)).elim
  · skip
    exact (iv_emp (iv_lta (l := 18) (h := 9) (r_nle c1) hx1 (iv_lit (l := 10) (h := 10) (by decide)) (by decide)) (by decide)).elim
set_option maxRecDepth 20000 in
theorem s_tell_19 {lf_huts : Int32} {lf_singers : Int32} {lf_villages : Int32} {lf_dams : Int32} {lf_echoes : Int32} {lf_deep : Int32} {lf_slide : Int32} {la_heights : Nat → Int32} {la_ladders : Nat → Int32} {la_minutes : Nat → Int32} {la_echoFrom : Nat → Int32} {la_echoTo : Nat → Int32} {la_homes : Nat → Int32} {la_talls : Nat → Int32} {la_known : Nat → Int32} {vf_deeds : Int32} {va_kinds : Nat → Int32} {va_firsts : Nat → Int32} {va_seconds : Nat → Int32} {sf_facts : Int32} {sa_heard : Nat → Int32} {sa_huts : Nat → Int32} {sa_minutes : Nat → Int32} {cf_voices : Int32} {cf_step : Int32} {ca_parts : Nat → Int32} {ca_heights : Nat → Int32} {a_numbers : Nat → Int32} {f_hutsToldOf : Int32} {f_singersToldOf : Int32} {x1 : Int32} {post : (Int32) → (Int32) → (Int32) → (Int32) → (Int32) → (Int32) → (Int32) → (Nat → Int32) → (Nat → Int32) → (Nat → Int32) → (Nat → Int32) → (Nat → Int32) → (Nat → Int32) → (Nat → Int32) → (Nat → Int32) → (Int32) → (Nat → Int32) → (Nat → Int32) → (Nat → Int32) → (Int32) → (Nat → Int32) → (Nat → Int32) → (Nat → Int32) → (Int32) → (Int32) → (Nat → Int32) → (Nat → Int32) → (Int32) → (Int32) → Prop} (k_lf_huts : iv 0 9 lf_huts) (k_lf_singers : iv 0 6 lf_singers) (k_lf_villages : iv 0 511 lf_villages) (k_lf_dams : iv 0 511 lf_dams) (k_lf_echoes : iv 0 4 lf_echoes) (k_lf_deep : iv 1 9 lf_deep) (k_lf_slide : iv 0 10 lf_slide) (k_la_heights : ∀ j, iv 0 99 (la_heights j)) (k_la_ladders : ∀ j, iv 0 9 (la_ladders j)) (k_la_minutes : ∀ j, iv 0 9 (la_minutes j)) (k_la_echoFrom : ∀ j, iv 0 8 (la_echoFrom j)) (k_la_echoTo : ∀ j, iv 0 8 (la_echoTo j)) (k_la_homes : ∀ j, iv 0 8 (la_homes j)) (k_la_talls : ∀ j, iv 0 9 (la_talls j)) (k_la_known : ∀ j, iv 0 31 (la_known j)) (k_vf_deeds : iv 0 40 vf_deeds) (k_va_kinds : ∀ j, iv 0 5 (va_kinds j)) (k_va_firsts : ∀ j, iv 0 5 (va_firsts j)) (k_va_seconds : ∀ j, iv (-1) 8 (va_seconds j)) (k_sf_facts : iv 0 10 sf_facts) (k_sa_heard : ∀ j, iv 0 1 (sa_heard j)) (k_sa_huts : ∀ j, iv 0 8 (sa_huts j)) (k_sa_minutes : ∀ j, iv 0 60 (sa_minutes j)) (k_cf_voices : iv 0 9 cf_voices) (k_cf_step : iv 0 9 cf_step) (k_ca_parts : ∀ j, iv 0 3 (ca_parts j)) (k_ca_heights : ∀ j, iv 0 9 (ca_heights j)) (hx1 : iv 19 19 x1) (hn0 : iv 0 9 (a_numbers (Int32.toNatClampNeg (0 : Int32)))) (hpost : ∀ (lf_huts : Int32) (lf_singers : Int32) (lf_villages : Int32) (lf_dams : Int32) (lf_echoes : Int32) (lf_deep : Int32) (lf_slide : Int32) (la_heights : Nat → Int32) (la_ladders : Nat → Int32) (la_minutes : Nat → Int32) (la_echoFrom : Nat → Int32) (la_echoTo : Nat → Int32) (la_homes : Nat → Int32) (la_talls : Nat → Int32) (la_known : Nat → Int32) (vf_deeds : Int32) (va_kinds : Nat → Int32) (va_firsts : Nat → Int32) (va_seconds : Nat → Int32) (sf_facts : Int32) (sa_heard : Nat → Int32) (sa_huts : Nat → Int32) (sa_minutes : Nat → Int32) (cf_voices : Int32) (cf_step : Int32) (ca_parts : Nat → Int32) (ca_heights : Nat → Int32) (f_hutsToldOf : Int32) (f_singersToldOf : Int32), (iv 0 9 lf_huts) → (iv 0 6 lf_singers) → (iv 0 511 lf_villages) → (iv 0 511 lf_dams) → (iv 0 4 lf_echoes) → (iv 1 9 lf_deep) → (iv 0 10 lf_slide) → (∀ j, iv 0 99 (la_heights j)) → (∀ j, iv 0 9 (la_ladders j)) → (∀ j, iv 0 9 (la_minutes j)) → (∀ j, iv 0 8 (la_echoFrom j)) → (∀ j, iv 0 8 (la_echoTo j)) → (∀ j, iv 0 8 (la_homes j)) → (∀ j, iv 0 9 (la_talls j)) → (∀ j, iv 0 31 (la_known j)) → (iv 0 40 vf_deeds) → (∀ j, iv 0 5 (va_kinds j)) → (∀ j, iv 0 5 (va_firsts j)) → (∀ j, iv (-1) 8 (va_seconds j)) → (iv 0 10 sf_facts) → (∀ j, iv 0 1 (sa_heard j)) → (∀ j, iv 0 8 (sa_huts j)) → (∀ j, iv 0 60 (sa_minutes j)) → (iv 0 9 cf_voices) → (iv 0 9 cf_step) → (∀ j, iv 0 3 (ca_parts j)) → (∀ j, iv 0 9 (ca_heights j)) → post lf_huts lf_singers lf_villages lf_dams lf_echoes lf_deep lf_slide la_heights la_ladders la_minutes la_echoFrom la_echoTo la_homes la_talls la_known vf_deeds va_kinds va_firsts va_seconds sf_facts sa_heard sa_huts sa_minutes cf_voices cf_step ca_parts ca_heights f_hutsToldOf f_singersToldOf) : q_wr_X4_tell_0 lf_huts lf_singers lf_villages lf_dams lf_echoes lf_deep lf_slide la_heights la_ladders la_minutes la_echoFrom la_echoTo la_homes la_talls la_known vf_deeds va_kinds va_firsts va_seconds sf_facts sa_heard sa_huts sa_minutes cf_voices cf_step ca_parts ca_heights a_numbers f_hutsToldOf f_singersToldOf x1 post := by
  refine ⟨fun c1 => ?_, fun c1 => ?_⟩
  · skip
    refine ⟨fun c2 => ?_, fun c2 => ?_⟩
    · skip
      refine ⟨fun c3 => ?_, fun c3 => ?_⟩
      · skip
        refine ⟨fun c4 => ?_, fun c4 => ?_⟩
        · skip
          intro w5 ew5
          have hw5 := iv_eq ew5 hn0
          exact hpost _ _ _ _ _ _ _ _ _ _ _ _ _ _ _ _ _ _ _ _ _ _ _ _ _ _ _ _ _ k_lf_huts k_lf_singers k_lf_villages k_lf_dams k_lf_echoes k_lf_deep k_lf_slide k_la_heights k_la_ladders k_la_minutes k_la_echoFrom k_la_echoTo k_la_homes k_la_talls k_la_known k_vf_deeds k_va_kinds k_va_firsts k_va_seconds k_sf_facts k_sa_heard k_sa_huts k_sa_minutes k_cf_voices hw5 k_ca_parts k_ca_heights
        · skip
          exact (iv_emp (iv_eqa (l := 19) (h := 18) c4 hx1 (iv_lit (l := 18) (h := 18) (by decide)) (by decide)) (by decide)).elim
      · skip
        exact (iv_emp (iv_lta (l := 19) (h := 17) (r_nle c3) hx1 (iv_lit (l := 18) (h := 18) (by decide)) (by decide)) (by decide)).elim
    · skip
      exact (iv_emp (iv_lta (l := 19) (h := 15) (r_nle c2) hx1 (iv_lit (l := 16) (h := 16) (by decide)) (by decide)) (by decide)).elim
  · skip
    exact (iv_emp (iv_lta (l := 19) (h := 9) (r_nle c1) hx1 (iv_lit (l := 10) (h := 10) (by decide)) (by decide)) (by decide)).elim
set_option maxRecDepth 20000 in
theorem s_wr_X4_tell_0 {lf_huts : Int32} {lf_singers : Int32} {lf_villages : Int32} {lf_dams : Int32} {lf_echoes : Int32} {lf_deep : Int32} {lf_slide : Int32} {la_heights : Nat → Int32} {la_ladders : Nat → Int32} {la_minutes : Nat → Int32} {la_echoFrom : Nat → Int32} {la_echoTo : Nat → Int32} {la_homes : Nat → Int32} {la_talls : Nat → Int32} {la_known : Nat → Int32} {vf_deeds : Int32} {va_kinds : Nat → Int32} {va_firsts : Nat → Int32} {va_seconds : Nat → Int32} {sf_facts : Int32} {sa_heard : Nat → Int32} {sa_huts : Nat → Int32} {sa_minutes : Nat → Int32} {cf_voices : Int32} {cf_step : Int32} {ca_parts : Nat → Int32} {ca_heights : Nat → Int32} {a_numbers : Nat → Int32} {f_hutsToldOf : Int32} {f_singersToldOf : Int32} {x1 : Int32} {post : (Int32) → (Int32) → (Int32) → (Int32) → (Int32) → (Int32) → (Int32) → (Nat → Int32) → (Nat → Int32) → (Nat → Int32) → (Nat → Int32) → (Nat → Int32) → (Nat → Int32) → (Nat → Int32) → (Nat → Int32) → (Int32) → (Nat → Int32) → (Nat → Int32) → (Nat → Int32) → (Int32) → (Nat → Int32) → (Nat → Int32) → (Nat → Int32) → (Int32) → (Int32) → (Nat → Int32) → (Nat → Int32) → (Int32) → (Int32) → Prop} (k_lf_huts : iv 0 9 lf_huts) (k_lf_singers : iv 0 6 lf_singers) (k_lf_villages : iv 0 511 lf_villages) (k_lf_dams : iv 0 511 lf_dams) (k_lf_echoes : iv 0 4 lf_echoes) (k_lf_deep : iv 1 9 lf_deep) (k_lf_slide : iv 0 10 lf_slide) (k_la_heights : ∀ j, iv 0 99 (la_heights j)) (k_la_ladders : ∀ j, iv 0 9 (la_ladders j)) (k_la_minutes : ∀ j, iv 0 9 (la_minutes j)) (k_la_echoFrom : ∀ j, iv 0 8 (la_echoFrom j)) (k_la_echoTo : ∀ j, iv 0 8 (la_echoTo j)) (k_la_homes : ∀ j, iv 0 8 (la_homes j)) (k_la_talls : ∀ j, iv 0 9 (la_talls j)) (k_la_known : ∀ j, iv 0 31 (la_known j)) (k_vf_deeds : iv 0 40 vf_deeds) (k_va_kinds : ∀ j, iv 0 5 (va_kinds j)) (k_va_firsts : ∀ j, iv 0 5 (va_firsts j)) (k_va_seconds : ∀ j, iv (-1) 8 (va_seconds j)) (k_sf_facts : iv 0 10 sf_facts) (k_sa_heard : ∀ j, iv 0 1 (sa_heard j)) (k_sa_huts : ∀ j, iv 0 8 (sa_huts j)) (k_sa_minutes : ∀ j, iv 0 60 (sa_minutes j)) (k_cf_voices : iv 0 9 cf_voices) (k_cf_step : iv 0 9 cf_step) (k_ca_parts : ∀ j, iv 0 3 (ca_parts j)) (k_ca_heights : ∀ j, iv 0 9 (ca_heights j)) (hx1 : iv 0 19 x1) (hF : rNF x1 lf_huts lf_echoes lf_singers vf_deeds sf_facts cf_voices) (hB : rNB x1 a_numbers (tbf_1 x1.toNatClampNeg).toNatClampNeg) (hpost : ∀ (lf_huts : Int32) (lf_singers : Int32) (lf_villages : Int32) (lf_dams : Int32) (lf_echoes : Int32) (lf_deep : Int32) (lf_slide : Int32) (la_heights : Nat → Int32) (la_ladders : Nat → Int32) (la_minutes : Nat → Int32) (la_echoFrom : Nat → Int32) (la_echoTo : Nat → Int32) (la_homes : Nat → Int32) (la_talls : Nat → Int32) (la_known : Nat → Int32) (vf_deeds : Int32) (va_kinds : Nat → Int32) (va_firsts : Nat → Int32) (va_seconds : Nat → Int32) (sf_facts : Int32) (sa_heard : Nat → Int32) (sa_huts : Nat → Int32) (sa_minutes : Nat → Int32) (cf_voices : Int32) (cf_step : Int32) (ca_parts : Nat → Int32) (ca_heights : Nat → Int32) (f_hutsToldOf : Int32) (f_singersToldOf : Int32), (iv 0 9 lf_huts) → (iv 0 6 lf_singers) → (iv 0 511 lf_villages) → (iv 0 511 lf_dams) → (iv 0 4 lf_echoes) → (iv 1 9 lf_deep) → (iv 0 10 lf_slide) → (∀ j, iv 0 99 (la_heights j)) → (∀ j, iv 0 9 (la_ladders j)) → (∀ j, iv 0 9 (la_minutes j)) → (∀ j, iv 0 8 (la_echoFrom j)) → (∀ j, iv 0 8 (la_echoTo j)) → (∀ j, iv 0 8 (la_homes j)) → (∀ j, iv 0 9 (la_talls j)) → (∀ j, iv 0 31 (la_known j)) → (iv 0 40 vf_deeds) → (∀ j, iv 0 5 (va_kinds j)) → (∀ j, iv 0 5 (va_firsts j)) → (∀ j, iv (-1) 8 (va_seconds j)) → (iv 0 10 sf_facts) → (∀ j, iv 0 1 (sa_heard j)) → (∀ j, iv 0 8 (sa_huts j)) → (∀ j, iv 0 60 (sa_minutes j)) → (iv 0 9 cf_voices) → (iv 0 9 cf_step) → (∀ j, iv 0 3 (ca_parts j)) → (∀ j, iv 0 9 (ca_heights j)) → post lf_huts lf_singers lf_villages lf_dams lf_echoes lf_deep lf_slide la_heights la_ladders la_minutes la_echoFrom la_echoTo la_homes la_talls la_known vf_deeds va_kinds va_firsts va_seconds sf_facts sa_heard sa_huts sa_minutes cf_voices cf_step ca_parts ca_heights f_hutsToldOf f_singersToldOf) : q_wr_X4_tell_0 lf_huts lf_singers lf_villages lf_dams lf_echoes lf_deep lf_slide la_heights la_ladders la_minutes la_echoFrom la_echoTo la_homes la_talls la_known vf_deeds va_kinds va_firsts va_seconds sf_facts sa_heard sa_huts sa_minutes cf_voices cf_step ca_parts ca_heights a_numbers f_hutsToldOf f_singersToldOf x1 post := by
  obtain ⟨w, rfl, -, w2, hw⟩ := iv_nI hx1 (by decide)
  rcases (by omega : w = 0 ∨ w = 1 ∨ w = 2 ∨ w = 3 ∨ w = 4 ∨ w = 5 ∨ w = 6 ∨ w = 7 ∨ w = 8 ∨ w = 9 ∨ w = 10 ∨ w = 11 ∨ w = 12 ∨ w = 13 ∨ w = 14 ∨ w = 15 ∨ w = 16 ∨ w = 17 ∨ w = 18 ∨ w = 19) with rfl | rfl | rfl | rfl | rfl | rfl | rfl | rfl | rfl | rfl | rfl | rfl | rfl | rfl | rfl | rfl | rfl | rfl | rfl | rfl
  · exact s_tell_0 (iv_ne (l := 0) (h := 8) (hF.1 rfl) k_lf_huts (iv_lit (x := 9) (l := 9) (h := 9) (by decide)) (by decide)) k_lf_singers k_lf_villages k_lf_dams k_lf_echoes k_lf_deep k_lf_slide k_la_heights k_la_ladders k_la_minutes k_la_echoFrom k_la_echoTo k_la_homes k_la_talls k_la_known k_vf_deeds k_va_kinds k_va_firsts k_va_seconds k_sf_facts k_sa_heard k_sa_huts k_sa_minutes k_cf_voices k_cf_step k_ca_parts k_ca_heights (iv_lit (by decide +kernel)) (rb_iv (hB 0 (by decide +kernel)) (by decide +kernel)) hpost
  · exact s_tell_1 k_lf_huts k_lf_singers k_lf_villages k_lf_dams k_lf_echoes k_lf_deep k_lf_slide k_la_heights k_la_ladders k_la_minutes k_la_echoFrom k_la_echoTo k_la_homes k_la_talls k_la_known k_vf_deeds k_va_kinds k_va_firsts k_va_seconds k_sf_facts k_sa_heard k_sa_huts k_sa_minutes k_cf_voices k_cf_step k_ca_parts k_ca_heights (iv_lit (by decide +kernel)) (rb_iv (hB 0 (by decide +kernel)) (by decide +kernel)) hpost
  · exact s_tell_2 k_lf_huts k_lf_singers k_lf_villages k_lf_dams k_lf_echoes k_lf_deep k_lf_slide k_la_heights k_la_ladders k_la_minutes k_la_echoFrom k_la_echoTo k_la_homes k_la_talls k_la_known k_vf_deeds k_va_kinds k_va_firsts k_va_seconds k_sf_facts k_sa_heard k_sa_huts k_sa_minutes k_cf_voices k_cf_step k_ca_parts k_ca_heights (iv_lit (by decide +kernel)) (rb_iv (hB 0 (by decide +kernel)) (by decide +kernel)) hpost
  · exact s_tell_3 k_lf_huts k_lf_singers k_lf_villages k_lf_dams k_lf_echoes k_lf_deep k_lf_slide k_la_heights k_la_ladders k_la_minutes k_la_echoFrom k_la_echoTo k_la_homes k_la_talls k_la_known k_vf_deeds k_va_kinds k_va_firsts k_va_seconds k_sf_facts k_sa_heard k_sa_huts k_sa_minutes k_cf_voices k_cf_step k_ca_parts k_ca_heights (iv_lit (by decide +kernel)) (rb_iv (hB 0 (by decide +kernel)) (by decide +kernel)) hpost
  · exact s_tell_4 k_lf_huts k_lf_singers k_lf_villages k_lf_dams k_lf_echoes k_lf_deep k_lf_slide k_la_heights k_la_ladders k_la_minutes k_la_echoFrom k_la_echoTo k_la_homes k_la_talls k_la_known k_vf_deeds k_va_kinds k_va_firsts k_va_seconds k_sf_facts k_sa_heard k_sa_huts k_sa_minutes k_cf_voices k_cf_step k_ca_parts k_ca_heights (iv_lit (by decide +kernel)) (rb_iv (hB 0 (by decide +kernel)) (by decide +kernel)) hpost
  · exact s_tell_5 k_lf_huts k_lf_singers k_lf_villages k_lf_dams k_lf_echoes k_lf_deep k_lf_slide k_la_heights k_la_ladders k_la_minutes k_la_echoFrom k_la_echoTo k_la_homes k_la_talls k_la_known k_vf_deeds k_va_kinds k_va_firsts k_va_seconds k_sf_facts k_sa_heard k_sa_huts k_sa_minutes k_cf_voices k_cf_step k_ca_parts k_ca_heights (iv_lit (by decide +kernel)) (rb_iv (hB 0 (by decide +kernel)) (by decide +kernel)) (rb_iv (hB 1 (by decide +kernel)) (by decide +kernel)) (rb_iv (hB 2 (by decide +kernel)) (by decide +kernel)) hpost
  · exact s_tell_6 k_lf_huts k_lf_singers k_lf_villages k_lf_dams (iv_ne (l := 0) (h := 3) (hF.2.1 rfl) k_lf_echoes (iv_lit (x := 4) (l := 4) (h := 4) (by decide)) (by decide)) k_lf_deep k_lf_slide k_la_heights k_la_ladders k_la_minutes k_la_echoFrom k_la_echoTo k_la_homes k_la_talls k_la_known k_vf_deeds k_va_kinds k_va_firsts k_va_seconds k_sf_facts k_sa_heard k_sa_huts k_sa_minutes k_cf_voices k_cf_step k_ca_parts k_ca_heights (iv_lit (by decide +kernel)) (rb_iv (hB 0 (by decide +kernel)) (by decide +kernel)) (rb_iv (hB 1 (by decide +kernel)) (by decide +kernel)) hpost
  · exact s_tell_7 k_lf_huts k_lf_singers k_lf_villages k_lf_dams k_lf_echoes k_lf_deep k_lf_slide k_la_heights k_la_ladders k_la_minutes k_la_echoFrom k_la_echoTo k_la_homes k_la_talls k_la_known k_vf_deeds k_va_kinds k_va_firsts k_va_seconds k_sf_facts k_sa_heard k_sa_huts k_sa_minutes k_cf_voices k_cf_step k_ca_parts k_ca_heights (iv_lit (by decide +kernel)) (rb_iv (hB 0 (by decide +kernel)) (by decide +kernel)) (rb_iv (hB 1 (by decide +kernel)) (by decide +kernel)) hpost
  · exact s_tell_8 k_lf_huts (iv_ne (l := 0) (h := 5) (hF.2.2.1 rfl) k_lf_singers (iv_lit (x := 6) (l := 6) (h := 6) (by decide)) (by decide)) k_lf_villages k_lf_dams k_lf_echoes k_lf_deep k_lf_slide k_la_heights k_la_ladders k_la_minutes k_la_echoFrom k_la_echoTo k_la_homes k_la_talls k_la_known k_vf_deeds k_va_kinds k_va_firsts k_va_seconds k_sf_facts k_sa_heard k_sa_huts k_sa_minutes k_cf_voices k_cf_step k_ca_parts k_ca_heights (iv_lit (by decide +kernel)) (rb_iv (hB 0 (by decide +kernel)) (by decide +kernel)) (rb_iv (hB 1 (by decide +kernel)) (by decide +kernel)) hpost
  · exact s_tell_9 k_lf_huts k_lf_singers k_lf_villages k_lf_dams k_lf_echoes k_lf_deep k_lf_slide k_la_heights k_la_ladders k_la_minutes k_la_echoFrom k_la_echoTo k_la_homes k_la_talls k_la_known k_vf_deeds k_va_kinds k_va_firsts k_va_seconds k_sf_facts k_sa_heard k_sa_huts k_sa_minutes k_cf_voices k_cf_step k_ca_parts k_ca_heights (iv_lit (by decide +kernel)) (rb_iv (hB 0 (by decide +kernel)) (by decide +kernel)) (rb_iv (hB 1 (by decide +kernel)) (by decide +kernel)) hpost
  · exact s_tell_10 k_lf_huts k_lf_singers k_lf_villages k_lf_dams k_lf_echoes k_lf_deep k_lf_slide k_la_heights k_la_ladders k_la_minutes k_la_echoFrom k_la_echoTo k_la_homes k_la_talls k_la_known (iv_ne (l := 0) (h := 39) (hF.2.2.2.1 (by decide +kernel)) k_vf_deeds (iv_lit (x := 40) (l := 40) (h := 40) (by decide)) (by decide)) k_va_kinds k_va_firsts k_va_seconds k_sf_facts k_sa_heard k_sa_huts k_sa_minutes k_cf_voices k_cf_step k_ca_parts k_ca_heights (iv_lit (by decide +kernel)) (rb_iv (hB 0 (by decide +kernel)) (by decide +kernel)) (rb_iv (hB 1 (by decide +kernel)) (by decide +kernel)) hpost
  · exact s_tell_11 k_lf_huts k_lf_singers k_lf_villages k_lf_dams k_lf_echoes k_lf_deep k_lf_slide k_la_heights k_la_ladders k_la_minutes k_la_echoFrom k_la_echoTo k_la_homes k_la_talls k_la_known (iv_ne (l := 0) (h := 39) (hF.2.2.2.1 (by decide +kernel)) k_vf_deeds (iv_lit (x := 40) (l := 40) (h := 40) (by decide)) (by decide)) k_va_kinds k_va_firsts k_va_seconds k_sf_facts k_sa_heard k_sa_huts k_sa_minutes k_cf_voices k_cf_step k_ca_parts k_ca_heights (iv_lit (by decide +kernel)) (rb_iv (hB 0 (by decide +kernel)) (by decide +kernel)) (rb_iv (hB 1 (by decide +kernel)) (by decide +kernel)) hpost
  · exact s_tell_12 k_lf_huts k_lf_singers k_lf_villages k_lf_dams k_lf_echoes k_lf_deep k_lf_slide k_la_heights k_la_ladders k_la_minutes k_la_echoFrom k_la_echoTo k_la_homes k_la_talls k_la_known (iv_ne (l := 0) (h := 39) (hF.2.2.2.1 (by decide +kernel)) k_vf_deeds (iv_lit (x := 40) (l := 40) (h := 40) (by decide)) (by decide)) k_va_kinds k_va_firsts k_va_seconds k_sf_facts k_sa_heard k_sa_huts k_sa_minutes k_cf_voices k_cf_step k_ca_parts k_ca_heights (iv_lit (by decide +kernel)) (rb_iv (hB 0 (by decide +kernel)) (by decide +kernel)) (rb_iv (hB 1 (by decide +kernel)) (by decide +kernel)) hpost
  · exact s_tell_13 k_lf_huts k_lf_singers k_lf_villages k_lf_dams k_lf_echoes k_lf_deep k_lf_slide k_la_heights k_la_ladders k_la_minutes k_la_echoFrom k_la_echoTo k_la_homes k_la_talls k_la_known (iv_ne (l := 0) (h := 39) (hF.2.2.2.1 (by decide +kernel)) k_vf_deeds (iv_lit (x := 40) (l := 40) (h := 40) (by decide)) (by decide)) k_va_kinds k_va_firsts k_va_seconds k_sf_facts k_sa_heard k_sa_huts k_sa_minutes k_cf_voices k_cf_step k_ca_parts k_ca_heights (iv_lit (by decide +kernel)) (rb_iv (hB 0 (by decide +kernel)) (by decide +kernel)) (rb_iv (hB 1 (by decide +kernel)) (by decide +kernel)) hpost
  · exact s_tell_14 k_lf_huts k_lf_singers k_lf_villages k_lf_dams k_lf_echoes k_lf_deep k_lf_slide k_la_heights k_la_ladders k_la_minutes k_la_echoFrom k_la_echoTo k_la_homes k_la_talls k_la_known (iv_ne (l := 0) (h := 39) (hF.2.2.2.1 (by decide +kernel)) k_vf_deeds (iv_lit (x := 40) (l := 40) (h := 40) (by decide)) (by decide)) k_va_kinds k_va_firsts k_va_seconds k_sf_facts k_sa_heard k_sa_huts k_sa_minutes k_cf_voices k_cf_step k_ca_parts k_ca_heights (iv_lit (by decide +kernel)) (rb_iv (hB 0 (by decide +kernel)) (by decide +kernel)) hpost
  · exact s_tell_15 k_lf_huts k_lf_singers k_lf_villages k_lf_dams k_lf_echoes k_lf_deep k_lf_slide k_la_heights k_la_ladders k_la_minutes k_la_echoFrom k_la_echoTo k_la_homes k_la_talls k_la_known (iv_ne (l := 0) (h := 39) (hF.2.2.2.1 (by decide +kernel)) k_vf_deeds (iv_lit (x := 40) (l := 40) (h := 40) (by decide)) (by decide)) k_va_kinds k_va_firsts k_va_seconds k_sf_facts k_sa_heard k_sa_huts k_sa_minutes k_cf_voices k_cf_step k_ca_parts k_ca_heights (iv_lit (by decide +kernel)) (rb_iv (hB 0 (by decide +kernel)) (by decide +kernel)) hpost
  · exact s_tell_16 k_lf_huts k_lf_singers k_lf_villages k_lf_dams k_lf_echoes k_lf_deep k_lf_slide k_la_heights k_la_ladders k_la_minutes k_la_echoFrom k_la_echoTo k_la_homes k_la_talls k_la_known k_vf_deeds k_va_kinds k_va_firsts k_va_seconds (iv_ne (l := 0) (h := 9) (hF.2.2.2.2.1 (Or.inl rfl)) k_sf_facts (iv_lit (x := 10) (l := 10) (h := 10) (by decide)) (by decide)) k_sa_heard k_sa_huts k_sa_minutes k_cf_voices k_cf_step k_ca_parts k_ca_heights (iv_lit (by decide +kernel)) (rb_iv (hB 0 (by decide +kernel)) (by decide +kernel)) (rb_iv (hB 1 (by decide +kernel)) (by decide +kernel)) hpost
  · exact s_tell_17 k_lf_huts k_lf_singers k_lf_villages k_lf_dams k_lf_echoes k_lf_deep k_lf_slide k_la_heights k_la_ladders k_la_minutes k_la_echoFrom k_la_echoTo k_la_homes k_la_talls k_la_known k_vf_deeds k_va_kinds k_va_firsts k_va_seconds (iv_ne (l := 0) (h := 9) (hF.2.2.2.2.1 (Or.inr rfl)) k_sf_facts (iv_lit (x := 10) (l := 10) (h := 10) (by decide)) (by decide)) k_sa_heard k_sa_huts k_sa_minutes k_cf_voices k_cf_step k_ca_parts k_ca_heights (iv_lit (by decide +kernel)) (rb_iv (hB 0 (by decide +kernel)) (by decide +kernel)) (rb_iv (hB 1 (by decide +kernel)) (by decide +kernel)) hpost
  · exact s_tell_18 k_lf_huts k_lf_singers k_lf_villages k_lf_dams k_lf_echoes k_lf_deep k_lf_slide k_la_heights k_la_ladders k_la_minutes k_la_echoFrom k_la_echoTo k_la_homes k_la_talls k_la_known k_vf_deeds k_va_kinds k_va_firsts k_va_seconds k_sf_facts k_sa_heard k_sa_huts k_sa_minutes (iv_ne (l := 0) (h := 8) (hF.2.2.2.2.2 rfl) k_cf_voices (iv_lit (x := 9) (l := 9) (h := 9) (by decide)) (by decide)) k_cf_step k_ca_parts k_ca_heights (iv_lit (by decide +kernel)) (rb_iv (hB 0 (by decide +kernel)) (by decide +kernel)) (rb_iv (hB 1 (by decide +kernel)) (by decide +kernel)) hpost
  · exact s_tell_19 k_lf_huts k_lf_singers k_lf_villages k_lf_dams k_lf_echoes k_lf_deep k_lf_slide k_la_heights k_la_ladders k_la_minutes k_la_echoFrom k_la_echoTo k_la_homes k_la_talls k_la_known k_vf_deeds k_va_kinds k_va_firsts k_va_seconds k_sf_facts k_sa_heard k_sa_huts k_sa_minutes k_cf_voices k_cf_step k_ca_parts k_ca_heights (iv_lit (by decide +kernel)) (rb_iv (hB 0 (by decide +kernel)) (by decide +kernel)) hpost
-- wr_X4_readLine
theorem s_isFull_30 {lf_huts lf_singers lf_echoes vf_deeds sf_facts cf_voices x1 : Int32} {post : Int32 → Prop} (hx1 : iv 0 19 x1) (hr : x1.toInt < 10 ∨ 16 ≤ x1.toInt) (h1 : post 1) (h0 : rNF x1 lf_huts lf_echoes lf_singers vf_deeds sf_facts cf_voices → post 0) : q_wr_X4_isFull_30 lf_huts lf_singers lf_echoes vf_deeds sf_facts cf_voices x1 post := by
  obtain ⟨a1, a2⟩ := hx1
  have z : ∀ (k : Int32) (n : Int), k.toInt = n → x1 = k → x1.toInt = n := fun k n hk h => by rw [h]; exact hk
  refine ⟨fun h => h0 ⟨fun e2 => absurd e2 (by omega), fun e2 => absurd e2 (by omega), fun e2 => absurd e2 (by omega), fun e2 => absurd e2 (by omega), fun e2 => absurd e2 (by omega), fun e2 => absurd e2 (by omega)⟩, fun h => have e := z _ 0 rfl h; ⟨fun hc => h0 ⟨fun _ => hc, fun e2 => absurd e2 (by omega), fun e2 => absurd e2 (by omega), fun e2 => absurd e2 (by omega), fun e2 => absurd e2 (by omega), fun e2 => absurd e2 (by omega)⟩, fun _ => h1⟩, fun h => have e := z _ 1 rfl h; h0 ⟨fun e2 => absurd e2 (by omega), fun e2 => absurd e2 (by omega), fun e2 => absurd e2 (by omega), fun e2 => absurd e2 (by omega), fun e2 => absurd e2 (by omega), fun e2 => absurd e2 (by omega)⟩, fun h => have e := z _ 2 rfl h; h0 ⟨fun e2 => absurd e2 (by omega), fun e2 => absurd e2 (by omega), fun e2 => absurd e2 (by omega), fun e2 => absurd e2 (by omega), fun e2 => absurd e2 (by omega), fun e2 => absurd e2 (by omega)⟩, fun h => have e := z _ 3 rfl h; h0 ⟨fun e2 => absurd e2 (by omega), fun e2 => absurd e2 (by omega), fun e2 => absurd e2 (by omega), fun e2 => absurd e2 (by omega), fun e2 => absurd e2 (by omega), fun e2 => absurd e2 (by omega)⟩, fun h => have e := z _ 4 rfl h; h0 ⟨fun e2 => absurd e2 (by omega), fun e2 => absurd e2 (by omega), fun e2 => absurd e2 (by omega), fun e2 => absurd e2 (by omega), fun e2 => absurd e2 (by omega), fun e2 => absurd e2 (by omega)⟩, fun h => have e := z _ 5 rfl h; h0 ⟨fun e2 => absurd e2 (by omega), fun e2 => absurd e2 (by omega), fun e2 => absurd e2 (by omega), fun e2 => absurd e2 (by omega), fun e2 => absurd e2 (by omega), fun e2 => absurd e2 (by omega)⟩, fun h => have e := z _ 6 rfl h; ⟨fun hc => h0 ⟨fun e2 => absurd e2 (by omega), fun _ => hc, fun e2 => absurd e2 (by omega), fun e2 => absurd e2 (by omega), fun e2 => absurd e2 (by omega), fun e2 => absurd e2 (by omega)⟩, fun _ => h1⟩, fun h => have e := z _ 7 rfl h; h0 ⟨fun e2 => absurd e2 (by omega), fun e2 => absurd e2 (by omega), fun e2 => absurd e2 (by omega), fun e2 => absurd e2 (by omega), fun e2 => absurd e2 (by omega), fun e2 => absurd e2 (by omega)⟩, fun h => have e := z _ 8 rfl h; ⟨fun hc => h0 ⟨fun e2 => absurd e2 (by omega), fun e2 => absurd e2 (by omega), fun _ => hc, fun e2 => absurd e2 (by omega), fun e2 => absurd e2 (by omega), fun e2 => absurd e2 (by omega)⟩, fun _ => h1⟩, fun h => have e := z _ 9 rfl h; h0 ⟨fun e2 => absurd e2 (by omega), fun e2 => absurd e2 (by omega), fun e2 => absurd e2 (by omega), fun e2 => absurd e2 (by omega), fun e2 => absurd e2 (by omega), fun e2 => absurd e2 (by omega)⟩, fun h => have e := z _ 10 rfl h; absurd hr (by omega), fun h => have e := z _ 11 rfl h; absurd hr (by omega), fun h => have e := z _ 12 rfl h; absurd hr (by omega), fun h => have e := z _ 13 rfl h; absurd hr (by omega), fun h => have e := z _ 14 rfl h; absurd hr (by omega), fun h => have e := z _ 15 rfl h; absurd hr (by omega), fun h => have e := z _ 16 rfl h; ⟨fun hc => h0 ⟨fun e2 => absurd e2 (by omega), fun e2 => absurd e2 (by omega), fun e2 => absurd e2 (by omega), fun e2 => absurd e2 (by omega), fun _ => hc, fun e2 => absurd e2 (by omega)⟩, fun _ => h1⟩, fun h => have e := z _ 17 rfl h; ⟨fun hc => h0 ⟨fun e2 => absurd e2 (by omega), fun e2 => absurd e2 (by omega), fun e2 => absurd e2 (by omega), fun e2 => absurd e2 (by omega), fun _ => hc, fun e2 => absurd e2 (by omega)⟩, fun _ => h1⟩, fun h => have e := z _ 18 rfl h; ⟨fun hc => h0 ⟨fun e2 => absurd e2 (by omega), fun e2 => absurd e2 (by omega), fun e2 => absurd e2 (by omega), fun e2 => absurd e2 (by omega), fun e2 => absurd e2 (by omega), fun _ => hc⟩, fun _ => h1⟩⟩
theorem s_isFull {lf_huts lf_singers lf_echoes vf_deeds sf_facts cf_voices x1 : Int32} {post : Int32 → Prop} (hx1 : iv 0 19 x1) (h1 : post 1) (h0 : rNF x1 lf_huts lf_echoes lf_singers vf_deeds sf_facts cf_voices → post 0) : q_wr_X4_isFull_0 lf_huts lf_singers lf_echoes vf_deeds sf_facts cf_voices x1 post := by
  have e10 : (10 : Int32).toInt = 10 := rfl
  have e16 : (16 : Int32).toInt = 16 := rfl
  refine ⟨fun h => s_isFull_30 hx1 (Or.inl (by have := r_lt h; omega)) h1 h0, fun h => ⟨fun h2 => s_isFull_30 hx1 (Or.inr (by have := r_le h2; omega)) h1 h0, fun h2 => ⟨fun hc => h0 ?_, fun _ => h1⟩⟩⟩
  have g1 := r_nlt h; have g2 := r_nle h2
  exact ⟨fun e2 => absurd e2 (by omega), fun e2 => absurd e2 (by omega), fun e2 => absurd e2 (by omega), fun _ => hc, fun e2 => absurd e2 (by omega), fun e2 => absurd e2 (by omega)⟩
theorem s_canBe {a_numbers : Nat → Int32} {x1 x2 : Int32} {post : Int32 → Prop} (hx1 : iv 0 19 x1) (hx2 : iv 0 2 x2) (h0 : post 0) (h1 : (¬ a_numbers x2.toNatClampNeg < tbf_2 (x1.toNatClampNeg * 3 + x2.toNatClampNeg) ∧ a_numbers x2.toNatClampNeg ≤ tbf_3 (x1.toNatClampNeg * 3 + x2.toNatClampNeg)) → post 1) : q_wr_X4_canBe_0 a_numbers x1 x2 post := by
  intro v hv
  obtain ⟨w, rfl, -, w2, hw⟩ := iv_nI hx1 (by decide)
  obtain ⟨j, rfl, -, j2, hj⟩ := iv_nI hx2 (by decide)
  have e : v = nI (w * 3 + j) := by rw [hv, show (3 : Int32) = nI 3 from rfl, pk_mul, nI_add]
  subst e
  rw [nI_clamp hw, nI_clamp hj] at h1
  rw [nI_clamp hj, nI_clamp (show w * 3 + j < 2 ^ 31 by omega)]
  have i1 : vp_in (nI j) 3 := vp_in_nI (by omega) (by omega)
  have i2 : vp_in (nI (w * 3 + j)) 60 := vp_in_nI (by omega) (by omega)
  refine ⟨i1, i2, fun _ => h0, fun c1 => ⟨i1, i2, fun c2 => ?_, fun _ => h0⟩⟩
  have k := h1 ⟨c1, c2⟩
  have k52 : q_wr_X4_canBe_52 a_numbers post := ⟨fun _ => h0, fun _ => k⟩
  exact ⟨fun _ => k, fun _ => ⟨fun _ => k52, fun _ => ⟨fun _ => k, fun _ => k52⟩⟩⟩
set_option maxRecDepth 20000 in
theorem s_wr_X4_readLine_0 {lf_huts : Int32} {lf_singers : Int32} {lf_villages : Int32} {lf_dams : Int32} {lf_echoes : Int32} {lf_deep : Int32} {lf_slide : Int32} {la_heights : Nat → Int32} {la_ladders : Nat → Int32} {la_minutes : Nat → Int32} {la_echoFrom : Nat → Int32} {la_echoTo : Nat → Int32} {la_homes : Nat → Int32} {la_talls : Nat → Int32} {la_known : Nat → Int32} {vf_deeds : Int32} {va_kinds : Nat → Int32} {va_firsts : Nat → Int32} {va_seconds : Nat → Int32} {sf_facts : Int32} {sa_heard : Nat → Int32} {sa_huts : Nat → Int32} {sa_minutes : Nat → Int32} {cf_voices : Int32} {cf_step : Int32} {ca_parts : Nat → Int32} {ca_heights : Nat → Int32} {f_fault : Int32} {f_faultPlace : Int32} {a_numbers : Nat → Int32} {a_tape : Nat → Int32} {f_length : Int32} {f_behind : Int32} {f_kind : Int32} {f_first : Int32} {f_value : Int32} {f_hutsToldOf : Int32} {f_singersToldOf : Int32} {x1 : Int32} {post : (Int32) → (Int32) → (Int32) → (Int32) → (Int32) → (Int32) → (Int32) → (Nat → Int32) → (Nat → Int32) → (Nat → Int32) → (Nat → Int32) → (Nat → Int32) → (Nat → Int32) → (Nat → Int32) → (Nat → Int32) → (Int32) → (Nat → Int32) → (Nat → Int32) → (Nat → Int32) → (Int32) → (Nat → Int32) → (Nat → Int32) → (Nat → Int32) → (Int32) → (Int32) → (Nat → Int32) → (Nat → Int32) → (Int32) → (Int32) → (Nat → Int32) → (Int32) → (Int32) → (Int32) → (Int32) → (Int32) → (Int32) → Prop} (k_lf_huts : iv 0 9 lf_huts) (k_lf_singers : iv 0 6 lf_singers) (k_lf_villages : iv 0 511 lf_villages) (k_lf_dams : iv 0 511 lf_dams) (k_lf_echoes : iv 0 4 lf_echoes) (k_lf_deep : iv 1 9 lf_deep) (k_lf_slide : iv 0 10 lf_slide) (k_la_heights : ∀ j, iv 0 99 (la_heights j)) (k_la_ladders : ∀ j, iv 0 9 (la_ladders j)) (k_la_minutes : ∀ j, iv 0 9 (la_minutes j)) (k_la_echoFrom : ∀ j, iv 0 8 (la_echoFrom j)) (k_la_echoTo : ∀ j, iv 0 8 (la_echoTo j)) (k_la_homes : ∀ j, iv 0 8 (la_homes j)) (k_la_talls : ∀ j, iv 0 9 (la_talls j)) (k_la_known : ∀ j, iv 0 31 (la_known j)) (k_vf_deeds : iv 0 40 vf_deeds) (k_va_kinds : ∀ j, iv 0 5 (va_kinds j)) (k_va_firsts : ∀ j, iv 0 5 (va_firsts j)) (k_va_seconds : ∀ j, iv (-1) 8 (va_seconds j)) (k_sf_facts : iv 0 10 sf_facts) (k_sa_heard : ∀ j, iv 0 1 (sa_heard j)) (k_sa_huts : ∀ j, iv 0 8 (sa_huts j)) (k_sa_minutes : ∀ j, iv 0 60 (sa_minutes j)) (k_cf_voices : iv 0 9 cf_voices) (k_cf_step : iv 0 9 cf_step) (k_ca_parts : ∀ j, iv 0 3 (ca_parts j)) (k_ca_heights : ∀ j, iv 0 9 (ca_heights j)) (k_f_fault : iv 0 4 f_fault) (k_f_faultPlace : iv (-1) 600 f_faultPlace) (k_a_tape : ∀ j, iv (-128) 127 (a_tape j)) (k_f_length : iv 0 600 f_length) (k_f_behind : iv 0 600 f_behind) (k_f_kind : iv 0 4 f_kind) (k_f_first : iv 0 600 f_first) (hx1 : iv 0 3 x1) (hpost : ∀ (lf_huts : Int32) (lf_singers : Int32) (lf_villages : Int32) (lf_dams : Int32) (lf_echoes : Int32) (lf_deep : Int32) (lf_slide : Int32) (la_heights : Nat → Int32) (la_ladders : Nat → Int32) (la_minutes : Nat → Int32) (la_echoFrom : Nat → Int32) (la_echoTo : Nat → Int32) (la_homes : Nat → Int32) (la_talls : Nat → Int32) (la_known : Nat → Int32) (vf_deeds : Int32) (va_kinds : Nat → Int32) (va_firsts : Nat → Int32) (va_seconds : Nat → Int32) (sf_facts : Int32) (sa_heard : Nat → Int32) (sa_huts : Nat → Int32) (sa_minutes : Nat → Int32) (cf_voices : Int32) (cf_step : Int32) (ca_parts : Nat → Int32) (ca_heights : Nat → Int32) (f_fault : Int32) (f_faultPlace : Int32) (a_numbers : Nat → Int32) (f_behind : Int32) (f_kind : Int32) (f_first : Int32) (f_value : Int32) (f_hutsToldOf : Int32) (f_singersToldOf : Int32), (iv 0 9 lf_huts) → (iv 0 6 lf_singers) → (iv 0 511 lf_villages) → (iv 0 511 lf_dams) → (iv 0 4 lf_echoes) → (iv 1 9 lf_deep) → (iv 0 10 lf_slide) → (∀ j, iv 0 99 (la_heights j)) → (∀ j, iv 0 9 (la_ladders j)) → (∀ j, iv 0 9 (la_minutes j)) → (∀ j, iv 0 8 (la_echoFrom j)) → (∀ j, iv 0 8 (la_echoTo j)) → (∀ j, iv 0 8 (la_homes j)) → (∀ j, iv 0 9 (la_talls j)) → (∀ j, iv 0 31 (la_known j)) → (iv 0 40 vf_deeds) → (∀ j, iv 0 5 (va_kinds j)) → (∀ j, iv 0 5 (va_firsts j)) → (∀ j, iv (-1) 8 (va_seconds j)) → (iv 0 10 sf_facts) → (∀ j, iv 0 1 (sa_heard j)) → (∀ j, iv 0 8 (sa_huts j)) → (∀ j, iv 0 60 (sa_minutes j)) → (iv 0 9 cf_voices) → (iv 0 9 cf_step) → (∀ j, iv 0 3 (ca_parts j)) → (∀ j, iv 0 9 (ca_heights j)) → (iv 0 4 f_fault) → (iv (-1) 600 f_faultPlace) → (iv 0 600 f_behind) → (iv 0 4 f_kind) → (iv 0 600 f_first) → post lf_huts lf_singers lf_villages lf_dams lf_echoes lf_deep lf_slide la_heights la_ladders la_minutes la_echoFrom la_echoTo la_homes la_talls la_known vf_deeds va_kinds va_firsts va_seconds sf_facts sa_heard sa_huts sa_minutes cf_voices cf_step ca_parts ca_heights f_fault f_faultPlace a_numbers f_behind f_kind f_first f_value f_hutsToldOf f_singersToldOf) : q_wr_X4_readLine_0 lf_huts lf_singers lf_villages lf_dams lf_echoes lf_deep lf_slide la_heights la_ladders la_minutes la_echoFrom la_echoTo la_homes la_talls la_known vf_deeds va_kinds va_firsts va_seconds sf_facts sa_heard sa_huts sa_minutes cf_voices cf_step ca_parts ca_heights f_fault f_faultPlace a_numbers a_tape f_length f_behind f_kind f_first f_value f_hutsToldOf f_singersToldOf x1 post := by
  refine s_wr_X4_wordOf_0 k_f_behind k_f_first hx1 (fun w hw => ⟨fun hne => ?_, fun _ => ?_⟩)
  rotate_left
  · exact hpost _ _ _ _ _ _ _ _ _ _ _ _ _ _ _ _ _ _ _ _ _ _ _ _ _ _ _ _ _ _ _ _ _ _ _ _ k_lf_huts k_lf_singers k_lf_villages k_lf_dams k_lf_echoes k_lf_deep k_lf_slide k_la_heights k_la_ladders k_la_minutes k_la_echoFrom k_la_echoTo k_la_homes k_la_talls k_la_known k_vf_deeds k_va_kinds k_va_firsts k_va_seconds k_sf_facts k_sa_heard k_sa_huts k_sa_minutes k_cf_voices k_cf_step k_ca_parts k_ca_heights (iv_lit (by decide)) (iv_w k_f_first (by decide)) k_f_behind k_f_kind k_f_first
  have hw2 : iv 0 19 w := iv_ne (l := 0) (h := 19) hne hw (iv_lit (x := -1) (l := -1) (h := -1) (by decide)) (by decide)
  have core : ∀ (ff fp : Int32), iv 0 4 ff → iv (-1) 600 fp → (ff = 0 → rNF w lf_huts lf_echoes lf_singers vf_deeds sf_facts cf_voices) → q_wr_X4_readLine_33 lf_huts lf_singers lf_villages lf_dams lf_echoes lf_deep lf_slide la_heights la_ladders la_minutes la_echoFrom la_echoTo la_homes la_talls la_known vf_deeds va_kinds va_firsts va_seconds sf_facts sa_heard sa_huts sa_minutes cf_voices cf_step ca_parts ca_heights ff fp a_numbers a_tape f_length f_behind f_kind f_first f_value f_hutsToldOf f_singersToldOf w post := by
    intro ff fp hff hfp hnf
    refine s_wr_X4_advance_0 k_a_tape k_f_length k_f_behind k_f_kind k_f_first (fun Nf_behind Nf_kind Nf_first Nf_value hf_behind hf_kind hf_first => ?_)
    intro P hP
    have loop : ∀ (n : Nat) (x3 : Int32) (ff : Int32) (fp : Int32) (nums : Nat → Int32) (b : Int32) (kd : Int32) (fi : Int32) (va : Int32), 3 - x3.toInt < (n : Int) → iv 0 3 x3 → iv 0 4 ff → iv (-1) 600 fp → iv 0 600 b → iv 0 4 kd → iv 0 600 fi → (ff = 0 → rNF w lf_huts lf_echoes lf_singers vf_deeds sf_facts cf_voices ∧ rNB w nums x3.toNatClampNeg) → P x3 ff fp nums b kd fi va := by
      intro n
      induction n with
      | zero => intro x3 ff fp nums b kd fi va hm h3 _ _ _ _ _ _; exact (ms0_up hm h3).elim
      | succ n ih =>
        intro x3 ff fp nums b kd fi va hm h3 hff hfp hb hkd hfi hinv
        have fin0 : ∀ (ff2 fp2 : Int32), iv 0 4 ff2 → iv (-1) 600 fp2 → post lf_huts lf_singers lf_villages lf_dams lf_echoes lf_deep lf_slide la_heights la_ladders la_minutes la_echoFrom la_echoTo la_homes la_talls la_known vf_deeds va_kinds va_firsts va_seconds sf_facts sa_heard sa_huts sa_minutes cf_voices cf_step ca_parts ca_heights ff2 fp2 nums b kd fi va f_hutsToldOf f_singersToldOf := fun ff2 fp2 g1 g2 => hpost _ _ _ _ _ _ _ _ _ _ _ _ _ _ _ _ _ _ _ _ _ _ _ _ _ _ _ _ _ _ _ _ _ _ _ _ k_lf_huts k_lf_singers k_lf_villages k_lf_dams k_lf_echoes k_lf_deep k_lf_slide k_la_heights k_la_ladders k_la_minutes k_la_echoFrom k_la_echoTo k_la_homes k_la_talls k_la_known k_vf_deeds k_va_kinds k_va_firsts k_va_seconds k_sf_facts k_sa_heard k_sa_huts k_sa_minutes k_cf_voices k_cf_step k_ca_parts k_ca_heights g1 g2 hb hkd hfi
        apply hP
        refine ⟨iv_in hw2 (by decide), fun hc => ⟨fun _ => ⟨fun hz => ?_, fun hz => ?_⟩, fun _ => fin0 _ _ (iv_lit (by decide)) (iv_w hfi (by decide))⟩, fun hc => ⟨fun _ => ?_, fun _ => fin0 _ _ (iv_lit (by decide)) (iv_w hfi (by decide))⟩⟩
        · exact s_wr_X4_advance_0 k_a_tape k_f_length hb hkd hfi (fun Nf_behind Nf_kind Nf_first Nf_value hf_behind hf_kind hf_first => hpost _ _ _ _ _ _ _ _ _ _ _ _ _ _ _ _ _ _ _ _ _ _ _ _ _ _ _ _ _ _ _ _ _ _ _ _ k_lf_huts k_lf_singers k_lf_villages k_lf_dams k_lf_echoes k_lf_deep k_lf_slide k_la_heights k_la_ladders k_la_minutes k_la_echoFrom k_la_echoTo k_la_homes k_la_talls k_la_known k_vf_deeds k_va_kinds k_va_firsts k_va_seconds k_sf_facts k_sa_heard k_sa_huts k_sa_minutes k_cf_voices k_cf_step k_ca_parts k_ca_heights hff hfp hf_behind hf_kind hf_first)
        · obtain ⟨q1, q2⟩ := hinv hz
          refine s_wr_X4_tell_0 k_lf_huts k_lf_singers k_lf_villages k_lf_dams k_lf_echoes k_lf_deep k_lf_slide k_la_heights k_la_ladders k_la_minutes k_la_echoFrom k_la_echoTo k_la_homes k_la_talls k_la_known k_vf_deeds k_va_kinds k_va_firsts k_va_seconds k_sf_facts k_sa_heard k_sa_huts k_sa_minutes k_cf_voices k_cf_step k_ca_parts k_ca_heights hw2 q1 (fun j hj => q2 j (Nat.lt_of_lt_of_le hj (by have e1 : (tbf_1 w.toNatClampNeg).toNatClampNeg = (tbf_1 w.toNatClampNeg).toInt.toNat := rfl; have e2 : x3.toNatClampNeg = x3.toInt.toNat := rfl; have := r_le hc; omega))) (fun Tlf_huts Tlf_singers Tlf_villages Tlf_dams Tlf_echoes Tlf_deep Tlf_slide Tla_heights Tla_ladders Tla_minutes Tla_echoFrom Tla_echoTo Tla_homes Tla_talls Tla_known Tvf_deeds Tva_kinds Tva_firsts Tva_seconds Tsf_facts Tsa_heard Tsa_huts Tsa_minutes Tcf_voices Tcf_step Tca_parts Tca_heights Tf_hutsToldOf Tf_singersToldOf tlf_huts tlf_singers tlf_villages tlf_dams tlf_echoes tlf_deep tlf_slide tla_heights tla_ladders tla_minutes tla_echoFrom tla_echoTo tla_homes tla_talls tla_known tvf_deeds tva_kinds tva_firsts tva_seconds tsf_facts tsa_heard tsa_huts tsa_minutes tcf_voices tcf_step tca_parts tca_heights => ?_)
          exact s_wr_X4_advance_0 k_a_tape k_f_length hb hkd hfi (fun Nf_behind Nf_kind Nf_first Nf_value hf_behind hf_kind hf_first => hpost _ _ _ _ _ _ _ _ _ _ _ _ _ _ _ _ _ _ _ _ _ _ _ _ _ _ _ _ _ _ _ _ _ _ _ _ tlf_huts tlf_singers tlf_villages tlf_dams tlf_echoes tlf_deep tlf_slide tla_heights tla_ladders tla_minutes tla_echoFrom tla_echoTo tla_homes tla_talls tla_known tvf_deeds tva_kinds tva_firsts tva_seconds tsf_facts tsa_heard tsa_huts tsa_minutes tcf_voices tcf_step tca_parts tca_heights hff hfp hf_behind hf_kind hf_first)
        · have h32 : iv 0 2 x3 := iv_lta (l := 0) (h := 2) (r_nle hc) h3 (tbi_1 _) (by decide)
          refine ⟨iv_in h32 (by decide), fun nums1 e1 => ?_⟩
          have K : ∀ (ff2 fp2 : Int32), iv 0 4 ff2 → iv (-1) 600 fp2 → (ff2 = 0 → rNF w lf_huts lf_echoes lf_singers vf_deeds sf_facts cf_voices ∧ rNB w nums1 (x3.toNatClampNeg + 1)) → q_wr_X4_readLine_89 P lf_huts lf_singers lf_villages lf_dams lf_echoes lf_deep lf_slide la_heights la_ladders la_minutes la_echoFrom la_echoTo la_homes la_talls la_known vf_deeds va_kinds va_firsts va_seconds sf_facts sa_heard sa_huts sa_minutes cf_voices cf_step ca_parts ca_heights ff2 fp2 nums1 a_tape f_length b kd fi va f_hutsToldOf f_singersToldOf w x3 post := by
            intro ff2 fp2 g1 g2 g3
            refine s_wr_X4_advance_0 k_a_tape k_f_length hb hkd hfi (fun Nf_behind Nf_kind Nf_first Nf_value hf_behind hf_kind hf_first v hv => ?_)
            refine ih v _ _ _ _ _ _ _ (ms_up hm (inc_lt hv h32 (by decide))) (iv_eq hv (iv_add (l := 0) (h := 3) h32 (iv_lit (l := 1) (h := 1) (by decide)) (by decide))) g1 g2 hf_behind hf_kind hf_first (fun h => ⟨(g3 h).1, ?_⟩)
            have e3 : v.toNatClampNeg = x3.toNatClampNeg + 1 := by
              obtain ⟨j, rfl, -, j2, hj⟩ := iv_nI h32 (by decide)
              rw [hv, show (1 : Int32) = nI 1 from rfl, nI_add, nI_clamp (by omega), nI_clamp hj]
            rw [e3]; exact (g3 h).2
          refine s_canBe hw2 h32 ⟨fun h => absurd rfl h, fun _ => ⟨fun hz => K _ _ hff hfp (fun h => absurd h hz), fun hz => K _ _ (iv_lit (by decide)) (iv_w hfi (by decide)) (fun h => absurd h (by decide))⟩⟩ (fun hcb => ⟨fun _ => K _ _ hff hfp (fun h => ⟨(hinv h).1, fun j hj => ?_⟩), fun h => absurd h (by decide)⟩)
          by_cases hjx : j = x3.toNatClampNeg
          · rw [hjx]; exact hcb
          · rw [e1]; unfold upd; rw [if_neg hjx]; exact (hinv h).2 j (by omega)
    exact loop _ _ _ _ _ _ _ _ _ (ms_init_up _ _) (iv_lit (by decide)) hff hfp hf_behind hf_kind hf_first (fun h => ⟨hnf h, fun j hj => (Nat.not_lt_zero j (show j < 0 from hj)).elim⟩)
  exact s_isFull hw2 ⟨fun h => absurd h (by decide), fun _ => ⟨fun hz => core _ _ k_f_fault k_f_faultPlace (fun h => absurd h hz), fun _ => core _ _ (iv_lit (by decide)) (iv_w k_f_first (by decide)) (fun h => absurd h (by decide))⟩⟩ (fun hnf => ⟨fun _ => core _ _ k_f_fault k_f_faultPlace (fun _ => hnf), fun h => absurd rfl h⟩)
end
section
-- wr_X4_read_23
set_option maxRecDepth 20000 in
theorem s_wr_X4_read_23_78 {lf_huts : Int32} {lf_singers : Int32} {lf_villages : Int32} {lf_dams : Int32} {lf_echoes : Int32} {lf_deep : Int32} {lf_slide : Int32} {la_heights : Nat → Int32} {la_ladders : Nat → Int32} {la_minutes : Nat → Int32} {la_echoFrom : Nat → Int32} {la_echoTo : Nat → Int32} {la_homes : Nat → Int32} {la_talls : Nat → Int32} {la_known : Nat → Int32} {vf_deeds : Int32} {va_kinds : Nat → Int32} {va_firsts : Nat → Int32} {va_seconds : Nat → Int32} {sf_facts : Int32} {sa_heard : Nat → Int32} {sa_huts : Nat → Int32} {sa_minutes : Nat → Int32} {cf_voices : Int32} {cf_step : Int32} {ca_parts : Nat → Int32} {ca_heights : Nat → Int32} {f_fault : Int32} {f_faultPlace : Int32} {a_numbers : Nat → Int32} {a_tape : Nat → Int32} {f_length : Int32} {f_behind : Int32} {f_kind : Int32} {f_first : Int32} {f_value : Int32} {f_hutsToldOf : Int32} {f_singersToldOf : Int32} {z_from : Nat → Int32} {x3 : Int32} {post : (Int32) → (Int32) → (Int32) → (Int32) → (Int32) → (Int32) → (Int32) → (Nat → Int32) → (Nat → Int32) → (Nat → Int32) → (Nat → Int32) → (Nat → Int32) → (Nat → Int32) → (Nat → Int32) → (Nat → Int32) → (Int32) → (Nat → Int32) → (Nat → Int32) → (Nat → Int32) → (Int32) → (Nat → Int32) → (Nat → Int32) → (Nat → Int32) → (Int32) → (Int32) → (Nat → Int32) → (Nat → Int32) → (Int32) → (Int32) → (Nat → Int32) → (Nat → Int32) → (Int32) → (Int32) → (Int32) → (Int32) → (Int32) → (Int32) → (Int32) → Prop} (k_lf_huts : iv 0 9 lf_huts) (k_lf_singers : iv 0 6 lf_singers) (k_lf_villages : iv 0 511 lf_villages) (k_lf_dams : iv 0 511 lf_dams) (k_lf_echoes : iv 0 4 lf_echoes) (k_lf_deep : iv 1 9 lf_deep) (k_lf_slide : iv 0 10 lf_slide) (k_la_heights : ∀ j, iv 0 99 (la_heights j)) (k_la_ladders : ∀ j, iv 0 9 (la_ladders j)) (k_la_minutes : ∀ j, iv 0 9 (la_minutes j)) (k_la_echoFrom : ∀ j, iv 0 8 (la_echoFrom j)) (k_la_echoTo : ∀ j, iv 0 8 (la_echoTo j)) (k_la_homes : ∀ j, iv 0 8 (la_homes j)) (k_la_talls : ∀ j, iv 0 9 (la_talls j)) (k_la_known : ∀ j, iv 0 31 (la_known j)) (k_vf_deeds : iv 0 40 vf_deeds) (k_va_kinds : ∀ j, iv 0 5 (va_kinds j)) (k_va_firsts : ∀ j, iv 0 5 (va_firsts j)) (k_va_seconds : ∀ j, iv (-1) 8 (va_seconds j)) (k_sf_facts : iv 0 10 sf_facts) (k_sa_heard : ∀ j, iv 0 1 (sa_heard j)) (k_sa_huts : ∀ j, iv 0 8 (sa_huts j)) (k_sa_minutes : ∀ j, iv 0 60 (sa_minutes j)) (k_cf_voices : iv 0 9 cf_voices) (k_cf_step : iv 0 9 cf_step) (k_ca_parts : ∀ j, iv 0 3 (ca_parts j)) (k_ca_heights : ∀ j, iv 0 9 (ca_heights j)) (k_f_fault : iv 0 4 f_fault) (k_f_faultPlace : iv (-1) 600 f_faultPlace) (k_a_tape : ∀ j, iv (-128) 127 (a_tape j)) (k_f_length : iv 0 600 f_length) (k_f_behind : iv 0 600 f_behind) (k_f_kind : iv 0 4 f_kind) (k_f_first : iv 0 600 f_first) (k_z_from : ∀ j, iv (-128) 127 (z_from j)) (hx3 : iv 0 3 x3) (hpost : ∀ (lf_huts : Int32) (lf_singers : Int32) (lf_villages : Int32) (lf_dams : Int32) (lf_echoes : Int32) (lf_deep : Int32) (lf_slide : Int32) (la_heights : Nat → Int32) (la_ladders : Nat → Int32) (la_minutes : Nat → Int32) (la_echoFrom : Nat → Int32) (la_echoTo : Nat → Int32) (la_homes : Nat → Int32) (la_talls : Nat → Int32) (la_known : Nat → Int32) (vf_deeds : Int32) (va_kinds : Nat → Int32) (va_firsts : Nat → Int32) (va_seconds : Nat → Int32) (sf_facts : Int32) (sa_heard : Nat → Int32) (sa_huts : Nat → Int32) (sa_minutes : Nat → Int32) (cf_voices : Int32) (cf_step : Int32) (ca_parts : Nat → Int32) (ca_heights : Nat → Int32) (f_fault : Int32) (f_faultPlace : Int32) (a_numbers : Nat → Int32) (a_tape : Nat → Int32) (f_length : Int32) (f_behind : Int32) (f_kind : Int32) (f_first : Int32) (f_value : Int32) (f_hutsToldOf : Int32) (f_singersToldOf : Int32), (iv 0 9 lf_huts) → (iv 0 6 lf_singers) → (iv 0 511 lf_villages) → (iv 0 511 lf_dams) → (iv 0 4 lf_echoes) → (iv 1 9 lf_deep) → (iv 0 10 lf_slide) → (∀ j, iv 0 99 (la_heights j)) → (∀ j, iv 0 9 (la_ladders j)) → (∀ j, iv 0 9 (la_minutes j)) → (∀ j, iv 0 8 (la_echoFrom j)) → (∀ j, iv 0 8 (la_echoTo j)) → (∀ j, iv 0 8 (la_homes j)) → (∀ j, iv 0 9 (la_talls j)) → (∀ j, iv 0 31 (la_known j)) → (iv 0 40 vf_deeds) → (∀ j, iv 0 5 (va_kinds j)) → (∀ j, iv 0 5 (va_firsts j)) → (∀ j, iv (-1) 8 (va_seconds j)) → (iv 0 10 sf_facts) → (∀ j, iv 0 1 (sa_heard j)) → (∀ j, iv 0 8 (sa_huts j)) → (∀ j, iv 0 60 (sa_minutes j)) → (iv 0 9 cf_voices) → (iv 0 9 cf_step) → (∀ j, iv 0 3 (ca_parts j)) → (∀ j, iv 0 9 (ca_heights j)) → (iv 0 4 f_fault) → (iv (-1) 600 f_faultPlace) → (∀ j, iv (-128) 127 (a_tape j)) → (iv 0 600 f_length) → (iv 0 600 f_behind) → (iv 0 4 f_kind) → (iv 0 600 f_first) → post lf_huts lf_singers lf_villages lf_dams lf_echoes lf_deep lf_slide la_heights la_ladders la_minutes la_echoFrom la_echoTo la_homes la_talls la_known vf_deeds va_kinds va_firsts va_seconds sf_facts sa_heard sa_huts sa_minutes cf_voices cf_step ca_parts ca_heights f_fault f_faultPlace a_numbers a_tape f_length f_behind f_kind f_first f_value f_hutsToldOf f_singersToldOf) : q_wr_X4_read_23_78 lf_huts lf_singers lf_villages lf_dams lf_echoes lf_deep lf_slide la_heights la_ladders la_minutes la_echoFrom la_echoTo la_homes la_talls la_known vf_deeds va_kinds va_firsts va_seconds sf_facts sa_heard sa_huts sa_minutes cf_voices cf_step ca_parts ca_heights f_fault f_faultPlace a_numbers a_tape f_length f_behind f_kind f_first f_value f_hutsToldOf f_singersToldOf z_from x3 post := by
  refine ⟨fun c1 => ?_, fun c1 => ?_⟩
  · skip
    exact hpost _ _ _ _ _ _ _ _ _ _ _ _ _ _ _ _ _ _ _ _ _ _ _ _ _ _ _ _ _ _ _ _ _ _ _ _ _ _ k_lf_huts k_lf_singers k_lf_villages k_lf_dams k_lf_echoes k_lf_deep k_lf_slide k_la_heights k_la_ladders k_la_minutes k_la_echoFrom k_la_echoTo k_la_homes k_la_talls k_la_known k_vf_deeds k_va_kinds k_va_firsts k_va_seconds k_sf_facts k_sa_heard k_sa_huts k_sa_minutes k_cf_voices k_cf_step k_ca_parts k_ca_heights (iv_w (iv_ne (l := 1) (h := 4) c1 k_f_fault (iv_lit (l := 0) (h := 0) (by decide)) (by decide)) (by decide)) k_f_faultPlace k_a_tape k_f_length k_f_behind k_f_kind k_f_first
  · skip
    refine ⟨fun c2 => ?_, fun c2 => ?_⟩
    · skip
      exact hpost _ _ _ _ _ _ _ _ _ _ _ _ _ _ _ _ _ _ _ _ _ _ _ _ _ _ _ _ _ _ _ _ _ _ _ _ _ _ k_lf_huts k_lf_singers k_lf_villages k_lf_dams k_lf_echoes k_lf_deep k_lf_slide k_la_heights k_la_ladders k_la_minutes k_la_echoFrom k_la_echoTo k_la_homes k_la_talls k_la_known k_vf_deeds k_va_kinds k_va_firsts k_va_seconds k_sf_facts k_sa_heard k_sa_huts k_sa_minutes k_cf_voices k_cf_step k_ca_parts k_ca_heights (iv_w (iv_eqa (l := 0) (h := 0) c1 k_f_fault (iv_lit (l := 0) (h := 0) (by decide)) (by decide)) (by decide)) k_f_faultPlace k_a_tape k_f_length k_f_behind k_f_kind k_f_first
    · skip
      refine ⟨fun c3 => ?_, fun c3 => ?_⟩
      · skip
        refine ⟨fun c4 => ?_, fun c4 => ?_⟩
        · skip
          exact (iv_emp (iv_eqa (l := 1) (h := 0) c4 (iv_lit (l := 1) (h := 1) (by decide)) (iv_lit (l := 0) (h := 0) (by decide)) (by decide)) (by decide)).elim
        · skip
          refine ⟨fun c5 => ?_, fun c5 => ?_⟩
          · skip
            exact (iv_emp (iv_ne (l := 1) (h := 0) c5 (iv_eqa (l := 0) (h := 0) c1 k_f_fault (iv_lit (l := 0) (h := 0) (by decide)) (by decide)) (iv_lit (l := 0) (h := 0) (by decide)) (by decide)) (by decide)).elim
          · skip
            exact hpost _ _ _ _ _ _ _ _ _ _ _ _ _ _ _ _ _ _ _ _ _ _ _ _ _ _ _ _ _ _ _ _ _ _ _ _ _ _ k_lf_huts k_lf_singers k_lf_villages k_lf_dams k_lf_echoes k_lf_deep k_lf_slide k_la_heights k_la_ladders k_la_minutes k_la_echoFrom k_la_echoTo k_la_homes k_la_talls k_la_known k_vf_deeds k_va_kinds k_va_firsts k_va_seconds k_sf_facts k_sa_heard k_sa_huts k_sa_minutes k_cf_voices k_cf_step k_ca_parts k_ca_heights (iv_w (iv_lit (l := 4) (h := 4) (by decide)) (by decide)) (iv_w k_f_length (by decide)) k_a_tape k_f_length k_f_behind k_f_kind k_f_first
      · skip
        refine ⟨fun c6 => ?_, fun c6 => ?_⟩
        · skip
          refine ⟨fun c7 => ?_, fun c7 => ?_⟩
          · skip
            exact hpost _ _ _ _ _ _ _ _ _ _ _ _ _ _ _ _ _ _ _ _ _ _ _ _ _ _ _ _ _ _ _ _ _ _ _ _ _ _ k_lf_huts k_lf_singers k_lf_villages k_lf_dams k_lf_echoes k_lf_deep k_lf_slide k_la_heights k_la_ladders k_la_minutes k_la_echoFrom k_la_echoTo k_la_homes k_la_talls k_la_known k_vf_deeds k_va_kinds k_va_firsts k_va_seconds k_sf_facts k_sa_heard k_sa_huts k_sa_minutes k_cf_voices k_cf_step k_ca_parts k_ca_heights (iv_w (iv_eqa (l := 0) (h := 0) c1 k_f_fault (iv_lit (l := 0) (h := 0) (by decide)) (by decide)) (by decide)) k_f_faultPlace k_a_tape k_f_length k_f_behind k_f_kind k_f_first
          · skip
            exact (iv_emp (iv_ne (l := 1) (h := 0) c7 (iv_lit (l := 0) (h := 0) (by decide)) (iv_lit (l := 0) (h := 0) (by decide)) (by decide)) (by decide)).elim
        · skip
          refine ⟨fun c8 => ?_, fun c8 => ?_⟩
          · skip
            exact (iv_emp (iv_eqa (l := 1) (h := 0) c8 (iv_lit (l := 1) (h := 1) (by decide)) (iv_lit (l := 0) (h := 0) (by decide)) (by decide)) (by decide)).elim
          · skip
            refine ⟨fun c9 => ?_, fun c9 => ?_⟩
            · skip
              exact (iv_emp (iv_ne (l := 1) (h := 0) c9 (iv_eqa (l := 0) (h := 0) c1 k_f_fault (iv_lit (l := 0) (h := 0) (by decide)) (by decide)) (iv_lit (l := 0) (h := 0) (by decide)) (by decide)) (by decide)).elim
            · skip
              exact hpost _ _ _ _ _ _ _ _ _ _ _ _ _ _ _ _ _ _ _ _ _ _ _ _ _ _ _ _ _ _ _ _ _ _ _ _ _ _ k_lf_huts k_lf_singers k_lf_villages k_lf_dams k_lf_echoes k_lf_deep k_lf_slide k_la_heights k_la_ladders k_la_minutes k_la_echoFrom k_la_echoTo k_la_homes k_la_talls k_la_known k_vf_deeds k_va_kinds k_va_firsts k_va_seconds k_sf_facts k_sa_heard k_sa_huts k_sa_minutes k_cf_voices k_cf_step k_ca_parts k_ca_heights (iv_w (iv_lit (l := 4) (h := 4) (by decide)) (by decide)) (iv_w k_f_length (by decide)) k_a_tape k_f_length k_f_behind k_f_kind k_f_first
set_option maxRecDepth 20000 in
theorem s_wr_X4_read_23_43 {lf_huts : Int32} {lf_singers : Int32} {lf_villages : Int32} {lf_dams : Int32} {lf_echoes : Int32} {lf_deep : Int32} {lf_slide : Int32} {la_heights : Nat → Int32} {la_ladders : Nat → Int32} {la_minutes : Nat → Int32} {la_echoFrom : Nat → Int32} {la_echoTo : Nat → Int32} {la_homes : Nat → Int32} {la_talls : Nat → Int32} {la_known : Nat → Int32} {vf_deeds : Int32} {va_kinds : Nat → Int32} {va_firsts : Nat → Int32} {va_seconds : Nat → Int32} {sf_facts : Int32} {sa_heard : Nat → Int32} {sa_huts : Nat → Int32} {sa_minutes : Nat → Int32} {cf_voices : Int32} {cf_step : Int32} {ca_parts : Nat → Int32} {ca_heights : Nat → Int32} {f_fault : Int32} {f_faultPlace : Int32} {a_numbers : Nat → Int32} {a_tape : Nat → Int32} {f_length : Int32} {f_behind : Int32} {f_kind : Int32} {f_first : Int32} {f_value : Int32} {f_hutsToldOf : Int32} {f_singersToldOf : Int32} {z_from : Nat → Int32} {x3 : Int32} {x4 : Int32} {post : (Int32) → (Int32) → (Int32) → (Int32) → (Int32) → (Int32) → (Int32) → (Nat → Int32) → (Nat → Int32) → (Nat → Int32) → (Nat → Int32) → (Nat → Int32) → (Nat → Int32) → (Nat → Int32) → (Nat → Int32) → (Int32) → (Nat → Int32) → (Nat → Int32) → (Nat → Int32) → (Int32) → (Nat → Int32) → (Nat → Int32) → (Nat → Int32) → (Int32) → (Int32) → (Nat → Int32) → (Nat → Int32) → (Int32) → (Int32) → (Nat → Int32) → (Nat → Int32) → (Int32) → (Int32) → (Int32) → (Int32) → (Int32) → (Int32) → (Int32) → Prop} (k_lf_huts : iv 0 9 lf_huts) (k_lf_singers : iv 0 6 lf_singers) (k_lf_villages : iv 0 511 lf_villages) (k_lf_dams : iv 0 511 lf_dams) (k_lf_echoes : iv 0 4 lf_echoes) (k_lf_deep : iv 1 9 lf_deep) (k_lf_slide : iv 0 10 lf_slide) (k_la_heights : ∀ j, iv 0 99 (la_heights j)) (k_la_ladders : ∀ j, iv 0 9 (la_ladders j)) (k_la_minutes : ∀ j, iv 0 9 (la_minutes j)) (k_la_echoFrom : ∀ j, iv 0 8 (la_echoFrom j)) (k_la_echoTo : ∀ j, iv 0 8 (la_echoTo j)) (k_la_homes : ∀ j, iv 0 8 (la_homes j)) (k_la_talls : ∀ j, iv 0 9 (la_talls j)) (k_la_known : ∀ j, iv 0 31 (la_known j)) (k_vf_deeds : iv 0 40 vf_deeds) (k_va_kinds : ∀ j, iv 0 5 (va_kinds j)) (k_va_firsts : ∀ j, iv 0 5 (va_firsts j)) (k_va_seconds : ∀ j, iv (-1) 8 (va_seconds j)) (k_sf_facts : iv 0 10 sf_facts) (k_sa_heard : ∀ j, iv 0 1 (sa_heard j)) (k_sa_huts : ∀ j, iv 0 8 (sa_huts j)) (k_sa_minutes : ∀ j, iv 0 60 (sa_minutes j)) (k_cf_voices : iv 0 9 cf_voices) (k_cf_step : iv 0 9 cf_step) (k_ca_parts : ∀ j, iv 0 3 (ca_parts j)) (k_ca_heights : ∀ j, iv 0 9 (ca_heights j)) (k_f_fault : iv 0 4 f_fault) (k_f_faultPlace : iv (-1) 600 f_faultPlace) (k_a_tape : ∀ j, iv (-128) 127 (a_tape j)) (k_f_length : iv 0 600 f_length) (k_f_behind : iv 0 600 f_behind) (k_f_kind : iv 0 4 f_kind) (k_f_first : iv 0 600 f_first) (k_z_from : ∀ j, iv (-128) 127 (z_from j)) (hx3 : iv 0 3 x3) (hx4 : iv 0 600 x4) (hpost : ∀ (lf_huts : Int32) (lf_singers : Int32) (lf_villages : Int32) (lf_dams : Int32) (lf_echoes : Int32) (lf_deep : Int32) (lf_slide : Int32) (la_heights : Nat → Int32) (la_ladders : Nat → Int32) (la_minutes : Nat → Int32) (la_echoFrom : Nat → Int32) (la_echoTo : Nat → Int32) (la_homes : Nat → Int32) (la_talls : Nat → Int32) (la_known : Nat → Int32) (vf_deeds : Int32) (va_kinds : Nat → Int32) (va_firsts : Nat → Int32) (va_seconds : Nat → Int32) (sf_facts : Int32) (sa_heard : Nat → Int32) (sa_huts : Nat → Int32) (sa_minutes : Nat → Int32) (cf_voices : Int32) (cf_step : Int32) (ca_parts : Nat → Int32) (ca_heights : Nat → Int32) (f_fault : Int32) (f_faultPlace : Int32) (a_numbers : Nat → Int32) (a_tape : Nat → Int32) (f_length : Int32) (f_behind : Int32) (f_kind : Int32) (f_first : Int32) (f_value : Int32) (f_hutsToldOf : Int32) (f_singersToldOf : Int32), (iv 0 9 lf_huts) → (iv 0 6 lf_singers) → (iv 0 511 lf_villages) → (iv 0 511 lf_dams) → (iv 0 4 lf_echoes) → (iv 1 9 lf_deep) → (iv 0 10 lf_slide) → (∀ j, iv 0 99 (la_heights j)) → (∀ j, iv 0 9 (la_ladders j)) → (∀ j, iv 0 9 (la_minutes j)) → (∀ j, iv 0 8 (la_echoFrom j)) → (∀ j, iv 0 8 (la_echoTo j)) → (∀ j, iv 0 8 (la_homes j)) → (∀ j, iv 0 9 (la_talls j)) → (∀ j, iv 0 31 (la_known j)) → (iv 0 40 vf_deeds) → (∀ j, iv 0 5 (va_kinds j)) → (∀ j, iv 0 5 (va_firsts j)) → (∀ j, iv (-1) 8 (va_seconds j)) → (iv 0 10 sf_facts) → (∀ j, iv 0 1 (sa_heard j)) → (∀ j, iv 0 8 (sa_huts j)) → (∀ j, iv 0 60 (sa_minutes j)) → (iv 0 9 cf_voices) → (iv 0 9 cf_step) → (∀ j, iv 0 3 (ca_parts j)) → (∀ j, iv 0 9 (ca_heights j)) → (iv 0 4 f_fault) → (iv (-1) 600 f_faultPlace) → (∀ j, iv (-128) 127 (a_tape j)) → (iv 0 600 f_length) → (iv 0 600 f_behind) → (iv 0 4 f_kind) → (iv 0 600 f_first) → post lf_huts lf_singers lf_villages lf_dams lf_echoes lf_deep lf_slide la_heights la_ladders la_minutes la_echoFrom la_echoTo la_homes la_talls la_known vf_deeds va_kinds va_firsts va_seconds sf_facts sa_heard sa_huts sa_minutes cf_voices cf_step ca_parts ca_heights f_fault f_faultPlace a_numbers a_tape f_length f_behind f_kind f_first f_value f_hutsToldOf f_singersToldOf) : q_wr_X4_read_23_43 lf_huts lf_singers lf_villages lf_dams lf_echoes lf_deep lf_slide la_heights la_ladders la_minutes la_echoFrom la_echoTo la_homes la_talls la_known vf_deeds va_kinds va_firsts va_seconds sf_facts sa_heard sa_huts sa_minutes cf_voices cf_step ca_parts ca_heights f_fault f_faultPlace a_numbers a_tape f_length f_behind f_kind f_first f_value f_hutsToldOf f_singersToldOf z_from x3 x4 post := by
  intro P hP
  have loop : ∀ (n : Nat) (x4 : Int32) (lf_huts : Int32) (lf_singers : Int32) (lf_villages : Int32) (lf_dams : Int32) (lf_echoes : Int32) (lf_deep : Int32) (lf_slide : Int32) (la_heights : Nat → Int32) (la_ladders : Nat → Int32) (la_minutes : Nat → Int32) (la_echoFrom : Nat → Int32) (la_echoTo : Nat → Int32) (la_homes : Nat → Int32) (la_talls : Nat → Int32) (la_known : Nat → Int32) (vf_deeds : Int32) (va_kinds : Nat → Int32) (va_firsts : Nat → Int32) (va_seconds : Nat → Int32) (sf_facts : Int32) (sa_heard : Nat → Int32) (sa_huts : Nat → Int32) (sa_minutes : Nat → Int32) (cf_voices : Int32) (cf_step : Int32) (ca_parts : Nat → Int32) (ca_heights : Nat → Int32) (f_fault : Int32) (f_faultPlace : Int32) (a_numbers : Nat → Int32) (f_behind : Int32) (f_kind : Int32) (f_first : Int32) (f_value : Int32) (f_hutsToldOf : Int32) (f_singersToldOf : Int32), (600 - x4.toInt < (n : Int)) → (iv 0 600 x4) → (iv 0 9 lf_huts) → (iv 0 6 lf_singers) → (iv 0 511 lf_villages) → (iv 0 511 lf_dams) → (iv 0 4 lf_echoes) → (iv 1 9 lf_deep) → (iv 0 10 lf_slide) → (∀ j, iv 0 99 (la_heights j)) → (∀ j, iv 0 9 (la_ladders j)) → (∀ j, iv 0 9 (la_minutes j)) → (∀ j, iv 0 8 (la_echoFrom j)) → (∀ j, iv 0 8 (la_echoTo j)) → (∀ j, iv 0 8 (la_homes j)) → (∀ j, iv 0 9 (la_talls j)) → (∀ j, iv 0 31 (la_known j)) → (iv 0 40 vf_deeds) → (∀ j, iv 0 5 (va_kinds j)) → (∀ j, iv 0 5 (va_firsts j)) → (∀ j, iv (-1) 8 (va_seconds j)) → (iv 0 10 sf_facts) → (∀ j, iv 0 1 (sa_heard j)) → (∀ j, iv 0 8 (sa_huts j)) → (∀ j, iv 0 60 (sa_minutes j)) → (iv 0 9 cf_voices) → (iv 0 9 cf_step) → (∀ j, iv 0 3 (ca_parts j)) → (∀ j, iv 0 9 (ca_heights j)) → (iv 0 4 f_fault) → (iv (-1) 600 f_faultPlace) → (iv 0 600 f_behind) → (iv 0 4 f_kind) → (iv 0 600 f_first) → P x4 lf_huts lf_singers lf_villages lf_dams lf_echoes lf_deep lf_slide la_heights la_ladders la_minutes la_echoFrom la_echoTo la_homes la_talls la_known vf_deeds va_kinds va_firsts va_seconds sf_facts sa_heard sa_huts sa_minutes cf_voices cf_step ca_parts ca_heights f_fault f_faultPlace a_numbers f_behind f_kind f_first f_value f_hutsToldOf f_singersToldOf := by
    intro n
    induction n with
    | zero => intro x4 lf_huts lf_singers lf_villages lf_dams lf_echoes lf_deep lf_slide la_heights la_ladders la_minutes la_echoFrom la_echoTo la_homes la_talls la_known vf_deeds va_kinds va_firsts va_seconds sf_facts sa_heard sa_huts sa_minutes cf_voices cf_step ca_parts ca_heights f_fault f_faultPlace a_numbers f_behind f_kind f_first f_value f_hutsToldOf f_singersToldOf hm hx4 k_lf_huts k_lf_singers k_lf_villages k_lf_dams k_lf_echoes k_lf_deep k_lf_slide k_la_heights k_la_ladders k_la_minutes k_la_echoFrom k_la_echoTo k_la_homes k_la_talls k_la_known k_vf_deeds k_va_kinds k_va_firsts k_va_seconds k_sf_facts k_sa_heard k_sa_huts k_sa_minutes k_cf_voices k_cf_step k_ca_parts k_ca_heights k_f_fault k_f_faultPlace k_f_behind k_f_kind k_f_first; exact (ms0_up hm hx4).elim
    | succ n ih =>
      intro x4 lf_huts lf_singers lf_villages lf_dams lf_echoes lf_deep lf_slide la_heights la_ladders la_minutes la_echoFrom la_echoTo la_homes la_talls la_known vf_deeds va_kinds va_firsts va_seconds sf_facts sa_heard sa_huts sa_minutes cf_voices cf_step ca_parts ca_heights f_fault f_faultPlace a_numbers f_behind f_kind f_first f_value f_hutsToldOf f_singersToldOf hm hx4 k_lf_huts k_lf_singers k_lf_villages k_lf_dams k_lf_echoes k_lf_deep k_lf_slide k_la_heights k_la_ladders k_la_minutes k_la_echoFrom k_la_echoTo k_la_homes k_la_talls k_la_known k_vf_deeds k_va_kinds k_va_firsts k_va_seconds k_sf_facts k_sa_heard k_sa_huts k_sa_minutes k_cf_voices k_cf_step k_ca_parts k_ca_heights k_f_fault k_f_faultPlace k_f_behind k_f_kind k_f_first
      apply hP
      refine ⟨fun c1 => ?_, fun c1 => ?_⟩
      · skip
        exact s_wr_X4_read_23_78 k_lf_huts k_lf_singers k_lf_villages k_lf_dams k_lf_echoes k_lf_deep k_lf_slide k_la_heights k_la_ladders k_la_minutes k_la_echoFrom k_la_echoTo k_la_homes k_la_talls k_la_known k_vf_deeds k_va_kinds k_va_firsts k_va_seconds k_sf_facts k_sa_heard k_sa_huts k_sa_minutes k_cf_voices k_cf_step k_ca_parts k_ca_heights k_f_fault k_f_faultPlace k_a_tape k_f_length k_f_behind k_f_kind k_f_first k_z_from hx3 hpost
      · skip
        refine ⟨fun c2 => ?_, fun c2 => ?_⟩
        · skip
          exact s_wr_X4_read_23_78 k_lf_huts k_lf_singers k_lf_villages k_lf_dams k_lf_echoes k_lf_deep k_lf_slide k_la_heights k_la_ladders k_la_minutes k_la_echoFrom k_la_echoTo k_la_homes k_la_talls k_la_known k_vf_deeds k_va_kinds k_va_firsts k_va_seconds k_sf_facts k_sa_heard k_sa_huts k_sa_minutes k_cf_voices k_cf_step k_ca_parts k_ca_heights k_f_fault k_f_faultPlace k_a_tape (iv_w (iv_ltb (l := 1) (h := 600) (r_nle c1) hx4 k_f_length (by decide)) (by decide)) k_f_behind (iv_w (iv_eqa (l := 0) (h := 0) c2 k_f_kind (iv_lit (l := 0) (h := 0) (by decide)) (by decide)) (by decide)) k_f_first k_z_from hx3 hpost
        · skip
          refine ⟨fun c3 => ?_, fun c3 => ?_⟩
          · skip
            exact s_wr_X4_read_23_78 k_lf_huts k_lf_singers k_lf_villages k_lf_dams k_lf_echoes k_lf_deep k_lf_slide k_la_heights k_la_ladders k_la_minutes k_la_echoFrom k_la_echoTo k_la_homes k_la_talls k_la_known k_vf_deeds k_va_kinds k_va_firsts k_va_seconds k_sf_facts k_sa_heard k_sa_huts k_sa_minutes k_cf_voices k_cf_step k_ca_parts k_ca_heights (iv_w (iv_eqa (l := 1) (h := 1) c3 k_f_fault (iv_lit (l := 1) (h := 1) (by decide)) (by decide)) (by decide)) k_f_faultPlace k_a_tape (iv_w (iv_ltb (l := 1) (h := 600) (r_nle c1) hx4 k_f_length (by decide)) (by decide)) k_f_behind (iv_w (iv_ne (l := 1) (h := 4) c2 k_f_kind (iv_lit (l := 0) (h := 0) (by decide)) (by decide)) (by decide)) k_f_first k_z_from hx3 hpost
          · skip
            refine s_wr_X4_readLine_0 k_lf_huts k_lf_singers k_lf_villages k_lf_dams k_lf_echoes k_lf_deep k_lf_slide k_la_heights k_la_ladders k_la_minutes k_la_echoFrom k_la_echoTo k_la_homes k_la_talls k_la_known k_vf_deeds k_va_kinds k_va_firsts k_va_seconds k_sf_facts k_sa_heard k_sa_huts k_sa_minutes k_cf_voices k_cf_step k_ca_parts k_ca_heights k_f_fault k_f_faultPlace k_a_tape (iv_w (iv_ltb (l := 1) (h := 600) (r_nle c1) hx4 k_f_length (by decide)) (by decide)) k_f_behind (iv_w (iv_ne (l := 1) (h := 4) c2 k_f_kind (iv_lit (l := 0) (h := 0) (by decide)) (by decide)) (by decide)) k_f_first hx3 (fun o4 o5 o6 o7 o8 o9 o10 o11 o12 o13 o14 o15 o16 o17 o18 o19 o20 o21 o22 o23 o24 o25 o26 o27 o28 o29 o30 o31 o32 o33 o34 o35 o36 o37 o38 o39 k_o4 k_o5 k_o6 k_o7 k_o8 k_o9 k_o10 k_o11 k_o12 k_o13 k_o14 k_o15 k_o16 k_o17 k_o18 k_o19 k_o20 k_o21 k_o22 k_o23 k_o24 k_o25 k_o26 k_o27 k_o28 k_o29 k_o30 k_o31 k_o32 k_o34 k_o35 k_o36 => ?_)
            intro w40 ew40
            have hw40 := iv_eq ew40 (iv_add (l := 1) (h := 600) (iv_lta (l := 0) (h := 599) (r_nle c1) hx4 k_f_length (by decide)) (iv_lit (l := 1) (h := 1) (by decide)) (by decide))
            exact ih _ _ _ _ _ _ _ _ _ _ _ _ _ _ _ _ _ _ _ _ _ _ _ _ _ _ _ _ _ _ _ _ _ _ _ _ _ (ms_up hm (inc_lt ew40 (iv_lta (l := 0) (h := 599) (r_nle c1) hx4 k_f_length (by decide)) (by decide))) (iv_w hw40 (by decide)) k_o4 k_o5 k_o6 k_o7 k_o8 k_o9 k_o10 k_o11 k_o12 k_o13 k_o14 k_o15 k_o16 k_o17 k_o18 k_o19 k_o20 k_o21 k_o22 k_o23 k_o24 k_o25 k_o26 k_o27 k_o28 k_o29 k_o30 k_o31 k_o32 k_o34 k_o35 k_o36
  exact loop _ _ _ _ _ _ _ _ _ _ _ _ _ _ _ _ _ _ _ _ _ _ _ _ _ _ _ _ _ _ _ _ _ _ _ _ _ _ (ms_init_up _ _) hx4 k_lf_huts k_lf_singers k_lf_villages k_lf_dams k_lf_echoes k_lf_deep k_lf_slide k_la_heights k_la_ladders k_la_minutes k_la_echoFrom k_la_echoTo k_la_homes k_la_talls k_la_known k_vf_deeds k_va_kinds k_va_firsts k_va_seconds k_sf_facts k_sa_heard k_sa_huts k_sa_minutes k_cf_voices k_cf_step k_ca_parts k_ca_heights k_f_fault k_f_faultPlace k_f_behind k_f_kind k_f_first
set_option maxRecDepth 20000 in
theorem s_wr_X4_read_23_0 {lf_huts : Int32} {lf_singers : Int32} {lf_villages : Int32} {lf_dams : Int32} {lf_echoes : Int32} {lf_deep : Int32} {lf_slide : Int32} {la_heights : Nat → Int32} {la_ladders : Nat → Int32} {la_minutes : Nat → Int32} {la_echoFrom : Nat → Int32} {la_echoTo : Nat → Int32} {la_homes : Nat → Int32} {la_talls : Nat → Int32} {la_known : Nat → Int32} {vf_deeds : Int32} {va_kinds : Nat → Int32} {va_firsts : Nat → Int32} {va_seconds : Nat → Int32} {sf_facts : Int32} {sa_heard : Nat → Int32} {sa_huts : Nat → Int32} {sa_minutes : Nat → Int32} {cf_voices : Int32} {cf_step : Int32} {ca_parts : Nat → Int32} {ca_heights : Nat → Int32} {f_fault : Int32} {f_faultPlace : Int32} {a_numbers : Nat → Int32} {a_tape : Nat → Int32} {f_length : Int32} {f_behind : Int32} {f_kind : Int32} {f_first : Int32} {f_value : Int32} {f_hutsToldOf : Int32} {f_singersToldOf : Int32} {z_from : Nat → Int32} {x2 : Int32} {x3 : Int32} {post : (Int32) → (Int32) → (Int32) → (Int32) → (Int32) → (Int32) → (Int32) → (Nat → Int32) → (Nat → Int32) → (Nat → Int32) → (Nat → Int32) → (Nat → Int32) → (Nat → Int32) → (Nat → Int32) → (Nat → Int32) → (Int32) → (Nat → Int32) → (Nat → Int32) → (Nat → Int32) → (Int32) → (Nat → Int32) → (Nat → Int32) → (Nat → Int32) → (Int32) → (Int32) → (Nat → Int32) → (Nat → Int32) → (Int32) → (Int32) → (Nat → Int32) → (Nat → Int32) → (Int32) → (Int32) → (Int32) → (Int32) → (Int32) → (Int32) → (Int32) → Prop} (k_lf_huts : iv 0 9 lf_huts) (k_lf_singers : iv 0 6 lf_singers) (k_lf_villages : iv 0 511 lf_villages) (k_lf_dams : iv 0 511 lf_dams) (k_lf_echoes : iv 0 4 lf_echoes) (k_lf_deep : iv 1 9 lf_deep) (k_lf_slide : iv 0 10 lf_slide) (k_la_heights : ∀ j, iv 0 99 (la_heights j)) (k_la_ladders : ∀ j, iv 0 9 (la_ladders j)) (k_la_minutes : ∀ j, iv 0 9 (la_minutes j)) (k_la_echoFrom : ∀ j, iv 0 8 (la_echoFrom j)) (k_la_echoTo : ∀ j, iv 0 8 (la_echoTo j)) (k_la_homes : ∀ j, iv 0 8 (la_homes j)) (k_la_talls : ∀ j, iv 0 9 (la_talls j)) (k_la_known : ∀ j, iv 0 31 (la_known j)) (k_vf_deeds : iv 0 40 vf_deeds) (k_va_kinds : ∀ j, iv 0 5 (va_kinds j)) (k_va_firsts : ∀ j, iv 0 5 (va_firsts j)) (k_va_seconds : ∀ j, iv (-1) 8 (va_seconds j)) (k_sf_facts : iv 0 10 sf_facts) (k_sa_heard : ∀ j, iv 0 1 (sa_heard j)) (k_sa_huts : ∀ j, iv 0 8 (sa_huts j)) (k_sa_minutes : ∀ j, iv 0 60 (sa_minutes j)) (k_cf_voices : iv 0 9 cf_voices) (k_cf_step : iv 0 9 cf_step) (k_ca_parts : ∀ j, iv 0 3 (ca_parts j)) (k_ca_heights : ∀ j, iv 0 9 (ca_heights j)) (k_f_fault : iv 0 4 f_fault) (k_f_faultPlace : iv (-1) 600 f_faultPlace) (k_a_tape : ∀ j, iv (-128) 127 (a_tape j)) (k_f_length : iv 0 600 f_length) (k_f_behind : iv 0 600 f_behind) (k_f_kind : iv 0 4 f_kind) (k_f_first : iv 0 600 f_first) (k_z_from : ∀ j, iv (-128) 127 (z_from j)) (hx2 : iv 0 600 x2) (hx3 : iv 0 3 x3) (hpost : ∀ (lf_huts : Int32) (lf_singers : Int32) (lf_villages : Int32) (lf_dams : Int32) (lf_echoes : Int32) (lf_deep : Int32) (lf_slide : Int32) (la_heights : Nat → Int32) (la_ladders : Nat → Int32) (la_minutes : Nat → Int32) (la_echoFrom : Nat → Int32) (la_echoTo : Nat → Int32) (la_homes : Nat → Int32) (la_talls : Nat → Int32) (la_known : Nat → Int32) (vf_deeds : Int32) (va_kinds : Nat → Int32) (va_firsts : Nat → Int32) (va_seconds : Nat → Int32) (sf_facts : Int32) (sa_heard : Nat → Int32) (sa_huts : Nat → Int32) (sa_minutes : Nat → Int32) (cf_voices : Int32) (cf_step : Int32) (ca_parts : Nat → Int32) (ca_heights : Nat → Int32) (f_fault : Int32) (f_faultPlace : Int32) (a_numbers : Nat → Int32) (a_tape : Nat → Int32) (f_length : Int32) (f_behind : Int32) (f_kind : Int32) (f_first : Int32) (f_value : Int32) (f_hutsToldOf : Int32) (f_singersToldOf : Int32), (iv 0 9 lf_huts) → (iv 0 6 lf_singers) → (iv 0 511 lf_villages) → (iv 0 511 lf_dams) → (iv 0 4 lf_echoes) → (iv 1 9 lf_deep) → (iv 0 10 lf_slide) → (∀ j, iv 0 99 (la_heights j)) → (∀ j, iv 0 9 (la_ladders j)) → (∀ j, iv 0 9 (la_minutes j)) → (∀ j, iv 0 8 (la_echoFrom j)) → (∀ j, iv 0 8 (la_echoTo j)) → (∀ j, iv 0 8 (la_homes j)) → (∀ j, iv 0 9 (la_talls j)) → (∀ j, iv 0 31 (la_known j)) → (iv 0 40 vf_deeds) → (∀ j, iv 0 5 (va_kinds j)) → (∀ j, iv 0 5 (va_firsts j)) → (∀ j, iv (-1) 8 (va_seconds j)) → (iv 0 10 sf_facts) → (∀ j, iv 0 1 (sa_heard j)) → (∀ j, iv 0 8 (sa_huts j)) → (∀ j, iv 0 60 (sa_minutes j)) → (iv 0 9 cf_voices) → (iv 0 9 cf_step) → (∀ j, iv 0 3 (ca_parts j)) → (∀ j, iv 0 9 (ca_heights j)) → (iv 0 4 f_fault) → (iv (-1) 600 f_faultPlace) → (∀ j, iv (-128) 127 (a_tape j)) → (iv 0 600 f_length) → (iv 0 600 f_behind) → (iv 0 4 f_kind) → (iv 0 600 f_first) → post lf_huts lf_singers lf_villages lf_dams lf_echoes lf_deep lf_slide la_heights la_ladders la_minutes la_echoFrom la_echoTo la_homes la_talls la_known vf_deeds va_kinds va_firsts va_seconds sf_facts sa_heard sa_huts sa_minutes cf_voices cf_step ca_parts ca_heights f_fault f_faultPlace a_numbers a_tape f_length f_behind f_kind f_first f_value f_hutsToldOf f_singersToldOf) : q_wr_X4_read_23_0 lf_huts lf_singers lf_villages lf_dams lf_echoes lf_deep lf_slide la_heights la_ladders la_minutes la_echoFrom la_echoTo la_homes la_talls la_known vf_deeds va_kinds va_firsts va_seconds sf_facts sa_heard sa_huts sa_minutes cf_voices cf_step ca_parts ca_heights f_fault f_faultPlace a_numbers a_tape f_length f_behind f_kind f_first f_value f_hutsToldOf f_singersToldOf z_from x2 x3 post := by
  refine ⟨iv_nn hx2 (by decide), ?_⟩
  refine ⟨iv_len (iv_lit (l := 0) (h := 0) (by decide)) hx2 (by decide), ?_⟩
  refine ⟨iv_len (iv_lit (l := 0) (h := 0) (by decide)) hx2 (by decide), ?_⟩
  refine ⟨fun i _ => iv_fitB (k_z_from _), ?_⟩
  intro a1 ea1
  have k_a1 := iv_cpy ea1 k_z_from k_a_tape
  refine s_wr_X4_clearDraft_0 k_lf_huts k_lf_singers k_lf_villages k_lf_dams k_lf_echoes k_lf_deep k_lf_slide k_la_ladders k_la_minutes k_la_known k_vf_deeds k_sf_facts k_cf_voices k_cf_step hx3 (fun o2 o3 o4 o5 o6 o7 o8 o9 o10 o11 o12 o13 o14 o15 o16 o17 k_o2 k_o3 k_o4 k_o5 k_o6 k_o7 k_o8 k_o9 k_o10 k_o11 k_o12 k_o13 k_o14 k_o15 => ?_)
  refine s_wr_X4_advance_0 k_a1 hx2 (iv_w (iv_lit (l := 0) (h := 0) (by decide)) (by decide)) k_f_kind k_f_first (fun o18 o19 o20 o21 k_o18 k_o19 k_o20 => ?_)
  exact s_wr_X4_read_23_43 k_o2 k_o3 k_o4 k_o5 k_o6 k_o7 k_o8 k_la_heights k_o9 k_o10 k_la_echoFrom k_la_echoTo k_la_homes k_la_talls k_o11 k_o12 k_va_kinds k_va_firsts k_va_seconds k_o13 k_sa_heard k_sa_huts k_sa_minutes k_o14 k_o15 k_ca_parts k_ca_heights (iv_w (iv_lit (l := 0) (h := 0) (by decide)) (by decide)) (iv_w (iv_lit (l := (-1)) (h := (-1)) (by decide)) (by decide)) k_a1 hx2 k_o18 k_o19 k_o20 k_z_from hx3 (iv_w (iv_lit (l := 0) (h := 0) (by decide)) (by decide)) hpost
-- wk0_X5_measure_3
set_option maxRecDepth 20000 in
theorem s_wk0_X5_measure_3_69 {P2 : Int32 → (Nat → Int32) → (Nat → Int32) → Prop} {P19 : Int32 → (Nat → Int32) → (Nat → Int32) → Prop} {a_gaps : Nat → Int32} {a_behind : Nat → Int32} {cf_voices : Int32} {cf_step : Int32} {ca_parts : Nat → Int32} {ca_heights : Nat → Int32} {x2 : Int32} {x3 : Int32} {post : (Nat → Int32) → (Nat → Int32) → Prop} (k_a_behind : ∀ j, iv 0 511 (a_behind j)) (k_cf_voices : iv 1 9 cf_voices) (k_cf_step : iv 0 9 cf_step) (k_ca_parts : ∀ j, iv 0 3 (ca_parts j)) (k_ca_heights : ∀ j, iv 0 9 (ca_heights j)) (hx2 : iv 0 8 x2) (hx3 : iv 0 8 x3) (m2 : Int) (hm2 : m2 ≤ x2.toInt) (hP2 : ∀ (x2 : Int32) (a_gaps : Nat → Int32) (a_behind : Nat → Int32), m2 < x2.toInt → iv 0 9 x2 → (∀ j, iv 0 511 (a_behind j)) → P2 x2 a_gaps a_behind) (m19 : Int) (hm19 : m19 ≤ x3.toInt) (hP19 : ∀ (x3 : Int32) (a_gaps : Nat → Int32) (a_behind : Nat → Int32), m19 < x3.toInt → iv 0 9 x3 → (∀ j, iv 0 511 (a_behind j)) → P19 x3 a_gaps a_behind) (hpost : ∀ (a_gaps : Nat → Int32) (a_behind : Nat → Int32), (∀ j, iv 0 511 (a_behind j)) → post a_gaps a_behind) : q_wk0_X5_measure_3_69 P2 P19 a_gaps a_behind cf_voices cf_step ca_parts ca_heights x2 x3 post := by
  intro w1 ew1
  have hw1 := iv_eq ew1 (iv_add (l := 1) (h := 9) hx3 (iv_lit (l := 1) (h := 1) (by decide)) (by decide))
  exact hP19 _ _ _ (ml_up hm19 (inc_lt ew1 hx3 (by decide))) (iv_w hw1 (by decide)) k_a_behind
set_option maxRecDepth 20000 in
theorem s_wk0_X5_measure_3_19 {P2 : Int32 → (Nat → Int32) → (Nat → Int32) → Prop} {a_gaps : Nat → Int32} {a_behind : Nat → Int32} {cf_voices : Int32} {cf_step : Int32} {ca_parts : Nat → Int32} {ca_heights : Nat → Int32} {x2 : Int32} {x3 : Int32} {post : (Nat → Int32) → (Nat → Int32) → Prop} (k_a_behind : ∀ j, iv 0 511 (a_behind j)) (k_cf_voices : iv 1 9 cf_voices) (k_cf_step : iv 0 9 cf_step) (k_ca_parts : ∀ j, iv 0 3 (ca_parts j)) (k_ca_heights : ∀ j, iv 0 9 (ca_heights j)) (hx2 : iv 0 8 x2) (hx3 : iv 0 9 x3) (m2 : Int) (hm2 : m2 ≤ x2.toInt) (hP2 : ∀ (x2 : Int32) (a_gaps : Nat → Int32) (a_behind : Nat → Int32), m2 < x2.toInt → iv 0 9 x2 → (∀ j, iv 0 511 (a_behind j)) → P2 x2 a_gaps a_behind) (hpost : ∀ (a_gaps : Nat → Int32) (a_behind : Nat → Int32), (∀ j, iv 0 511 (a_behind j)) → post a_gaps a_behind) : q_wk0_X5_measure_3_19 P2 a_gaps a_behind cf_voices cf_step ca_parts ca_heights x2 x3 post := by
  intro P hP
  have loop : ∀ (n : Nat) (x3 : Int32) (a_gaps : Nat → Int32) (a_behind : Nat → Int32), (9 - x3.toInt < (n : Int)) → (iv 0 9 x3) → (∀ j, iv 0 511 (a_behind j)) → P x3 a_gaps a_behind := by
    intro n
    induction n with
    | zero => intro x3 a_gaps a_behind hm hx3 k_a_behind; exact (ms0_up hm hx3).elim
    | succ n ih =>
      intro x3 a_gaps a_behind hm hx3 k_a_behind
      apply hP
      refine ⟨fun c1 => ?_, fun c1 => ?_⟩
      · skip
        intro w2 ew2
        have hw2 := iv_eq ew2 (iv_add (l := 1) (h := 9) hx2 (iv_lit (l := 1) (h := 1) (by decide)) (by decide))
        exact hP2 _ _ _ (ml_up hm2 (inc_lt ew2 hx2 (by decide))) (iv_w hw2 (by decide)) k_a_behind
      · skip
        refine ⟨iv_in hx2 (by decide), ?_⟩
        refine ⟨iv_in (iv_lta (l := 0) (h := 8) (r_nle c1) hx3 k_cf_voices (by decide)) (by decide), ?_⟩
        refine ⟨fun c3 => ?_, fun c3 => ?_⟩
        · skip
          refine ⟨iv_in (iv_lta (l := 0) (h := 8) (r_nle c1) hx3 k_cf_voices (by decide)) (by decide), ?_⟩
          refine ⟨iv_in hx2 (by decide), ?_⟩
          refine ⟨iv_in (iv_add (l := 0) (h := 80) (iv_mul (l := 0) (h := 72) hx2 (iv_lit (l := 9) (h := 9) (by decide)) (by decide)) (iv_lta (l := 0) (h := 8) (r_nle c1) hx3 k_cf_voices (by decide)) (by decide)) (by decide), ?_⟩
          intro a4 ea4
          refine ⟨fun c5 => ?_, fun c5 => ?_⟩
          · skip
            exact s_wk0_X5_measure_3_69 k_a_behind k_cf_voices (iv_w (iv_lta (l := 0) (h := 8) (r_lt c5) k_cf_step (iv_max (l := 0) (h := 9) (iv_lit (l := 0) (h := 0) (by decide)) (iv_sub (l := (-9)) (h := 9) (k_ca_heights _) (k_ca_heights _) (by decide)) (by decide)) (by decide)) (by decide)) k_ca_parts k_ca_heights hx2 (iv_lta (l := 0) (h := 8) (r_nle c1) hx3 k_cf_voices (by decide)) m2 hm2 hP2 x3.toInt (Int.le_refl _) (fun u0 u1 u2 hq g0 g1 => ih u0 u1 u2 (ms_up hm hq) g0 g1) hpost
          · skip
            refine ⟨iv_in hx2 (by decide), ?_⟩
            intro w6 ew6
            have hw6 := iv_eq ew6 (iv_or 9 (l := 0) (h := 511) (k_a_behind _) (iv_shl1 (l := 1) (h := 256) (iv_lit (l := 1) (h := 1) (by decide)) (iv_lta (l := 0) (h := 8) (r_nle c1) hx3 k_cf_voices (by decide)) (by decide)) (by decide))
            refine ⟨iv_in hx2 (by decide), ?_⟩
            intro a7 ea7
            have k_a7 := iv_upd ea7 k_a_behind hw6
            exact s_wk0_X5_measure_3_69 k_a7 k_cf_voices k_cf_step k_ca_parts k_ca_heights hx2 (iv_lta (l := 0) (h := 8) (r_nle c1) hx3 k_cf_voices (by decide)) m2 hm2 hP2 x3.toInt (Int.le_refl _) (fun u0 u1 u2 hq g0 g1 => ih u0 u1 u2 (ms_up hm hq) g0 g1) hpost
        · skip
          refine ⟨iv_in (iv_add (l := 0) (h := 80) (iv_mul (l := 0) (h := 72) hx2 (iv_lit (l := 9) (h := 9) (by decide)) (by decide)) (iv_lta (l := 0) (h := 8) (r_nle c1) hx3 k_cf_voices (by decide)) (by decide)) (by decide), ?_⟩
          intro a8 ea8
          refine ⟨fun c9 => ?_, fun c9 => ?_⟩
          · skip
            exact s_wk0_X5_measure_3_69 k_a_behind k_cf_voices k_cf_step k_ca_parts k_ca_heights hx2 (iv_lta (l := 0) (h := 8) (r_nle c1) hx3 k_cf_voices (by decide)) m2 hm2 hP2 x3.toInt (Int.le_refl _) (fun u0 u1 u2 hq g0 g1 => ih u0 u1 u2 (ms_up hm hq) g0 g1) hpost
          · skip
            exact (iv_emp (iv_lea (l := 1000) (h := 9) (r_nlt c9) (iv_lit (l := 1000) (h := 1000) (by decide)) k_cf_step (by decide)) (by decide)).elim
  exact loop _ _ _ _ (ms_init_up _ _) hx3 k_a_behind
set_option maxRecDepth 20000 in
theorem s_wk0_X5_measure_3_2 {a_gaps : Nat → Int32} {a_behind : Nat → Int32} {cf_voices : Int32} {cf_step : Int32} {ca_parts : Nat → Int32} {ca_heights : Nat → Int32} {x2 : Int32} {post : (Nat → Int32) → (Nat → Int32) → Prop} (k_a_behind : ∀ j, iv 0 511 (a_behind j)) (k_cf_voices : iv 0 9 cf_voices) (k_cf_step : iv 0 9 cf_step) (k_ca_parts : ∀ j, iv 0 3 (ca_parts j)) (k_ca_heights : ∀ j, iv 0 9 (ca_heights j)) (hx2 : iv 0 9 x2) (hpost : ∀ (a_gaps : Nat → Int32) (a_behind : Nat → Int32), (∀ j, iv 0 511 (a_behind j)) → post a_gaps a_behind) : q_wk0_X5_measure_3_2 a_gaps a_behind cf_voices cf_step ca_parts ca_heights x2 post := by
  intro P hP
  have loop : ∀ (n : Nat) (x2 : Int32) (a_gaps : Nat → Int32) (a_behind : Nat → Int32), (9 - x2.toInt < (n : Int)) → (iv 0 9 x2) → (∀ j, iv 0 511 (a_behind j)) → P x2 a_gaps a_behind := by
    intro n
    induction n with
    | zero => intro x2 a_gaps a_behind hm hx2 k_a_behind; exact (ms0_up hm hx2).elim
    | succ n ih =>
      intro x2 a_gaps a_behind hm hx2 k_a_behind
      apply hP
      refine ⟨fun c1 => ?_, fun c1 => ?_⟩
      · skip
        exact hpost _ _ k_a_behind
      · skip
        refine ⟨iv_in (iv_lta (l := 0) (h := 8) (r_nle c1) hx2 k_cf_voices (by decide)) (by decide), ?_⟩
        intro a2 ea2
        have k_a2 := iv_upd ea2 k_a_behind (iv_w (iv_lit (l := 0) (h := 0) (by decide)) (by decide))
        exact s_wk0_X5_measure_3_19 k_a2 (iv_ltb (l := 1) (h := 9) (r_nle c1) hx2 k_cf_voices (by decide)) k_cf_step k_ca_parts k_ca_heights (iv_lta (l := 0) (h := 8) (r_nle c1) hx2 k_cf_voices (by decide)) (iv_w (iv_lit (l := 0) (h := 0) (by decide)) (by decide)) x2.toInt (Int.le_refl _) (fun u0 u1 u2 hq g0 g1 => ih u0 u1 u2 (ms_up hm hq) g0 g1) hpost
  exact loop _ _ _ _ (ms_init_up _ _) hx2 k_a_behind
set_option maxRecDepth 20000 in
theorem s_wk0_X5_measure_3_0 {a_gaps : Nat → Int32} {a_behind : Nat → Int32} {cf_voices : Int32} {cf_step : Int32} {ca_parts : Nat → Int32} {ca_heights : Nat → Int32} {post : (Nat → Int32) → (Nat → Int32) → Prop} (k_a_behind : ∀ j, iv 0 511 (a_behind j)) (k_cf_voices : iv 0 9 cf_voices) (k_cf_step : iv 0 9 cf_step) (k_ca_parts : ∀ j, iv 0 3 (ca_parts j)) (k_ca_heights : ∀ j, iv 0 9 (ca_heights j)) (hpost : ∀ (a_gaps : Nat → Int32) (a_behind : Nat → Int32), (∀ j, iv 0 511 (a_behind j)) → post a_gaps a_behind) : q_wk0_X5_measure_3_0 a_gaps a_behind cf_voices cf_step ca_parts ca_heights post := by
  exact s_wk0_X5_measure_3_2 k_a_behind k_cf_voices k_cf_step k_ca_parts k_ca_heights (iv_w (iv_lit (l := 0) (h := 0) (by decide)) (by decide)) hpost
-- wk_X5_measure_3
set_option maxRecDepth 20000 in
theorem s_wk_X5_measure_3_69 {P2 : Int32 → (Nat → Int32) → (Nat → Int32) → Prop} {P19 : Int32 → (Nat → Int32) → (Nat → Int32) → Prop} {a_gaps : Nat → Int32} {a_behind : Nat → Int32} {cf_voices : Int32} {cf_step : Int32} {ca_parts : Nat → Int32} {ca_heights : Nat → Int32} {x2 : Int32} {x3 : Int32} {post : (Nat → Int32) → (Nat → Int32) → Prop} (k_a_behind : ∀ j, iv 0 511 (a_behind j)) (k_cf_voices : iv 1 9 cf_voices) (k_cf_step : iv 0 9 cf_step) (k_ca_parts : ∀ j, iv 0 3 (ca_parts j)) (k_ca_heights : ∀ j, iv 0 9 (ca_heights j)) (hx2 : iv 0 8 x2) (hx3 : iv 0 8 x3) (m2 : Int) (hm2 : m2 ≤ x2.toInt) (hP2 : ∀ (x2 : Int32) (a_gaps : Nat → Int32) (a_behind : Nat → Int32), m2 < x2.toInt → iv 0 9 x2 → (∀ j, iv 0 511 (a_behind j)) → P2 x2 a_gaps a_behind) (m19 : Int) (hm19 : m19 ≤ x3.toInt) (hP19 : ∀ (x3 : Int32) (a_gaps : Nat → Int32) (a_behind : Nat → Int32), m19 < x3.toInt → iv 0 9 x3 → (∀ j, iv 0 511 (a_behind j)) → P19 x3 a_gaps a_behind) (hpost : ∀ (a_gaps : Nat → Int32) (a_behind : Nat → Int32), (∀ j, iv 0 511 (a_behind j)) → post a_gaps a_behind) : q_wk_X5_measure_3_69 P2 P19 a_gaps a_behind cf_voices cf_step ca_parts ca_heights x2 x3 post := by
  intro w1 ew1
  have hw1 := iv_eq ew1 (iv_add (l := 1) (h := 9) hx3 (iv_lit (l := 1) (h := 1) (by decide)) (by decide))
  exact hP19 _ _ _ (ml_up hm19 (inc_lt ew1 hx3 (by decide))) (iv_w hw1 (by decide)) k_a_behind
set_option maxRecDepth 20000 in
theorem s_wk_X5_measure_3_19 {P2 : Int32 → (Nat → Int32) → (Nat → Int32) → Prop} {a_gaps : Nat → Int32} {a_behind : Nat → Int32} {cf_voices : Int32} {cf_step : Int32} {ca_parts : Nat → Int32} {ca_heights : Nat → Int32} {x2 : Int32} {x3 : Int32} {post : (Nat → Int32) → (Nat → Int32) → Prop} (k_a_behind : ∀ j, iv 0 511 (a_behind j)) (k_cf_voices : iv 1 9 cf_voices) (k_cf_step : iv 0 9 cf_step) (k_ca_parts : ∀ j, iv 0 3 (ca_parts j)) (k_ca_heights : ∀ j, iv 0 9 (ca_heights j)) (hx2 : iv 0 8 x2) (hx3 : iv 0 9 x3) (m2 : Int) (hm2 : m2 ≤ x2.toInt) (hP2 : ∀ (x2 : Int32) (a_gaps : Nat → Int32) (a_behind : Nat → Int32), m2 < x2.toInt → iv 0 9 x2 → (∀ j, iv 0 511 (a_behind j)) → P2 x2 a_gaps a_behind) (hpost : ∀ (a_gaps : Nat → Int32) (a_behind : Nat → Int32), (∀ j, iv 0 511 (a_behind j)) → post a_gaps a_behind) : q_wk_X5_measure_3_19 P2 a_gaps a_behind cf_voices cf_step ca_parts ca_heights x2 x3 post := by
  intro P hP
  have loop : ∀ (n : Nat) (x3 : Int32) (a_gaps : Nat → Int32) (a_behind : Nat → Int32), (9 - x3.toInt < (n : Int)) → (iv 0 9 x3) → (∀ j, iv 0 511 (a_behind j)) → P x3 a_gaps a_behind := by
    intro n
    induction n with
    | zero => intro x3 a_gaps a_behind hm hx3 k_a_behind; exact (ms0_up hm hx3).elim
    | succ n ih =>
      intro x3 a_gaps a_behind hm hx3 k_a_behind
      apply hP
      refine ⟨fun c1 => ?_, fun c1 => ?_⟩
      · skip
        intro w2 ew2
        have hw2 := iv_eq ew2 (iv_add (l := 1) (h := 9) hx2 (iv_lit (l := 1) (h := 1) (by decide)) (by decide))
        exact hP2 _ _ _ (ml_up hm2 (inc_lt ew2 hx2 (by decide))) (iv_w hw2 (by decide)) k_a_behind
      · skip
        refine ⟨iv_in hx2 (by decide), ?_⟩
        refine ⟨iv_in (iv_lta (l := 0) (h := 8) (r_nle c1) hx3 k_cf_voices (by decide)) (by decide), ?_⟩
        refine ⟨fun c3 => ?_, fun c3 => ?_⟩
        · skip
          refine ⟨iv_in (iv_lta (l := 0) (h := 8) (r_nle c1) hx3 k_cf_voices (by decide)) (by decide), ?_⟩
          refine ⟨iv_in hx2 (by decide), ?_⟩
          refine ⟨iv_in (iv_add (l := 0) (h := 80) (iv_mul (l := 0) (h := 72) hx2 (iv_lit (l := 9) (h := 9) (by decide)) (by decide)) (iv_lta (l := 0) (h := 8) (r_nle c1) hx3 k_cf_voices (by decide)) (by decide)) (by decide), ?_⟩
          intro a4 ea4
          refine ⟨fun c5 => ?_, fun c5 => ?_⟩
          · skip
            exact s_wk_X5_measure_3_69 k_a_behind k_cf_voices (iv_w (iv_lta (l := 0) (h := 8) (r_lt c5) k_cf_step (iv_max (l := 0) (h := 9) (iv_lit (l := 0) (h := 0) (by decide)) (iv_sub (l := (-9)) (h := 9) (k_ca_heights _) (k_ca_heights _) (by decide)) (by decide)) (by decide)) (by decide)) k_ca_parts k_ca_heights hx2 (iv_lta (l := 0) (h := 8) (r_nle c1) hx3 k_cf_voices (by decide)) m2 hm2 hP2 x3.toInt (Int.le_refl _) (fun u0 u1 u2 hq g0 g1 => ih u0 u1 u2 (ms_up hm hq) g0 g1) hpost
          · skip
            refine ⟨iv_in hx2 (by decide), ?_⟩
            intro w6 ew6
            have hw6 := iv_eq ew6 (iv_or 9 (l := 0) (h := 511) (k_a_behind _) (iv_shl1 (l := 1) (h := 256) (iv_lit (l := 1) (h := 1) (by decide)) (iv_lta (l := 0) (h := 8) (r_nle c1) hx3 k_cf_voices (by decide)) (by decide)) (by decide))
            refine ⟨iv_in hx2 (by decide), ?_⟩
            intro a7 ea7
            have k_a7 := iv_upd ea7 k_a_behind hw6
            exact s_wk_X5_measure_3_69 k_a7 k_cf_voices k_cf_step k_ca_parts k_ca_heights hx2 (iv_lta (l := 0) (h := 8) (r_nle c1) hx3 k_cf_voices (by decide)) m2 hm2 hP2 x3.toInt (Int.le_refl _) (fun u0 u1 u2 hq g0 g1 => ih u0 u1 u2 (ms_up hm hq) g0 g1) hpost
        · skip
          refine ⟨iv_in (iv_add (l := 0) (h := 80) (iv_mul (l := 0) (h := 72) hx2 (iv_lit (l := 9) (h := 9) (by decide)) (by decide)) (iv_lta (l := 0) (h := 8) (r_nle c1) hx3 k_cf_voices (by decide)) (by decide)) (by decide), ?_⟩
          intro a8 ea8
          refine ⟨fun c9 => ?_, fun c9 => ?_⟩
          · skip
            exact s_wk_X5_measure_3_69 k_a_behind k_cf_voices k_cf_step k_ca_parts k_ca_heights hx2 (iv_lta (l := 0) (h := 8) (r_nle c1) hx3 k_cf_voices (by decide)) m2 hm2 hP2 x3.toInt (Int.le_refl _) (fun u0 u1 u2 hq g0 g1 => ih u0 u1 u2 (ms_up hm hq) g0 g1) hpost
          · skip
            exact (iv_emp (iv_lea (l := 1000) (h := 9) (r_nlt c9) (iv_lit (l := 1000) (h := 1000) (by decide)) k_cf_step (by decide)) (by decide)).elim
  exact loop _ _ _ _ (ms_init_up _ _) hx3 k_a_behind
set_option maxRecDepth 20000 in
theorem s_wk_X5_measure_3_2 {a_gaps : Nat → Int32} {a_behind : Nat → Int32} {cf_voices : Int32} {cf_step : Int32} {ca_parts : Nat → Int32} {ca_heights : Nat → Int32} {x2 : Int32} {post : (Nat → Int32) → (Nat → Int32) → Prop} (k_a_behind : ∀ j, iv 0 511 (a_behind j)) (k_cf_voices : iv 0 9 cf_voices) (k_cf_step : iv 0 9 cf_step) (k_ca_parts : ∀ j, iv 0 3 (ca_parts j)) (k_ca_heights : ∀ j, iv 0 9 (ca_heights j)) (hx2 : iv 0 9 x2) (hpost : ∀ (a_gaps : Nat → Int32) (a_behind : Nat → Int32), (∀ j, iv 0 511 (a_behind j)) → post a_gaps a_behind) : q_wk_X5_measure_3_2 a_gaps a_behind cf_voices cf_step ca_parts ca_heights x2 post := by
  intro P hP
  have loop : ∀ (n : Nat) (x2 : Int32) (a_gaps : Nat → Int32) (a_behind : Nat → Int32), (9 - x2.toInt < (n : Int)) → (iv 0 9 x2) → (∀ j, iv 0 511 (a_behind j)) → P x2 a_gaps a_behind := by
    intro n
    induction n with
    | zero => intro x2 a_gaps a_behind hm hx2 k_a_behind; exact (ms0_up hm hx2).elim
    | succ n ih =>
      intro x2 a_gaps a_behind hm hx2 k_a_behind
      apply hP
      refine ⟨fun c1 => ?_, fun c1 => ?_⟩
      · skip
        exact hpost _ _ k_a_behind
      · skip
        refine ⟨iv_in (iv_lta (l := 0) (h := 8) (r_nle c1) hx2 k_cf_voices (by decide)) (by decide), ?_⟩
        intro a2 ea2
        have k_a2 := iv_upd ea2 k_a_behind (iv_w (iv_lit (l := 0) (h := 0) (by decide)) (by decide))
        exact s_wk_X5_measure_3_19 k_a2 (iv_ltb (l := 1) (h := 9) (r_nle c1) hx2 k_cf_voices (by decide)) k_cf_step k_ca_parts k_ca_heights (iv_lta (l := 0) (h := 8) (r_nle c1) hx2 k_cf_voices (by decide)) (iv_w (iv_lit (l := 0) (h := 0) (by decide)) (by decide)) x2.toInt (Int.le_refl _) (fun u0 u1 u2 hq g0 g1 => ih u0 u1 u2 (ms_up hm hq) g0 g1) hpost
  exact loop _ _ _ _ (ms_init_up _ _) hx2 k_a_behind
set_option maxRecDepth 20000 in
theorem s_wk_X5_measure_3_0 {a_gaps : Nat → Int32} {a_behind : Nat → Int32} {cf_voices : Int32} {cf_step : Int32} {ca_parts : Nat → Int32} {ca_heights : Nat → Int32} {post : (Nat → Int32) → (Nat → Int32) → Prop} (k_a_behind : ∀ j, iv 0 511 (a_behind j)) (k_cf_voices : iv 0 9 cf_voices) (k_cf_step : iv 0 9 cf_step) (k_ca_parts : ∀ j, iv 0 3 (ca_parts j)) (k_ca_heights : ∀ j, iv 0 9 (ca_heights j)) (hpost : ∀ (a_gaps : Nat → Int32) (a_behind : Nat → Int32), (∀ j, iv 0 511 (a_behind j)) → post a_gaps a_behind) : q_wk_X5_measure_3_0 a_gaps a_behind cf_voices cf_step ca_parts ca_heights post := by
  exact s_wk_X5_measure_3_2 k_a_behind k_cf_voices k_cf_step k_ca_parts k_ca_heights (iv_w (iv_lit (l := 0) (h := 0) (by decide)) (by decide)) hpost
-- wk_X5_waysOn_6
set_option maxRecDepth 20000 in
theorem s_wk_X5_waysOn_6_45 {P5 : Int32 → Int32 → Prop} {z_tab : Nat → Int32} {x1 : Int32} {x2 : Int32} {x3 : Int32} {x4 : Int32} {post : Int32 → Prop} (hx1 : iv 1 511 x1) (hx2 : iv 0 511 x2) (hx4 : iv 0 8 x4) (m5 : Int) (hm5 : m5 ≤ x4.toInt) (hP5 : ∀ (x3 : Int32) (x4 : Int32), m5 < x4.toInt → iv 0 9 x4 → P5 x3 x4) (hpost : ∀ (r : Int32), post r) : q_wk_X5_waysOn_6_45 P5 z_tab x1 x2 x3 x4 post := by
  intro w1 ew1
  have hw1 := iv_eq ew1 (iv_add (l := 1) (h := 9) hx4 (iv_lit (l := 1) (h := 1) (by decide)) (by decide))
  exact hP5 _ _ (ml_up hm5 (inc_lt ew1 hx4 (by decide))) (iv_w hw1 (by decide))
set_option maxRecDepth 20000 in
theorem s_wk_X5_waysOn_6_5 {z_tab : Nat → Int32} {x1 : Int32} {x2 : Int32} {x3 : Int32} {x4 : Int32} {post : Int32 → Prop} (hx1 : iv 1 511 x1) (hx2 : iv 0 511 x2) (hx4 : iv 0 9 x4) (hpost : ∀ (r : Int32), post r) : q_wk_X5_waysOn_6_5 z_tab x1 x2 x3 x4 post := by
  intro P hP
  have loop : ∀ (n : Nat) (x3 : Int32) (x4 : Int32), (9 - x4.toInt < (n : Int)) → (iv 0 9 x4) → P x3 x4 := by
    intro n
    induction n with
    | zero => intro x3 x4 hm hx4; exact (ms0_up hm hx4).elim
    | succ n ih =>
      intro x3 x4 hm hx4
      apply hP
      refine ⟨fun c1 => ?_, fun c1 => ?_⟩
      · skip
        exact hpost _
      · skip
        refine ⟨fun c2 => ?_, fun c2 => ?_⟩
        · skip
          exact hpost _
        · skip
          refine ⟨fun c3 => ?_, fun c3 => ?_⟩
          · skip
            refine ⟨fun c4 => ?_, fun c4 => ?_⟩
            · skip
              exact s_wk_X5_waysOn_6_45 hx1 hx2 (iv_lta (l := 0) (h := 8) (r_nle c1) hx4 (iv_lit (l := 9) (h := 9) (by decide)) (by decide)) x4.toInt (Int.le_refl _) (fun u0 u1 hq g0 => ih u0 u1 (ms_up hm hq) g0) hpost
            · skip
              exact (iv_emp (iv_ne (l := 1) (h := 0) c4 (iv_lit (l := 0) (h := 0) (by decide)) (iv_lit (l := 0) (h := 0) (by decide)) (by decide)) (by decide)).elim
          · skip
            refine ⟨fun c5 => ?_, fun c5 => ?_⟩
            · skip
              exact (iv_emp (iv_eqa (l := 1) (h := 0) c5 (iv_lit (l := 1) (h := 1) (by decide)) (iv_lit (l := 0) (h := 0) (by decide)) (by decide)) (by decide)).elim
            · skip
              refine ⟨iv_in (iv_add (l := 0) (h := 4607) (iv_mul (l := 0) (h := 4599) (iv_or 9 (l := 0) (h := 511) hx1 (iv_shl1 (l := 1) (h := 256) (iv_lit (l := 1) (h := 1) (by decide)) (iv_lta (l := 0) (h := 8) (r_nle c1) hx4 (iv_lit (l := 9) (h := 9) (by decide)) (by decide)) (by decide)) (by decide)) (iv_lit (l := 9) (h := 9) (by decide)) (by decide)) (iv_lta (l := 0) (h := 8) (r_nle c1) hx4 (iv_lit (l := 9) (h := 9) (by decide)) (by decide)) (by decide)) (by decide), ?_⟩
              intro w6 ew6
              exact s_wk_X5_waysOn_6_45 hx1 hx2 (iv_lta (l := 0) (h := 8) (r_nle c1) hx4 (iv_lit (l := 9) (h := 9) (by decide)) (by decide)) x4.toInt (Int.le_refl _) (fun u0 u1 hq g0 => ih u0 u1 (ms_up hm hq) g0) hpost
  exact loop _ _ _ (ms_init_up _ _) hx4
set_option maxRecDepth 20000 in
theorem s_wk_X5_waysOn_6_0 {z_tab : Nat → Int32} {x1 : Int32} {x2 : Int32} {post : Int32 → Prop} (hx1 : iv 1 511 x1) (hx2 : iv 0 511 x2) (hpost : ∀ (r : Int32), post r) : q_wk_X5_waysOn_6_0 z_tab x1 x2 post := by
  exact s_wk_X5_waysOn_6_5 hx1 hx2 (iv_w (iv_lit (l := 0) (h := 0) (by decide)) (by decide)) hpost
-- wk_X5_fill_3
set_option maxRecDepth 20000 in
theorem s_wk_X5_fill_3_87 {P22 : Int32 → (Nat → Int32) → Prop} {P30 : Int32 → (Nat → Int32) → Prop} {a_gaps : Nat → Int32} {a_behind : Nat → Int32} {cf_voices : Int32} {cf_step : Int32} {ca_parts : Nat → Int32} {ca_heights : Nat → Int32} {z_tab : Nat → Int32} {x3 : Int32} {x4 : Int32} {x5 : Int32} {post : (Nat → Int32) → (Nat → Int32) → (Nat → Int32) → Prop} (k_a_behind : ∀ j, iv 0 511 (a_behind j)) (k_cf_voices : iv 1 9 cf_voices) (k_cf_step : iv 0 9 cf_step) (k_ca_parts : ∀ j, iv 0 3 (ca_parts j)) (k_ca_heights : ∀ j, iv 0 9 (ca_heights j)) (hx3 : iv 0 511 x3) (hx4 : iv 1 511 x4) (hx5 : iv 0 8 x5) (m22 : Int) (hm22 : x4.toInt ≤ m22) (hP22 : ∀ (x4 : Int32) (z_tab : Nat → Int32), x4.toInt < m22 → iv 0 511 x4 → P22 x4 z_tab) (m30 : Int) (hm30 : m30 ≤ x5.toInt) (hP30 : ∀ (x5 : Int32) (z_tab : Nat → Int32), m30 < x5.toInt → iv 0 9 x5 → P30 x5 z_tab) (hpost : ∀ (a_gaps : Nat → Int32) (a_behind : Nat → Int32) (z_tab : Nat → Int32), (∀ j, iv 0 511 (a_behind j)) → post a_gaps a_behind z_tab) : q_wk_X5_fill_3_87 P22 P30 a_gaps a_behind cf_voices cf_step ca_parts ca_heights z_tab x3 x4 x5 post := by
  intro w1 ew1
  have hw1 := iv_eq ew1 (iv_add (l := 1) (h := 9) hx5 (iv_lit (l := 1) (h := 1) (by decide)) (by decide))
  exact hP30 _ _ (ml_up hm30 (inc_lt ew1 hx5 (by decide))) (iv_w hw1 (by decide))
set_option maxRecDepth 20000 in
theorem s_wk_X5_fill_3_86 {P22 : Int32 → (Nat → Int32) → Prop} {P30 : Int32 → (Nat → Int32) → Prop} {a_gaps : Nat → Int32} {a_behind : Nat → Int32} {cf_voices : Int32} {cf_step : Int32} {ca_parts : Nat → Int32} {ca_heights : Nat → Int32} {z_tab : Nat → Int32} {x3 : Int32} {x4 : Int32} {x5 : Int32} {y0 : Int32} {y1 : Int32} {post : (Nat → Int32) → (Nat → Int32) → (Nat → Int32) → Prop} (k_a_behind : ∀ j, iv 0 511 (a_behind j)) (k_cf_voices : iv 1 9 cf_voices) (k_cf_step : iv 0 9 cf_step) (k_ca_parts : ∀ j, iv 0 3 (ca_parts j)) (k_ca_heights : ∀ j, iv 0 9 (ca_heights j)) (hx3 : iv 0 511 x3) (hx4 : iv 1 511 x4) (hx5 : iv 0 8 x5) (hy0 : iv 9 4607 y0) (m22 : Int) (hm22 : x4.toInt ≤ m22) (hP22 : ∀ (x4 : Int32) (z_tab : Nat → Int32), x4.toInt < m22 → iv 0 511 x4 → P22 x4 z_tab) (m30 : Int) (hm30 : m30 ≤ x5.toInt) (hP30 : ∀ (x5 : Int32) (z_tab : Nat → Int32), m30 < x5.toInt → iv 0 9 x5 → P30 x5 z_tab) (hpost : ∀ (a_gaps : Nat → Int32) (a_behind : Nat → Int32) (z_tab : Nat → Int32), (∀ j, iv 0 511 (a_behind j)) → post a_gaps a_behind z_tab) : q_wk_X5_fill_3_86 P22 P30 a_gaps a_behind cf_voices cf_step ca_parts ca_heights z_tab x3 x4 x5 y0 y1 post := by
  refine ⟨iv_in hy0 (by decide), ?_⟩
  intro a1 ea1
  exact s_wk_X5_fill_3_87 k_a_behind k_cf_voices k_cf_step k_ca_parts k_ca_heights hx3 hx4 hx5 m22 hm22 hP22 m30 hm30 hP30 hpost
set_option maxRecDepth 20000 in
theorem s_wk_X5_fill_3_30 {P22 : Int32 → (Nat → Int32) → Prop} {a_gaps : Nat → Int32} {a_behind : Nat → Int32} {cf_voices : Int32} {cf_step : Int32} {ca_parts : Nat → Int32} {ca_heights : Nat → Int32} {z_tab : Nat → Int32} {x3 : Int32} {x4 : Int32} {x5 : Int32} {post : (Nat → Int32) → (Nat → Int32) → (Nat → Int32) → Prop} (k_a_behind : ∀ j, iv 0 511 (a_behind j)) (k_cf_voices : iv 0 9 cf_voices) (k_cf_step : iv 0 9 cf_step) (k_ca_parts : ∀ j, iv 0 3 (ca_parts j)) (k_ca_heights : ∀ j, iv 0 9 (ca_heights j)) (hx3 : iv 0 511 x3) (hx4 : iv 1 511 x4) (hx5 : iv 0 9 x5) (m22 : Int) (hm22 : x4.toInt ≤ m22) (hP22 : ∀ (x4 : Int32) (z_tab : Nat → Int32), x4.toInt < m22 → iv 0 511 x4 → P22 x4 z_tab) (hpost : ∀ (a_gaps : Nat → Int32) (a_behind : Nat → Int32) (z_tab : Nat → Int32), (∀ j, iv 0 511 (a_behind j)) → post a_gaps a_behind z_tab) : q_wk_X5_fill_3_30 P22 a_gaps a_behind cf_voices cf_step ca_parts ca_heights z_tab x3 x4 x5 post := by
  intro P hP
  have loop : ∀ (n : Nat) (x5 : Int32) (z_tab : Nat → Int32), (9 - x5.toInt < (n : Int)) → (iv 0 9 x5) → P x5 z_tab := by
    intro n
    induction n with
    | zero => intro x5 z_tab hm hx5; exact (ms0_up hm hx5).elim
    | succ n ih =>
      intro x5 z_tab hm hx5
      apply hP
      refine ⟨fun c1 => ?_, fun c1 => ?_⟩
      · skip
        intro w2 ew2
        have hw2 := iv_eq ew2 (iv_add (l := 0) (h := 510) hx4 (iv_lit (l := (-1)) (h := (-1)) (by decide)) (by decide))
        exact hP22 _ _ (ml_dn hm22 (dec_lt ew2 hx4 (by decide))) (iv_w hw2 (by decide))
      · skip
        refine ⟨fun c3 => ?_, fun c3 => ?_⟩
        · skip
          refine ⟨fun c4 => ?_, fun c4 => ?_⟩
          · skip
            exact s_wk_X5_fill_3_87 k_a_behind (iv_ltb (l := 1) (h := 9) (r_nle c1) hx5 k_cf_voices (by decide)) k_cf_step k_ca_parts k_ca_heights hx3 hx4 (iv_lta (l := 0) (h := 8) (r_nle c1) hx5 k_cf_voices (by decide)) m22 hm22 hP22 x5.toInt (Int.le_refl _) (fun u0 u1 hq g0 => ih u0 u1 (ms_up hm hq) g0) hpost
          · skip
            exact (iv_emp (iv_ne (l := 1) (h := 0) c4 (iv_lit (l := 0) (h := 0) (by decide)) (iv_lit (l := 0) (h := 0) (by decide)) (by decide)) (by decide)).elim
        · skip
          refine ⟨fun c5 => ?_, fun c5 => ?_⟩
          · skip
            exact (iv_emp (iv_eqa (l := 1) (h := 0) c5 (iv_lit (l := 1) (h := 1) (by decide)) (iv_lit (l := 0) (h := 0) (by decide)) (by decide)) (by decide)).elim
          · skip
            refine ⟨fun c6 => ?_, fun c6 => ?_⟩
            · skip
              refine ⟨iv_in (iv_lta (l := 0) (h := 8) (r_nle c1) hx5 k_cf_voices (by decide)) (by decide), ?_⟩
              refine s_wk_X5_waysOn_6_0 hx4 (iv_andl (l := 0) (h := 511) (k_a_behind _) (by decide)) (fun r7 => ?_)
              exact s_wk_X5_fill_3_86 k_a_behind (iv_ltb (l := 1) (h := 9) (r_nle c1) hx5 k_cf_voices (by decide)) k_cf_step k_ca_parts k_ca_heights hx3 hx4 (iv_lta (l := 0) (h := 8) (r_nle c1) hx5 k_cf_voices (by decide)) (iv_add (l := 9) (h := 4607) (iv_mul (l := 9) (h := 4599) hx4 (iv_lit (l := 9) (h := 9) (by decide)) (by decide)) (iv_lta (l := 0) (h := 8) (r_nle c1) hx5 k_cf_voices (by decide)) (by decide)) m22 hm22 hP22 x5.toInt (Int.le_refl _) (fun u0 u1 hq g0 => ih u0 u1 (ms_up hm hq) g0) hpost
            · skip
              exact s_wk_X5_fill_3_86 k_a_behind (iv_ltb (l := 1) (h := 9) (r_nle c1) hx5 k_cf_voices (by decide)) k_cf_step k_ca_parts k_ca_heights (iv_w (iv_eqb (l := 1) (h := 511) c6 hx4 hx3 (by decide)) (by decide)) hx4 (iv_lta (l := 0) (h := 8) (r_nle c1) hx5 k_cf_voices (by decide)) (iv_add (l := 9) (h := 4607) (iv_mul (l := 9) (h := 4599) hx4 (iv_lit (l := 9) (h := 9) (by decide)) (by decide)) (iv_lta (l := 0) (h := 8) (r_nle c1) hx5 k_cf_voices (by decide)) (by decide)) m22 hm22 hP22 x5.toInt (Int.le_refl _) (fun u0 u1 hq g0 => ih u0 u1 (ms_up hm hq) g0) hpost
  exact loop _ _ _ (ms_init_up _ _) hx5
set_option maxRecDepth 20000 in
theorem s_wk_X5_fill_3_22 {a_gaps : Nat → Int32} {a_behind : Nat → Int32} {cf_voices : Int32} {cf_step : Int32} {ca_parts : Nat → Int32} {ca_heights : Nat → Int32} {z_tab : Nat → Int32} {x3 : Int32} {x4 : Int32} {post : (Nat → Int32) → (Nat → Int32) → (Nat → Int32) → Prop} (k_a_behind : ∀ j, iv 0 511 (a_behind j)) (k_cf_voices : iv 0 9 cf_voices) (k_cf_step : iv 0 9 cf_step) (k_ca_parts : ∀ j, iv 0 3 (ca_parts j)) (k_ca_heights : ∀ j, iv 0 9 (ca_heights j)) (hx3 : iv 0 511 x3) (hx4 : iv 0 511 x4) (hpost : ∀ (a_gaps : Nat → Int32) (a_behind : Nat → Int32) (z_tab : Nat → Int32), (∀ j, iv 0 511 (a_behind j)) → post a_gaps a_behind z_tab) : q_wk_X5_fill_3_22 a_gaps a_behind cf_voices cf_step ca_parts ca_heights z_tab x3 x4 post := by
  intro P hP
  have loop : ∀ (n : Nat) (x4 : Int32) (z_tab : Nat → Int32), (x4.toInt - 0 < (n : Int)) → (iv 0 511 x4) → P x4 z_tab := by
    intro n
    induction n with
    | zero => intro x4 z_tab hm hx4; exact (ms0_dn hm hx4).elim
    | succ n ih =>
      intro x4 z_tab hm hx4
      apply hP
      refine ⟨fun c1 => ?_, fun c1 => ?_⟩
      · skip
        exact hpost _ _ _ k_a_behind
      · skip
        exact s_wk_X5_fill_3_30 k_a_behind k_cf_voices k_cf_step k_ca_parts k_ca_heights hx3 (iv_ltb (l := 1) (h := 511) (r_nle c1) (iv_lit (l := 0) (h := 0) (by decide)) hx4 (by decide)) (iv_w (iv_lit (l := 0) (h := 0) (by decide)) (by decide)) x4.toInt (Int.le_refl _) (fun u0 u1 hq g0 => ih u0 u1 (ms_dn hm hq) g0) hpost
  exact loop _ _ _ (ms_init_dn _ _) hx4
set_option maxRecDepth 20000 in
theorem s_wk_X5_fill_3_10 {a_gaps : Nat → Int32} {a_behind : Nat → Int32} {cf_voices : Int32} {cf_step : Int32} {ca_parts : Nat → Int32} {ca_heights : Nat → Int32} {z_tab : Nat → Int32} {post : (Nat → Int32) → (Nat → Int32) → (Nat → Int32) → Prop} (k_a_behind : ∀ j, iv 0 511 (a_behind j)) (k_cf_voices : iv 0 9 cf_voices) (k_cf_step : iv 0 9 cf_step) (k_ca_parts : ∀ j, iv 0 3 (ca_parts j)) (k_ca_heights : ∀ j, iv 0 9 (ca_heights j)) (hpost : ∀ (a_gaps : Nat → Int32) (a_behind : Nat → Int32) (z_tab : Nat → Int32), (∀ j, iv 0 511 (a_behind j)) → post a_gaps a_behind z_tab) : q_wk_X5_fill_3_10 a_gaps a_behind cf_voices cf_step ca_parts ca_heights z_tab post := by
  intro w1 ew1
  have hw1 := iv_eq ew1 (iv_sub (l := 0) (h := 511) (iv_shl1 (l := 1) (h := 512) (iv_lit (l := 1) (h := 1) (by decide)) k_cf_voices (by decide)) (iv_lit (l := 1) (h := 1) (by decide)) (by decide))
  exact s_wk_X5_fill_3_22 k_a_behind k_cf_voices k_cf_step k_ca_parts k_ca_heights hw1 hw1 hpost
set_option maxRecDepth 20000 in
theorem s_wk_X5_fill_3_0 {a_gaps : Nat → Int32} {a_behind : Nat → Int32} {cf_voices : Int32} {cf_step : Int32} {ca_parts : Nat → Int32} {ca_heights : Nat → Int32} {z_tab : Nat → Int32} {post : (Nat → Int32) → (Nat → Int32) → (Nat → Int32) → Prop} (k_a_behind : ∀ j, iv 0 511 (a_behind j)) (k_cf_voices : iv 0 9 cf_voices) (k_cf_step : iv 0 9 cf_step) (k_ca_parts : ∀ j, iv 0 3 (ca_parts j)) (k_ca_heights : ∀ j, iv 0 9 (ca_heights j)) (hpost : ∀ (a_gaps : Nat → Int32) (a_behind : Nat → Int32) (z_tab : Nat → Int32), (∀ j, iv 0 511 (a_behind j)) → post a_gaps a_behind z_tab) : q_wk_X5_fill_3_0 a_gaps a_behind cf_voices cf_step ca_parts ca_heights z_tab post := by
  refine s_wk_X5_measure_3_0 k_a_behind k_cf_voices k_cf_step k_ca_parts k_ca_heights (fun o1 o2 k_o2 => ?_)
  refine ⟨fun h => absurd h (by decide), fun h0 => ?_⟩
  exact s_wk_X5_fill_3_10 k_o2 k_cf_voices k_cf_step k_ca_parts k_ca_heights hpost
-- wk_X5_total_3
set_option maxRecDepth 20000 in
theorem s_wk_X5_total_3_19 {cf_voices : Int32} {z_tab : Nat → Int32} {x3 : Int32} {x4 : Int32} {post : Int32 → Prop} (k_cf_voices : iv 1 9 cf_voices) (hx4 : iv 0 9 x4) (hpost : ∀ (r : Int32), post r) : q_wk_X5_total_3_19 cf_voices z_tab x3 x4 post := by
  intro P hP
  have loop : ∀ (n : Nat) (x3 : Int32) (x4 : Int32), (9 - x4.toInt < (n : Int)) → (iv 0 9 x4) → P x3 x4 := by
    intro n
    induction n with
    | zero => intro x3 x4 hm hx4; exact (ms0_up hm hx4).elim
    | succ n ih =>
      intro x3 x4 hm hx4
      apply hP
      refine ⟨fun c1 => ?_, fun c1 => ?_⟩
      · skip
        exact hpost _
      · skip
        refine ⟨iv_in (iv_add (l := 9) (h := 2312) (iv_mul (l := 9) (h := 2304) (iv_shl1 (l := 1) (h := 256) (iv_lit (l := 1) (h := 1) (by decide)) (iv_lta (l := 0) (h := 8) (r_nle c1) hx4 k_cf_voices (by decide)) (by decide)) (iv_lit (l := 9) (h := 9) (by decide)) (by decide)) (iv_lta (l := 0) (h := 8) (r_nle c1) hx4 k_cf_voices (by decide)) (by decide)) (by decide), ?_⟩
        intro w2 ew2
        intro w3 ew3
        have hw3 := iv_eq ew3 (iv_add (l := 1) (h := 9) (iv_lta (l := 0) (h := 8) (r_nle c1) hx4 k_cf_voices (by decide)) (iv_lit (l := 1) (h := 1) (by decide)) (by decide))
        exact ih _ _ (ms_up hm (inc_lt ew3 (iv_lta (l := 0) (h := 8) (r_nle c1) hx4 k_cf_voices (by decide)) (by decide))) (iv_w hw3 (by decide))
  exact loop _ _ _ (ms_init_up _ _) hx4
set_option maxRecDepth 20000 in
theorem s_wk_X5_total_3_0 {cf_voices : Int32} {z_tab : Nat → Int32} {post : Int32 → Prop} (k_cf_voices : iv 0 9 cf_voices) (hpost : ∀ (r : Int32), post r) : q_wk_X5_total_3_0 cf_voices z_tab post := by
  refine ⟨fun c1 => ?_, fun c1 => ?_⟩
  · skip
    refine ⟨fun h => absurd h (by decide), fun h0 => ?_⟩
    exact s_wk_X5_total_3_19 (iv_ne (l := 1) (h := 9) c1 k_cf_voices (iv_lit (l := 0) (h := 0) (by decide)) (by decide)) (iv_w (iv_lit (l := 0) (h := 0) (by decide)) (by decide)) hpost
  · skip
    exact hpost _
-- wk_X5_firstOf
set_option maxRecDepth 20000 in
theorem s_wk_X5_firstOf_44 {P8 : Int32 → Prop} {z_tab : Nat → Int32} {x1 : Int32} {x2 : Int32} {x4 : Int32} {post : Int32 → Prop} (hx1 : iv 0 511 x1) (hx2 : iv 0 511 x2) (hx4 : iv 0 8 x4) (m8 : Int) (hm8 : m8 ≤ x4.toInt) (hP8 : ∀ (x4 : Int32), m8 < x4.toInt → iv 0 9 x4 → P8 x4) (hpost : ∀ (r : Int32), iv (-1) 8 r → post r) : q_wk_X5_firstOf_44 P8 z_tab x1 x2 x4 post := by
  intro w1 ew1
  have hw1 := iv_eq ew1 (iv_add (l := 1) (h := 9) hx4 (iv_lit (l := 1) (h := 1) (by decide)) (by decide))
  exact hP8 _ (ml_up hm8 (inc_lt ew1 hx4 (by decide))) (iv_w hw1 (by decide))
set_option maxRecDepth 20000 in
theorem s_wk_X5_firstOf_8 {z_tab : Nat → Int32} {x1 : Int32} {x2 : Int32} {x4 : Int32} {post : Int32 → Prop} (hx1 : iv 0 511 x1) (hx2 : iv 0 511 x2) (hx4 : iv 0 9 x4) (hpost : ∀ (r : Int32), iv (-1) 8 r → post r) : q_wk_X5_firstOf_8 z_tab x1 x2 x4 post := by
  intro P hP
  have loop : ∀ (n : Nat) (x4 : Int32), (9 - x4.toInt < (n : Int)) → (iv 0 9 x4) → P x4 := by
    intro n
    induction n with
    | zero => intro x4 hm hx4; exact (ms0_up hm hx4).elim
    | succ n ih =>
      intro x4 hm hx4
      apply hP
      refine ⟨fun c1 => ?_, fun c1 => ?_⟩
      · skip
        exact hpost _ (iv_w (iv_lit (l := (-1)) (h := (-1)) (by decide)) (by decide))
      · skip
        refine ⟨fun c2 => ?_, fun c2 => ?_⟩
        · skip
          refine ⟨fun c3 => ?_, fun c3 => ?_⟩
          · skip
            exact s_wk_X5_firstOf_44 hx1 hx2 (iv_lta (l := 0) (h := 8) (r_nle c1) hx4 (iv_lit (l := 9) (h := 9) (by decide)) (by decide)) x4.toInt (Int.le_refl _) (fun u0 hq g0 => ih u0 (ms_up hm hq) g0) hpost
          · skip
            exact (iv_emp (iv_ne (l := 1) (h := 0) c3 (iv_lit (l := 0) (h := 0) (by decide)) (iv_lit (l := 0) (h := 0) (by decide)) (by decide)) (by decide)).elim
        · skip
          refine ⟨fun c4 => ?_, fun c4 => ?_⟩
          · skip
            exact (iv_emp (iv_eqa (l := 1) (h := 0) c4 (iv_lit (l := 1) (h := 1) (by decide)) (iv_lit (l := 0) (h := 0) (by decide)) (by decide)) (by decide)).elim
          · skip
            refine ⟨iv_in (iv_add (l := 0) (h := 4607) (iv_mul (l := 0) (h := 4599) (iv_or 9 (l := 0) (h := 511) hx1 (iv_shl1 (l := 1) (h := 256) (iv_lit (l := 1) (h := 1) (by decide)) (iv_lta (l := 0) (h := 8) (r_nle c1) hx4 (iv_lit (l := 9) (h := 9) (by decide)) (by decide)) (by decide)) (by decide)) (iv_lit (l := 9) (h := 9) (by decide)) (by decide)) (iv_lta (l := 0) (h := 8) (r_nle c1) hx4 (iv_lit (l := 9) (h := 9) (by decide)) (by decide)) (by decide)) (by decide), ?_⟩
            refine ⟨fun c5 => ?_, fun c5 => ?_⟩
            · skip
              exact s_wk_X5_firstOf_44 hx1 hx2 (iv_lta (l := 0) (h := 8) (r_nle c1) hx4 (iv_lit (l := 9) (h := 9) (by decide)) (by decide)) x4.toInt (Int.le_refl _) (fun u0 hq g0 => ih u0 (ms_up hm hq) g0) hpost
            · skip
              exact hpost _ (iv_w (iv_lta (l := 0) (h := 8) (r_nle c1) hx4 (iv_lit (l := 9) (h := 9) (by decide)) (by decide)) (by decide))
  exact loop _ _ (ms_init_up _ _) hx4
set_option maxRecDepth 20000 in
theorem s_wk_X5_firstOf_0 {z_tab : Nat → Int32} {x1 : Int32} {x2 : Int32} {post : Int32 → Prop} (hx1 : iv 0 511 x1) (hx2 : iv 0 511 x2) (hpost : ∀ (r : Int32), iv (-1) 8 r → post r) : q_wk_X5_firstOf_0 z_tab x1 x2 post := by
  refine ⟨fun h => absurd h (by decide), fun h0 => ?_⟩
  exact s_wk_X5_firstOf_8 hx1 hx2 (iv_w (iv_lit (l := 0) (h := 0) (by decide)) (by decide)) hpost
-- wk_X5_voiceAt_3
set_option maxRecDepth 20000 in
theorem s_wk_X5_voiceAt_3_18 {a_behind : Nat → Int32} {cf_voices : Int32} {z_tab : Nat → Int32} {x2 : Int32} {x3 : Int32} {x4 : Int32} {x5 : Int32} {x6 : Int32} {post : Int32 → Prop} (k_a_behind : ∀ j, iv 0 511 (a_behind j)) (k_cf_voices : iv 1 9 cf_voices) (hx2 : iv 0 8 x2) (hx3 : iv 0 511 x3) (hx4 : iv 0 511 x4) (hx5 : iv (-1) 8 x5) (hx6 : iv 0 9 x6) (hpost : ∀ (r : Int32), iv (-1) 8 r → post r) : q_wk_X5_voiceAt_3_18 a_behind cf_voices z_tab x2 x3 x4 x5 x6 post := by
  intro P hP
  have loop : ∀ (n : Nat) (x3 : Int32) (x4 : Int32) (x5 : Int32) (x6 : Int32), (9 - x6.toInt < (n : Int)) → (iv 0 511 x3) → (iv 0 511 x4) → (iv (-1) 8 x5) → (iv 0 9 x6) → P x3 x4 x5 x6 := by
    intro n
    induction n with
    | zero => intro x3 x4 x5 x6 hm hx3 hx4 hx5 hx6; exact (ms0_up hm hx6).elim
    | succ n ih =>
      intro x3 x4 x5 x6 hm hx3 hx4 hx5 hx6
      apply hP
      refine ⟨fun c1 => ?_, fun c1 => ?_⟩
      · skip
        exact hpost _ hx5
      · skip
        refine s_wk_X5_firstOf_0 hx3 hx4 (fun r2 hr2 => ?_)
        refine ⟨fun c3 => ?_, fun c3 => ?_⟩
        · skip
          intro w4 ew4
          have hw4 := iv_eq ew4 (iv_or 9 (l := 0) (h := 511) hx3 (iv_shl1 (l := 1) (h := 256) (iv_lit (l := 1) (h := 1) (by decide)) (iv_ne (l := 0) (h := 8) c3 hr2 (iv_lit (l := (-1)) (h := (-1)) (by decide)) (by decide)) (by decide)) (by decide))
          refine ⟨iv_in (iv_ne (l := 0) (h := 8) c3 hr2 (iv_lit (l := (-1)) (h := (-1)) (by decide)) (by decide)) (by decide), ?_⟩
          intro w5 ew5
          have hw5 := iv_eq ew5 (iv_andl (l := 0) (h := 511) (k_a_behind _) (by decide))
          intro w6 ew6
          have hw6 := iv_eq ew6 (iv_add (l := 1) (h := 9) (iv_lea (l := 0) (h := 8) (r_nlt c1) hx6 hx2 (by decide)) (iv_lit (l := 1) (h := 1) (by decide)) (by decide))
          exact ih _ _ _ _ (ms_up hm (inc_lt ew6 (iv_lea (l := 0) (h := 8) (r_nlt c1) hx6 hx2 (by decide)) (by decide))) hw4 hw5 (iv_w (iv_ne (l := 0) (h := 8) c3 hr2 (iv_lit (l := (-1)) (h := (-1)) (by decide)) (by decide)) (by decide)) (iv_w hw6 (by decide))
        · skip
          exact hpost _ (iv_w (iv_lit (l := (-1)) (h := (-1)) (by decide)) (by decide))
  exact loop _ _ _ _ _ (ms_init_up _ _) hx3 hx4 hx5 hx6
set_option maxRecDepth 20000 in
theorem s_wk_X5_voiceAt_3_0 {a_behind : Nat → Int32} {cf_voices : Int32} {z_tab : Nat → Int32} {x2 : Int32} {post : Int32 → Prop} (k_a_behind : ∀ j, iv 0 511 (a_behind j)) (k_cf_voices : iv 1 9 cf_voices) (hx2 : iv 0 8 x2) (hpost : ∀ (r : Int32), iv (-1) 8 r → post r) : q_wk_X5_voiceAt_3_0 a_behind cf_voices z_tab x2 post := by
  intro w1 ew1
  have hw1 := iv_eq ew1 (iv_sub (l := 0) (h := 511) (iv_shl1 (l := 1) (h := 512) (iv_lit (l := 1) (h := 1) (by decide)) k_cf_voices (by decide)) (iv_lit (l := 1) (h := 1) (by decide)) (by decide))
  exact s_wk_X5_voiceAt_3_18 k_a_behind k_cf_voices hx2 (iv_w (iv_lit (l := 0) (h := 0) (by decide)) (by decide)) hw1 (iv_w (iv_lit (l := (-1)) (h := (-1)) (by decide)) (by decide)) (iv_w (iv_lit (l := 0) (h := 0) (by decide)) (by decide)) hpost
-- wk_X5_stepOn_6
set_option maxRecDepth 20000 in
theorem s_wk_X5_stepOn_6_79 {P8 : Int32 → Int32 → Prop} {a_gaps : Nat → Int32} {z_tab : Nat → Int32} {x2 : Int32} {x3 : Int32} {x4 : Int32} {x5 : Int32} {x6 : Int32} {post : Int32 → Prop} (hx2 : iv 1 511 x2) (hx3 : iv 0 511 x3) (hx4 : iv 0 8 x4) (hx5 : iv (-2147483648) 1000 x5) (hx6 : iv 0 8 x6) (m8 : Int) (hm8 : m8 ≤ x6.toInt) (hP8 : ∀ (x5 : Int32) (x6 : Int32), m8 < x6.toInt → iv (-2147483648) 1000 x5 → iv 0 9 x6 → P8 x5 x6) (hpost : ∀ (r : Int32), iv (-2147483648) 1000 r → post r) : q_wk_X5_stepOn_6_79 P8 a_gaps z_tab x2 x3 x4 x5 x6 post := by
  intro w1 ew1
  have hw1 := iv_eq ew1 (iv_add (l := 1) (h := 9) hx6 (iv_lit (l := 1) (h := 1) (by decide)) (by decide))
  exact hP8 _ _ (ml_up hm8 (inc_lt ew1 hx6 (by decide))) hx5 (iv_w hw1 (by decide))
set_option maxRecDepth 20000 in
theorem s_wk_X5_stepOn_6_8 {a_gaps : Nat → Int32} {z_tab : Nat → Int32} {x2 : Int32} {x3 : Int32} {x4 : Int32} {x5 : Int32} {x6 : Int32} {post : Int32 → Prop} (hx2 : iv 1 511 x2) (hx3 : iv 0 511 x3) (hx4 : iv 0 8 x4) (hx5 : iv (-2147483648) 1000 x5) (hx6 : iv 0 9 x6) (hpost : ∀ (r : Int32), iv (-2147483648) 1000 r → post r) : q_wk_X5_stepOn_6_8 a_gaps z_tab x2 x3 x4 x5 x6 post := by
  intro P hP
  have loop : ∀ (n : Nat) (x5 : Int32) (x6 : Int32), (9 - x6.toInt < (n : Int)) → (iv (-2147483648) 1000 x5) → (iv 0 9 x6) → P x5 x6 := by
    intro n
    induction n with
    | zero => intro x5 x6 hm hx5 hx6; exact (ms0_up hm hx6).elim
    | succ n ih =>
      intro x5 x6 hm hx5 hx6
      apply hP
      refine ⟨fun c1 => ?_, fun c1 => ?_⟩
      · skip
        exact hpost _ hx5
      · skip
        refine ⟨fun c2 => ?_, fun c2 => ?_⟩
        · skip
          exact hpost _ hx5
        · skip
          refine ⟨iv_in (iv_add (l := 0) (h := 80) (iv_mul (l := 0) (h := 72) hx4 (iv_lit (l := 9) (h := 9) (by decide)) (by decide)) (iv_lta (l := 0) (h := 8) (r_nle c1) hx6 (iv_lit (l := 9) (h := 9) (by decide)) (by decide)) (by decide)) (by decide), ?_⟩
          intro w3 ew3
          refine ⟨fun c4 => ?_, fun c4 => ?_⟩
          · skip
            refine ⟨fun c5 => ?_, fun c5 => ?_⟩
            · skip
              exact s_wk_X5_stepOn_6_79 hx2 hx3 hx4 hx5 (iv_lta (l := 0) (h := 8) (r_nle c1) hx6 (iv_lit (l := 9) (h := 9) (by decide)) (by decide)) x6.toInt (Int.le_refl _) (fun u0 u1 hq g0 g1 => ih u0 u1 (ms_up hm hq) g0 g1) hpost
            · skip
              exact (iv_emp (iv_ne (l := 1) (h := 0) c5 (iv_lit (l := 0) (h := 0) (by decide)) (iv_lit (l := 0) (h := 0) (by decide)) (by decide)) (by decide)).elim
          · skip
            refine ⟨fun c6 => ?_, fun c6 => ?_⟩
            · skip
              exact (iv_emp (iv_eqa (l := 1) (h := 0) c6 (iv_lit (l := 1) (h := 1) (by decide)) (iv_lit (l := 0) (h := 0) (by decide)) (by decide)) (by decide)).elim
            · skip
              refine ⟨fun c7 => ?_, fun c7 => ?_⟩
              · skip
                exact s_wk_X5_stepOn_6_79 hx2 hx3 hx4 hx5 (iv_lta (l := 0) (h := 8) (r_nle c1) hx6 (iv_lit (l := 9) (h := 9) (by decide)) (by decide)) x6.toInt (Int.le_refl _) (fun u0 u1 hq g0 g1 => ih u0 u1 (ms_up hm hq) g0 g1) hpost
              · skip
                refine ⟨iv_in (iv_add (l := 0) (h := 4607) (iv_mul (l := 0) (h := 4599) (iv_or 9 (l := 0) (h := 511) hx2 (iv_shl1 (l := 1) (h := 256) (iv_lit (l := 1) (h := 1) (by decide)) (iv_lta (l := 0) (h := 8) (r_nle c1) hx6 (iv_lit (l := 9) (h := 9) (by decide)) (by decide)) (by decide)) (by decide)) (iv_lit (l := 9) (h := 9) (by decide)) (by decide)) (iv_lta (l := 0) (h := 8) (r_nle c1) hx6 (iv_lit (l := 9) (h := 9) (by decide)) (by decide)) (by decide)) (by decide), ?_⟩
                intro w8 ew8
                have hw8 := iv_eq ew8 (iv_min (l := (-2147483648)) (h := 1000) (iv_ltb (l := (-2147483647)) (h := 1000) (r_nle c7) (iv_top w3) hx5 (by decide)) (iv_max (l := (-2147483648)) (h := 2147483647) (iv_lta (l := (-2147483648)) (h := 999) (r_nle c7) (iv_top w3) hx5 (by decide)) (iv_top _) (by decide)) (by decide))
                exact s_wk_X5_stepOn_6_79 hx2 hx3 hx4 hw8 (iv_lta (l := 0) (h := 8) (r_nle c1) hx6 (iv_lit (l := 9) (h := 9) (by decide)) (by decide)) x6.toInt (Int.le_refl _) (fun u0 u1 hq g0 g1 => ih u0 u1 (ms_up hm hq) g0 g1) hpost
  exact loop _ _ _ (ms_init_up _ _) hx5 hx6
set_option maxRecDepth 20000 in
theorem s_wk_X5_stepOn_6_0 {a_gaps : Nat → Int32} {z_tab : Nat → Int32} {x2 : Int32} {x3 : Int32} {x4 : Int32} {post : Int32 → Prop} (hx2 : iv 1 511 x2) (hx3 : iv 0 511 x3) (hx4 : iv 0 8 x4) (hpost : ∀ (r : Int32), iv (-2147483648) 1000 r → post r) : q_wk_X5_stepOn_6_0 a_gaps z_tab x2 x3 x4 post := by
  exact s_wk_X5_stepOn_6_8 hx2 hx3 hx4 (iv_w (iv_lit (l := 1000) (h := 1000) (by decide)) (by decide)) (iv_w (iv_lit (l := 0) (h := 0) (by decide)) (by decide)) hpost
-- wk_X5_leastStep_3
set_option maxRecDepth 20000 in
theorem s_wk_X5_leastStep_3_113 {a_gaps : Nat → Int32} {a_behind : Nat → Int32} {cf_voices : Int32} {cf_step : Int32} {ca_parts : Nat → Int32} {ca_heights : Nat → Int32} {z_tab : Nat → Int32} {x4 : Int32} {x5 : Int32} {post : Int32 → (Nat → Int32) → (Nat → Int32) → (Nat → Int32) → Prop} (k_a_behind : ∀ j, iv 0 511 (a_behind j)) (k_cf_voices : iv 1 9 cf_voices) (k_cf_step : iv 0 9 cf_step) (k_ca_parts : ∀ j, iv 0 3 (ca_parts j)) (k_ca_heights : ∀ j, iv 0 9 (ca_heights j)) (hx4 : iv (-2147483648) 1000 x4) (hx5 : iv 0 9 x5) (hpost : ∀ (r : Int32) (a_gaps : Nat → Int32) (a_behind : Nat → Int32) (z_tab : Nat → Int32), iv (-2147483648) 999 r → (∀ j, iv 0 511 (a_behind j)) → post r a_gaps a_behind z_tab) : q_wk_X5_leastStep_3_113 a_gaps a_behind cf_voices cf_step ca_parts ca_heights z_tab x4 x5 post := by
  intro P hP
  have loop : ∀ (n : Nat) (x4 : Int32) (x5 : Int32), (9 - x5.toInt < (n : Int)) → (iv (-2147483648) 1000 x4) → (iv 0 9 x5) → P x4 x5 := by
    intro n
    induction n with
    | zero => intro x4 x5 hm hx4 hx5; exact (ms0_up hm hx5).elim
    | succ n ih =>
      intro x4 x5 hm hx4 hx5
      apply hP
      refine ⟨fun c1 => ?_, fun c1 => ?_⟩
      · skip
        refine ⟨fun c2 => ?_, fun c2 => ?_⟩
        · skip
          exact hpost _ _ _ _ (iv_w (iv_lit (l := (-1)) (h := (-1)) (by decide)) (by decide)) k_a_behind
        · skip
          exact hpost _ _ _ _ (iv_lta (l := (-2147483648)) (h := 999) (r_nle c2) hx4 (iv_lit (l := 1000) (h := 1000) (by decide)) (by decide)) k_a_behind
      · skip
        refine ⟨iv_in (iv_add (l := 9) (h := 2312) (iv_mul (l := 9) (h := 2304) (iv_shl1 (l := 1) (h := 256) (iv_lit (l := 1) (h := 1) (by decide)) (iv_lta (l := 0) (h := 8) (r_nle c1) hx5 k_cf_voices (by decide)) (by decide)) (iv_lit (l := 9) (h := 9) (by decide)) (by decide)) (iv_lta (l := 0) (h := 8) (r_nle c1) hx5 k_cf_voices (by decide)) (by decide)) (by decide), ?_⟩
        intro w3 ew3
        have hw3 := iv_eq ew3 (iv_min (l := (-2147483648)) (h := 1000) hx4 (iv_top _) (by decide))
        intro w4 ew4
        have hw4 := iv_eq ew4 (iv_add (l := 1) (h := 9) (iv_lta (l := 0) (h := 8) (r_nle c1) hx5 k_cf_voices (by decide)) (iv_lit (l := 1) (h := 1) (by decide)) (by decide))
        exact ih _ _ (ms_up hm (inc_lt ew4 (iv_lta (l := 0) (h := 8) (r_nle c1) hx5 k_cf_voices (by decide)) (by decide))) hw3 (iv_w hw4 (by decide))
  exact loop _ _ _ (ms_init_up _ _) hx4 hx5
set_option maxRecDepth 20000 in
theorem s_wk_X5_leastStep_3_93 {P31 : Int32 → (Nat → Int32) → Prop} {P39 : Int32 → (Nat → Int32) → Prop} {a_gaps : Nat → Int32} {a_behind : Nat → Int32} {cf_voices : Int32} {cf_step : Int32} {ca_parts : Nat → Int32} {ca_heights : Nat → Int32} {z_tab : Nat → Int32} {x3 : Int32} {x4 : Int32} {x5 : Int32} {post : Int32 → (Nat → Int32) → (Nat → Int32) → (Nat → Int32) → Prop} (k_a_behind : ∀ j, iv 0 511 (a_behind j)) (k_cf_voices : iv 1 9 cf_voices) (k_cf_step : iv 0 9 cf_step) (k_ca_parts : ∀ j, iv 0 3 (ca_parts j)) (k_ca_heights : ∀ j, iv 0 9 (ca_heights j)) (hx3 : iv 0 511 x3) (hx4 : iv 1 511 x4) (hx5 : iv 0 8 x5) (m31 : Int) (hm31 : x4.toInt ≤ m31) (hP31 : ∀ (x4 : Int32) (z_tab : Nat → Int32), x4.toInt < m31 → iv 0 511 x4 → P31 x4 z_tab) (m39 : Int) (hm39 : m39 ≤ x5.toInt) (hP39 : ∀ (x5 : Int32) (z_tab : Nat → Int32), m39 < x5.toInt → iv 0 9 x5 → P39 x5 z_tab) (hpost : ∀ (r : Int32) (a_gaps : Nat → Int32) (a_behind : Nat → Int32) (z_tab : Nat → Int32), iv (-2147483648) 999 r → (∀ j, iv 0 511 (a_behind j)) → post r a_gaps a_behind z_tab) : q_wk_X5_leastStep_3_93 P31 P39 a_gaps a_behind cf_voices cf_step ca_parts ca_heights z_tab x3 x4 x5 post := by
  intro w1 ew1
  have hw1 := iv_eq ew1 (iv_add (l := 1) (h := 9) hx5 (iv_lit (l := 1) (h := 1) (by decide)) (by decide))
  exact hP39 _ _ (ml_up hm39 (inc_lt ew1 hx5 (by decide))) (iv_w hw1 (by decide))
set_option maxRecDepth 20000 in
theorem s_wk_X5_leastStep_3_92 {P31 : Int32 → (Nat → Int32) → Prop} {P39 : Int32 → (Nat → Int32) → Prop} {a_gaps : Nat → Int32} {a_behind : Nat → Int32} {cf_voices : Int32} {cf_step : Int32} {ca_parts : Nat → Int32} {ca_heights : Nat → Int32} {z_tab : Nat → Int32} {x3 : Int32} {x4 : Int32} {x5 : Int32} {y0 : Int32} {y1 : Int32} {post : Int32 → (Nat → Int32) → (Nat → Int32) → (Nat → Int32) → Prop} (k_a_behind : ∀ j, iv 0 511 (a_behind j)) (k_cf_voices : iv 1 9 cf_voices) (k_cf_step : iv 0 9 cf_step) (k_ca_parts : ∀ j, iv 0 3 (ca_parts j)) (k_ca_heights : ∀ j, iv 0 9 (ca_heights j)) (hx3 : iv 0 511 x3) (hx4 : iv 1 511 x4) (hx5 : iv 0 8 x5) (hy0 : iv 9 4607 y0) (hy1 : iv (-2147483648) 1000 y1) (m31 : Int) (hm31 : x4.toInt ≤ m31) (hP31 : ∀ (x4 : Int32) (z_tab : Nat → Int32), x4.toInt < m31 → iv 0 511 x4 → P31 x4 z_tab) (m39 : Int) (hm39 : m39 ≤ x5.toInt) (hP39 : ∀ (x5 : Int32) (z_tab : Nat → Int32), m39 < x5.toInt → iv 0 9 x5 → P39 x5 z_tab) (hpost : ∀ (r : Int32) (a_gaps : Nat → Int32) (a_behind : Nat → Int32) (z_tab : Nat → Int32), iv (-2147483648) 999 r → (∀ j, iv 0 511 (a_behind j)) → post r a_gaps a_behind z_tab) : q_wk_X5_leastStep_3_92 P31 P39 a_gaps a_behind cf_voices cf_step ca_parts ca_heights z_tab x3 x4 x5 y0 y1 post := by
  refine ⟨iv_in hy0 (by decide), ?_⟩
  intro a1 ea1
  exact s_wk_X5_leastStep_3_93 k_a_behind k_cf_voices k_cf_step k_ca_parts k_ca_heights hx3 hx4 hx5 m31 hm31 hP31 m39 hm39 hP39 hpost
set_option maxRecDepth 20000 in
theorem s_wk_X5_leastStep_3_39 {P31 : Int32 → (Nat → Int32) → Prop} {a_gaps : Nat → Int32} {a_behind : Nat → Int32} {cf_voices : Int32} {cf_step : Int32} {ca_parts : Nat → Int32} {ca_heights : Nat → Int32} {z_tab : Nat → Int32} {x3 : Int32} {x4 : Int32} {x5 : Int32} {post : Int32 → (Nat → Int32) → (Nat → Int32) → (Nat → Int32) → Prop} (k_a_behind : ∀ j, iv 0 511 (a_behind j)) (k_cf_voices : iv 1 9 cf_voices) (k_cf_step : iv 0 9 cf_step) (k_ca_parts : ∀ j, iv 0 3 (ca_parts j)) (k_ca_heights : ∀ j, iv 0 9 (ca_heights j)) (hx3 : iv 0 511 x3) (hx4 : iv 1 511 x4) (hx5 : iv 0 9 x5) (m31 : Int) (hm31 : x4.toInt ≤ m31) (hP31 : ∀ (x4 : Int32) (z_tab : Nat → Int32), x4.toInt < m31 → iv 0 511 x4 → P31 x4 z_tab) (hpost : ∀ (r : Int32) (a_gaps : Nat → Int32) (a_behind : Nat → Int32) (z_tab : Nat → Int32), iv (-2147483648) 999 r → (∀ j, iv 0 511 (a_behind j)) → post r a_gaps a_behind z_tab) : q_wk_X5_leastStep_3_39 P31 a_gaps a_behind cf_voices cf_step ca_parts ca_heights z_tab x3 x4 x5 post := by
  intro P hP
  have loop : ∀ (n : Nat) (x5 : Int32) (z_tab : Nat → Int32), (9 - x5.toInt < (n : Int)) → (iv 0 9 x5) → P x5 z_tab := by
    intro n
    induction n with
    | zero => intro x5 z_tab hm hx5; exact (ms0_up hm hx5).elim
    | succ n ih =>
      intro x5 z_tab hm hx5
      apply hP
      refine ⟨fun c1 => ?_, fun c1 => ?_⟩
      · skip
        intro w2 ew2
        have hw2 := iv_eq ew2 (iv_add (l := 0) (h := 510) hx4 (iv_lit (l := (-1)) (h := (-1)) (by decide)) (by decide))
        exact hP31 _ _ (ml_dn hm31 (dec_lt ew2 hx4 (by decide))) (iv_w hw2 (by decide))
      · skip
        refine ⟨fun c3 => ?_, fun c3 => ?_⟩
        · skip
          refine ⟨fun c4 => ?_, fun c4 => ?_⟩
          · skip
            exact s_wk_X5_leastStep_3_93 k_a_behind k_cf_voices k_cf_step k_ca_parts k_ca_heights hx3 hx4 (iv_lta (l := 0) (h := 8) (r_nle c1) hx5 k_cf_voices (by decide)) m31 hm31 hP31 x5.toInt (Int.le_refl _) (fun u0 u1 hq g0 => ih u0 u1 (ms_up hm hq) g0) hpost
          · skip
            exact (iv_emp (iv_ne (l := 1) (h := 0) c4 (iv_lit (l := 0) (h := 0) (by decide)) (iv_lit (l := 0) (h := 0) (by decide)) (by decide)) (by decide)).elim
        · skip
          refine ⟨fun c5 => ?_, fun c5 => ?_⟩
          · skip
            exact (iv_emp (iv_eqa (l := 1) (h := 0) c5 (iv_lit (l := 1) (h := 1) (by decide)) (iv_lit (l := 0) (h := 0) (by decide)) (by decide)) (by decide)).elim
          · skip
            refine ⟨fun c6 => ?_, fun c6 => ?_⟩
            · skip
              refine s_wk_X5_stepOn_6_0 hx4 (iv_andl (l := 0) (h := 511) hx3 (by decide)) (iv_lta (l := 0) (h := 8) (r_nle c1) hx5 k_cf_voices (by decide)) (fun r7 hr7 => ?_)
              exact s_wk_X5_leastStep_3_92 k_a_behind k_cf_voices k_cf_step k_ca_parts k_ca_heights hx3 hx4 (iv_lta (l := 0) (h := 8) (r_nle c1) hx5 k_cf_voices (by decide)) (iv_add (l := 9) (h := 4607) (iv_mul (l := 9) (h := 4599) hx4 (iv_lit (l := 9) (h := 9) (by decide)) (by decide)) (iv_lta (l := 0) (h := 8) (r_nle c1) hx5 k_cf_voices (by decide)) (by decide)) hr7 m31 hm31 hP31 x5.toInt (Int.le_refl _) (fun u0 u1 hq g0 => ih u0 u1 (ms_up hm hq) g0) hpost
            · skip
              exact s_wk_X5_leastStep_3_92 k_a_behind k_cf_voices k_cf_step k_ca_parts k_ca_heights (iv_w (iv_eqb (l := 1) (h := 511) c6 hx4 hx3 (by decide)) (by decide)) hx4 (iv_lta (l := 0) (h := 8) (r_nle c1) hx5 k_cf_voices (by decide)) (iv_add (l := 9) (h := 4607) (iv_mul (l := 9) (h := 4599) hx4 (iv_lit (l := 9) (h := 9) (by decide)) (by decide)) (iv_lta (l := 0) (h := 8) (r_nle c1) hx5 k_cf_voices (by decide)) (by decide)) (iv_w (iv_lit (l := 0) (h := 0) (by decide)) (by decide)) m31 hm31 hP31 x5.toInt (Int.le_refl _) (fun u0 u1 hq g0 => ih u0 u1 (ms_up hm hq) g0) hpost
  exact loop _ _ _ (ms_init_up _ _) hx5
set_option maxRecDepth 20000 in
theorem s_wk_X5_leastStep_3_31 {a_gaps : Nat → Int32} {a_behind : Nat → Int32} {cf_voices : Int32} {cf_step : Int32} {ca_parts : Nat → Int32} {ca_heights : Nat → Int32} {z_tab : Nat → Int32} {x3 : Int32} {x4 : Int32} {post : Int32 → (Nat → Int32) → (Nat → Int32) → (Nat → Int32) → Prop} (k_a_behind : ∀ j, iv 0 511 (a_behind j)) (k_cf_voices : iv 1 9 cf_voices) (k_cf_step : iv 0 9 cf_step) (k_ca_parts : ∀ j, iv 0 3 (ca_parts j)) (k_ca_heights : ∀ j, iv 0 9 (ca_heights j)) (hx3 : iv 0 511 x3) (hx4 : iv 0 511 x4) (hpost : ∀ (r : Int32) (a_gaps : Nat → Int32) (a_behind : Nat → Int32) (z_tab : Nat → Int32), iv (-2147483648) 999 r → (∀ j, iv 0 511 (a_behind j)) → post r a_gaps a_behind z_tab) : q_wk_X5_leastStep_3_31 a_gaps a_behind cf_voices cf_step ca_parts ca_heights z_tab x3 x4 post := by
  intro P hP
  have loop : ∀ (n : Nat) (x4 : Int32) (z_tab : Nat → Int32), (x4.toInt - 0 < (n : Int)) → (iv 0 511 x4) → P x4 z_tab := by
    intro n
    induction n with
    | zero => intro x4 z_tab hm hx4; exact (ms0_dn hm hx4).elim
    | succ n ih =>
      intro x4 z_tab hm hx4
      apply hP
      refine ⟨fun c1 => ?_, fun c1 => ?_⟩
      · skip
        exact s_wk_X5_leastStep_3_113 k_a_behind k_cf_voices k_cf_step k_ca_parts k_ca_heights (iv_w (iv_lit (l := 1000) (h := 1000) (by decide)) (by decide)) (iv_w (iv_lit (l := 0) (h := 0) (by decide)) (by decide)) hpost
      · skip
        exact s_wk_X5_leastStep_3_39 k_a_behind k_cf_voices k_cf_step k_ca_parts k_ca_heights hx3 (iv_ltb (l := 1) (h := 511) (r_nle c1) (iv_lit (l := 0) (h := 0) (by decide)) hx4 (by decide)) (iv_w (iv_lit (l := 0) (h := 0) (by decide)) (by decide)) x4.toInt (Int.le_refl _) (fun u0 u1 hq g0 => ih u0 u1 (ms_dn hm hq) g0) hpost
  exact loop _ _ _ (ms_init_dn _ _) hx4
set_option maxRecDepth 20000 in
theorem s_wk_X5_leastStep_3_19 {a_gaps : Nat → Int32} {a_behind : Nat → Int32} {cf_voices : Int32} {cf_step : Int32} {ca_parts : Nat → Int32} {ca_heights : Nat → Int32} {z_tab : Nat → Int32} {post : Int32 → (Nat → Int32) → (Nat → Int32) → (Nat → Int32) → Prop} (k_a_behind : ∀ j, iv 0 511 (a_behind j)) (k_cf_voices : iv 1 9 cf_voices) (k_cf_step : iv 0 9 cf_step) (k_ca_parts : ∀ j, iv 0 3 (ca_parts j)) (k_ca_heights : ∀ j, iv 0 9 (ca_heights j)) (hpost : ∀ (r : Int32) (a_gaps : Nat → Int32) (a_behind : Nat → Int32) (z_tab : Nat → Int32), iv (-2147483648) 999 r → (∀ j, iv 0 511 (a_behind j)) → post r a_gaps a_behind z_tab) : q_wk_X5_leastStep_3_19 a_gaps a_behind cf_voices cf_step ca_parts ca_heights z_tab post := by
  intro w1 ew1
  have hw1 := iv_eq ew1 (iv_sub (l := 0) (h := 511) (iv_shl1 (l := 1) (h := 512) (iv_lit (l := 1) (h := 1) (by decide)) k_cf_voices (by decide)) (iv_lit (l := 1) (h := 1) (by decide)) (by decide))
  exact s_wk_X5_leastStep_3_31 k_a_behind k_cf_voices k_cf_step k_ca_parts k_ca_heights hw1 hw1 hpost
set_option maxRecDepth 20000 in
theorem s_wk_X5_leastStep_3_0 {a_gaps : Nat → Int32} {a_behind : Nat → Int32} {cf_voices : Int32} {cf_step : Int32} {ca_parts : Nat → Int32} {ca_heights : Nat → Int32} {z_tab : Nat → Int32} {post : Int32 → (Nat → Int32) → (Nat → Int32) → (Nat → Int32) → Prop} (k_a_behind : ∀ j, iv 0 511 (a_behind j)) (k_cf_voices : iv 0 9 cf_voices) (k_cf_step : iv 0 9 cf_step) (k_ca_parts : ∀ j, iv 0 3 (ca_parts j)) (k_ca_heights : ∀ j, iv 0 9 (ca_heights j)) (hpost : ∀ (r : Int32) (a_gaps : Nat → Int32) (a_behind : Nat → Int32) (z_tab : Nat → Int32), iv (-2147483648) 999 r → (∀ j, iv 0 511 (a_behind j)) → post r a_gaps a_behind z_tab) : q_wk_X5_leastStep_3_0 a_gaps a_behind cf_voices cf_step ca_parts ca_heights z_tab post := by
  refine ⟨fun c1 => ?_, fun c1 => ?_⟩
  · skip
    refine s_wk_X5_measure_3_0 k_a_behind (iv_w (iv_ne (l := 1) (h := 9) c1 k_cf_voices (iv_lit (l := 0) (h := 0) (by decide)) (by decide)) (by decide)) k_cf_step k_ca_parts k_ca_heights (fun o2 o3 k_o3 => ?_)
    refine ⟨fun h => absurd h (by decide), fun h0 => ?_⟩
    exact s_wk_X5_leastStep_3_19 k_o3 (iv_ne (l := 1) (h := 9) c1 k_cf_voices (iv_lit (l := 0) (h := 0) (by decide)) (by decide)) k_cf_step k_ca_parts k_ca_heights hpost
  · skip
    exact hpost _ _ _ _ (iv_w (iv_lit (l := 0) (h := 0) (by decide)) (by decide)) k_a_behind
end
