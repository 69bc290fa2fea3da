-- m_count
set_option maxRecDepth 20000 in
theorem s_m_count_0 {f_code : Int32} {a_many : Nat → Int32} {x1 : Int32} {post : Int32 → (Int32) → Prop} (k_f_code : iv 0 0 f_code) (k_a_many : ∀ j, iv 0 2 (a_many j)) (hpost : ∀ (r : Int32) (f_code : Int32), iv (-2) 2 r → (iv 0 0 f_code) → post r f_code) : q_m_count_0 f_code a_many x1 post := by
  refine ⟨fun c1 => ?_, fun c1 => ?_⟩
  · skip
    refine ⟨fun c2 => ?_, fun c2 => ?_⟩
    · skip
      exact hpost _ _ (iv_w (iv_lit (l := (-2)) (h := (-2)) (by decide)) (by decide)) (iv_lit (l := 0) (h := 0) (by decide))
    · skip
      exact (iv_emp (iv_ne (l := 1) (h := 0) c2 (iv_lit (l := 0) (h := 0) (by decide)) (iv_lit (l := 0) (h := 0) (by decide)) (by decide)) (by decide)).elim
  · skip
    refine ⟨fun c3 => ?_, fun c3 => ?_⟩
    · skip
      refine ⟨fun c4 => ?_, fun c4 => ?_⟩
      · skip
        exact hpost _ _ (iv_w (iv_lit (l := (-2)) (h := (-2)) (by decide)) (by decide)) (iv_lit (l := 0) (h := 0) (by decide))
      · skip
        exact (iv_emp (iv_ne (l := 1) (h := 0) c4 (iv_lit (l := 0) (h := 0) (by decide)) (iv_lit (l := 0) (h := 0) (by decide)) (by decide)) (by decide)).elim
    · skip
      refine ⟨fun c5 => ?_, fun c5 => ?_⟩
      · skip
        exact (iv_emp (iv_eqa (l := 1) (h := 0) c5 (iv_lit (l := 1) (h := 1) (by decide)) (iv_lit (l := 0) (h := 0) (by decide)) (by decide)) (by decide)).elim
      · skip
        refine ⟨iv_in (iv_lea (l := 0) (h := 3) (r_nlt c3) (iv_leb (l := 0) (h := 2147483647) (r_nlt c1) (iv_lit (l := 0) (h := 0) (by decide)) (iv_top x1) (by decide)) (iv_lit (l := 3) (h := 3) (by decide)) (by decide)) (by decide), ?_⟩
        exact hpost _ _ (iv_w (k_a_many _) (by decide)) (iv_lit (l := 0) (h := 0) (by decide))
