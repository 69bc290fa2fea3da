def DR (o : Nat) (lf_huts : Int32) (lf_singers : Int32) (lf_villages : Int32) (lf_dams : Int32) (lf_echoes : Int32) (lf_deep : Int32) (lf_slide : Int32) (la_heights : Nat → Int32) (la_ladders : Nat → Int32) (la_minutes : Nat → Int32) (la_echoFrom : Nat → Int32) (la_echoTo : Nat → Int32) (la_homes : Nat → Int32) (la_talls : Nat → Int32) (la_known : Nat → Int32) (vf_deeds : Int32) (va_kinds : Nat → Int32) (va_firsts : Nat → Int32) (va_seconds : Nat → Int32) (sf_facts : Int32) (sa_heard : Nat → Int32) (sa_huts : Nat → Int32) (sa_minutes : Nat → Int32) (cf_voices : Int32) (cf_step : Int32) (ca_parts : Nat → Int32) (ca_heights : Nat → Int32) (h s : Int32) (td : Nat → Int32) (fh fs : Int32) : Prop := (o = 0 → LDR lf_huts lf_singers lf_villages lf_dams lf_echoes lf_deep lf_slide la_heights la_ladders la_minutes la_echoFrom la_echoTo la_homes la_talls la_known td ∧ HB h fh ∧ HB s fs) ∧ (o = 1 → R3 vf_deeds va_kinds va_firsts va_seconds td) ∧ (o = 2 → R3 sf_facts sa_heard sa_huts sa_minutes td) ∧ (o = 3 → CDR cf_voices cf_step ca_parts ca_heights td)
theorem DR0 {lf_huts lf_singers lf_villages lf_dams lf_echoes lf_deep lf_slide vf_deeds sf_facts cf_voices cf_step : Int32} {la_heights la_ladders la_minutes la_echoFrom la_echoTo la_homes la_talls la_known va_kinds va_firsts va_seconds sa_heard sa_huts sa_minutes ca_parts ca_heights : Nat → Int32} {h s fh fs : Int32} {td : Nat → Int32} (hl : LDR lf_huts lf_singers lf_villages lf_dams lf_echoes lf_deep lf_slide la_heights la_ladders la_minutes la_echoFrom la_echoTo la_homes la_talls la_known td) (hh : HB h fh) (hs : HB s fs) : DR 0 lf_huts lf_singers lf_villages lf_dams lf_echoes lf_deep lf_slide la_heights la_ladders la_minutes la_echoFrom la_echoTo la_homes la_talls la_known vf_deeds va_kinds va_firsts va_seconds sf_facts sa_heard sa_huts sa_minutes cf_voices cf_step ca_parts ca_heights h s td fh fs := ⟨fun _ => ⟨hl, hh, hs⟩, fun h => absurd h (by decide), fun h => absurd h (by decide), fun h => absurd h (by decide)⟩
theorem DR1 {lf_huts lf_singers lf_villages lf_dams lf_echoes lf_deep lf_slide vf_deeds sf_facts cf_voices cf_step : Int32} {la_heights la_ladders la_minutes la_echoFrom la_echoTo la_homes la_talls la_known va_kinds va_firsts va_seconds sa_heard sa_huts sa_minutes ca_parts ca_heights : Nat → Int32} {h s fh fs : Int32} {td : Nat → Int32} (hl : R3 vf_deeds va_kinds va_firsts va_seconds td) : DR 1 lf_huts lf_singers lf_villages lf_dams lf_echoes lf_deep lf_slide la_heights la_ladders la_minutes la_echoFrom la_echoTo la_homes la_talls la_known vf_deeds va_kinds va_firsts va_seconds sf_facts sa_heard sa_huts sa_minutes cf_voices cf_step ca_parts ca_heights h s td fh fs := ⟨fun h => absurd h (by decide), fun _ => hl, fun h => absurd h (by decide), fun h => absurd h (by decide)⟩
theorem DR2 {lf_huts lf_singers lf_villages lf_dams lf_echoes lf_deep lf_slide vf_deeds sf_facts cf_voices cf_step : Int32} {la_heights la_ladders la_minutes la_echoFrom la_echoTo la_homes la_talls la_known va_kinds va_firsts va_seconds sa_heard sa_huts sa_minutes ca_parts ca_heights : Nat → Int32} {h s fh fs : Int32} {td : Nat → Int32} (hl : R3 sf_facts sa_heard sa_huts sa_minutes td) : DR 2 lf_huts lf_singers lf_villages lf_dams lf_echoes lf_deep lf_slide la_heights la_ladders la_minutes la_echoFrom la_echoTo la_homes la_talls la_known vf_deeds va_kinds va_firsts va_seconds sf_facts sa_heard sa_huts sa_minutes cf_voices cf_step ca_parts ca_heights h s td fh fs := ⟨fun h => absurd h (by decide), fun h => absurd h (by decide), fun _ => hl, fun h => absurd h (by decide)⟩
theorem DR3 {lf_huts lf_singers lf_villages lf_dams lf_echoes lf_deep lf_slide vf_deeds sf_facts cf_voices cf_step : Int32} {la_heights la_ladders la_minutes la_echoFrom la_echoTo la_homes la_talls la_known va_kinds va_firsts va_seconds sa_heard sa_huts sa_minutes ca_parts ca_heights : Nat → Int32} {h s fh fs : Int32} {td : Nat → Int32} (hl : CDR cf_voices cf_step ca_parts ca_heights td) : DR 3 lf_huts lf_singers lf_villages lf_dams lf_echoes lf_deep lf_slide la_heights la_ladders la_minutes la_echoFrom la_echoTo la_homes la_talls la_known vf_deeds va_kinds va_firsts va_seconds sf_facts sa_heard sa_huts sa_minutes cf_voices cf_step ca_parts ca_heights h s td fh fs := ⟨fun h => absurd h (by decide), fun h => absurd h (by decide), fun h => absurd h (by decide), fun _ => hl⟩
theorem iv_cb {x : Int32} {h : Int} {m : Nat} (hx : iv 0 h x) (hm : h = m) : x.toNatClampNeg ≤ m := by
  have e : x.toNatClampNeg = x.toInt.toNat := rfl
  have := hx.2
  omega
theorem CB_n {td : Nat → Int32} (h : CB 0 td) : (td 0).toNatClampNeg ≤ 9 ∧ (td 1).toNatClampNeg ≤ 6 ∧ (td 4).toNatClampNeg ≤ 4 := ⟨iv_cb h.1 rfl, iv_cb (h.2 rfl).1 rfl, iv_cb (h.2 rfl).2 rfl⟩
theorem LDR_villages {huts singers villages dams echoes deep slide : Int32} {heights ladders minutes echoFrom echoTo homes talls known td : Nat → Int32} (v : Int32) (h : LDR huts singers villages dams echoes deep slide heights ladders minutes echoFrom echoTo homes talls known td) (b0 : (td 0).toNatClampNeg ≤ 9) (b1 : (td 1).toNatClampNeg ≤ 6) (b4 : (td 4).toNatClampNeg ≤ 4) : LDR huts singers (v) dams echoes deep slide heights ladders minutes echoFrom echoTo homes talls known (upd td 2 v) := by
  obtain ⟨e_huts, e_singers, e_villages, e_dams, e_echoes, e_deep, e_slide, e_heights, e_ladders, e_minutes, e_echo, e_home, e_known⟩ := h
  refine ⟨?_, ?_, ?_, ?_, ?_, ?_, ?_, ?_, ?_, ?_, ?_, ?_, ?_⟩
  · rw [up_n (by omega)]; exact e_huts
  · rw [up_n (by omega)]; exact e_singers
  · rw [up_s]
  · rw [up_n (by omega)]; exact e_dams
  · rw [up_n (by omega)]; exact e_echoes
  · rw [up_n (by omega)]; exact e_deep
  · rw [up_n (by omega)]; exact e_slide
  · intro j hj
    rw [up_n (by omega)] at hj
    rw [up_n (by omega)]
    exact e_heights j hj
  · intro j hj
    rw [up_n (by omega)]
    exact e_ladders j hj
  · intro j hj
    rw [up_n (by omega)]
    exact e_minutes j hj
  · intro j hj
    rw [up_n (by omega)] at hj
    rw [up_n (by omega), up_n (by omega)]
    exact e_echo j hj
  · intro j hj
    rw [up_n (by omega)] at hj
    rw [up_n (by omega), up_n (by omega)]
    exact e_home j hj
  · intro j hj
    rw [up_n (by omega)]
    exact e_known j hj
theorem LDR_dams {huts singers villages dams echoes deep slide : Int32} {heights ladders minutes echoFrom echoTo homes talls known td : Nat → Int32} (v : Int32) (h : LDR huts singers villages dams echoes deep slide heights ladders minutes echoFrom echoTo homes talls known td) (b0 : (td 0).toNatClampNeg ≤ 9) (b1 : (td 1).toNatClampNeg ≤ 6) (b4 : (td 4).toNatClampNeg ≤ 4) : LDR huts singers villages (v) echoes deep slide heights ladders minutes echoFrom echoTo homes talls known (upd td 3 v) := by
  obtain ⟨e_huts, e_singers, e_villages, e_dams, e_echoes, e_deep, e_slide, e_heights, e_ladders, e_minutes, e_echo, e_home, e_known⟩ := h
  refine ⟨?_, ?_, ?_, ?_, ?_, ?_, ?_, ?_, ?_, ?_, ?_, ?_, ?_⟩
  · rw [up_n (by omega)]; exact e_huts
  · rw [up_n (by omega)]; exact e_singers
  · rw [up_n (by omega)]; exact e_villages
  · rw [up_s]
  · rw [up_n (by omega)]; exact e_echoes
  · rw [up_n (by omega)]; exact e_deep
  · rw [up_n (by omega)]; exact e_slide
  · intro j hj
    rw [up_n (by omega)] at hj
    rw [up_n (by omega)]
    exact e_heights j hj
  · intro j hj
    rw [up_n (by omega)]
    exact e_ladders j hj
  · intro j hj
    rw [up_n (by omega)]
    exact e_minutes j hj
  · intro j hj
    rw [up_n (by omega)] at hj
    rw [up_n (by omega), up_n (by omega)]
    exact e_echo j hj
  · intro j hj
    rw [up_n (by omega)] at hj
    rw [up_n (by omega), up_n (by omega)]
    exact e_home j hj
  · intro j hj
    rw [up_n (by omega)]
    exact e_known j hj
theorem LDR_deep {huts singers villages dams echoes deep slide : Int32} {heights ladders minutes echoFrom echoTo homes talls known td : Nat → Int32} (v : Int32) (h : LDR huts singers villages dams echoes deep slide heights ladders minutes echoFrom echoTo homes talls known td) (b0 : (td 0).toNatClampNeg ≤ 9) (b1 : (td 1).toNatClampNeg ≤ 6) (b4 : (td 4).toNatClampNeg ≤ 4) : LDR huts singers villages dams echoes (v) slide heights ladders minutes echoFrom echoTo homes talls known (upd td 5 v) := by
  obtain ⟨e_huts, e_singers, e_villages, e_dams, e_echoes, e_deep, e_slide, e_heights, e_ladders, e_minutes, e_echo, e_home, e_known⟩ := h
  refine ⟨?_, ?_, ?_, ?_, ?_, ?_, ?_, ?_, ?_, ?_, ?_, ?_, ?_⟩
  · rw [up_n (by omega)]; exact e_huts
  · rw [up_n (by omega)]; exact e_singers
  · rw [up_n (by omega)]; exact e_villages
  · rw [up_n (by omega)]; exact e_dams
  · rw [up_n (by omega)]; exact e_echoes
  · rw [up_s]
  · rw [up_n (by omega)]; exact e_slide
  · intro j hj
    rw [up_n (by omega)] at hj
    rw [up_n (by omega)]
    exact e_heights j hj
  · intro j hj
    rw [up_n (by omega)]
    exact e_ladders j hj
  · intro j hj
    rw [up_n (by omega)]
    exact e_minutes j hj
  · intro j hj
    rw [up_n (by omega)] at hj
    rw [up_n (by omega), up_n (by omega)]
    exact e_echo j hj
  · intro j hj
    rw [up_n (by omega)] at hj
    rw [up_n (by omega), up_n (by omega)]
    exact e_home j hj
  · intro j hj
    rw [up_n (by omega)]
    exact e_known j hj
theorem LDR_slide {huts singers villages dams echoes deep slide : Int32} {heights ladders minutes echoFrom echoTo homes talls known td : Nat → Int32} (v : Int32) (h : LDR huts singers villages dams echoes deep slide heights ladders minutes echoFrom echoTo homes talls known td) (b0 : (td 0).toNatClampNeg ≤ 9) (b1 : (td 1).toNatClampNeg ≤ 6) (b4 : (td 4).toNatClampNeg ≤ 4) : LDR huts singers villages dams echoes deep (v) heights ladders minutes echoFrom echoTo homes talls known (upd td 6 v) := by
  obtain ⟨e_huts, e_singers, e_villages, e_dams, e_echoes, e_deep, e_slide, e_heights, e_ladders, e_minutes, e_echo, e_home, e_known⟩ := h
  refine ⟨?_, ?_, ?_, ?_, ?_, ?_, ?_, ?_, ?_, ?_, ?_, ?_, ?_⟩
  · rw [up_n (by omega)]; exact e_huts
  · rw [up_n (by omega)]; exact e_singers
  · rw [up_n (by omega)]; exact e_villages
  · rw [up_n (by omega)]; exact e_dams
  · rw [up_n (by omega)]; exact e_echoes
  · rw [up_n (by omega)]; exact e_deep
  · rw [up_s]
  · intro j hj
    rw [up_n (by omega)] at hj
    rw [up_n (by omega)]
    exact e_heights j hj
  · intro j hj
    rw [up_n (by omega)]
    exact e_ladders j hj
  · intro j hj
    rw [up_n (by omega)]
    exact e_minutes j hj
  · intro j hj
    rw [up_n (by omega)] at hj
    rw [up_n (by omega), up_n (by omega)]
    exact e_echo j hj
  · intro j hj
    rw [up_n (by omega)] at hj
    rw [up_n (by omega), up_n (by omega)]
    exact e_home j hj
  · intro j hj
    rw [up_n (by omega)]
    exact e_known j hj
theorem LDR_hut {huts singers villages dams echoes deep slide : Int32} {heights ladders minutes echoFrom echoTo homes talls known td : Nat → Int32} {k : Nat} (v : Int32) (hk : td 0 = nI k) (hk9 : k < 9) (h : LDR huts singers villages dams echoes deep slide heights ladders minutes echoFrom echoTo homes talls known td) (b0 : (td 0).toNatClampNeg ≤ 9) (b1 : (td 1).toNatClampNeg ≤ 6) (b4 : (td 4).toNatClampNeg ≤ 4) : LDR (nI (k + 1)) singers villages dams echoes deep slide (upd heights k v) ladders minutes echoFrom echoTo homes talls known (upd (upd td 0 (nI (k + 1))) (7 + k) v) := by
  obtain ⟨e_huts, e_singers, e_villages, e_dams, e_echoes, e_deep, e_slide, e_heights, e_ladders, e_minutes, e_echo, e_home, e_known⟩ := h
  refine ⟨?_, ?_, ?_, ?_, ?_, ?_, ?_, ?_, ?_, ?_, ?_, ?_, ?_⟩
  · rw [up_n (by omega), up_s]
  · rw [up_n (by omega), up_n (by omega)]; exact e_singers
  · rw [up_n (by omega), up_n (by omega)]; exact e_villages
  · rw [up_n (by omega), up_n (by omega)]; exact e_dams
  · rw [up_n (by omega), up_n (by omega)]; exact e_echoes
  · rw [up_n (by omega), up_n (by omega)]; exact e_deep
  · rw [up_n (by omega), up_n (by omega)]; exact e_slide
  · intro j hj
    rw [up_n (by omega), up_s, nI_clamp (by omega)] at hj
    by_cases hjk : j = k
    · subst hjk; rw [up_s, up_s]
    · rw [up_n hjk, up_n (by omega), up_n (by omega)]
      exact e_heights j (by rw [hk, nI_clamp (by omega)]; omega)
  · intro j hj
    rw [up_n (by omega), up_n (by omega)]
    exact e_ladders j hj
  · intro j hj
    rw [up_n (by omega), up_n (by omega)]
    exact e_minutes j hj
  · intro j hj
    rw [up_n (by omega), up_n (by omega)] at hj
    rw [up_n (by omega), up_n (by omega), up_n (by omega), up_n (by omega)]
    exact e_echo j hj
  · intro j hj
    rw [up_n (by omega), up_n (by omega)] at hj
    rw [up_n (by omega), up_n (by omega), up_n (by omega), up_n (by omega)]
    exact e_home j hj
  · intro j hj
    rw [up_n (by omega), up_n (by omega)]
    exact e_known j hj
theorem LDR_lad {huts singers villages dams echoes deep slide : Int32} {heights ladders minutes echoFrom echoTo homes talls known td : Nat → Int32} {i : Nat} (v : Int32) (hi : i < 9) (h : LDR huts singers villages dams echoes deep slide heights ladders minutes echoFrom echoTo homes talls known td) (b0 : (td 0).toNatClampNeg ≤ 9) (b1 : (td 1).toNatClampNeg ≤ 6) (b4 : (td 4).toNatClampNeg ≤ 4) : LDR huts singers villages dams echoes deep slide heights (upd ladders i v) minutes echoFrom echoTo homes talls known (upd td (16 + i) v) := by
  obtain ⟨e_huts, e_singers, e_villages, e_dams, e_echoes, e_deep, e_slide, e_heights, e_ladders, e_minutes, e_echo, e_home, e_known⟩ := h
  refine ⟨?_, ?_, ?_, ?_, ?_, ?_, ?_, ?_, ?_, ?_, ?_, ?_, ?_⟩
  · rw [up_n (by omega)]; exact e_huts
  · rw [up_n (by omega)]; exact e_singers
  · rw [up_n (by omega)]; exact e_villages
  · rw [up_n (by omega)]; exact e_dams
  · rw [up_n (by omega)]; exact e_echoes
  · rw [up_n (by omega)]; exact e_deep
  · rw [up_n (by omega)]; exact e_slide
  · intro j hj
    rw [up_n (by omega)] at hj
    rw [up_n (by omega)]
    exact e_heights j hj
  · intro j hj
    by_cases hji : j = i
    · subst hji; rw [up_s, up_s]
    · rw [up_n hji, up_n (by omega)]
      exact e_ladders j hj
  · intro j hj
    rw [up_n (by omega)]
    exact e_minutes j hj
  · intro j hj
    rw [up_n (by omega)] at hj
    rw [up_n (by omega), up_n (by omega)]
    exact e_echo j hj
  · intro j hj
    rw [up_n (by omega)] at hj
    rw [up_n (by omega), up_n (by omega)]
    exact e_home j hj
  · intro j hj
    rw [up_n (by omega)]
    exact e_known j hj
theorem LDR_way {huts singers villages dams echoes deep slide : Int32} {heights ladders minutes echoFrom echoTo homes talls known td : Nat → Int32} {i : Nat} (v : Int32) (hi : i < 81) (h : LDR huts singers villages dams echoes deep slide heights ladders minutes echoFrom echoTo homes talls known td) (b0 : (td 0).toNatClampNeg ≤ 9) (b1 : (td 1).toNatClampNeg ≤ 6) (b4 : (td 4).toNatClampNeg ≤ 4) : LDR huts singers villages dams echoes deep slide heights ladders (upd minutes i v) echoFrom echoTo homes talls known (upd td (51 + i) v) := by
  obtain ⟨e_huts, e_singers, e_villages, e_dams, e_echoes, e_deep, e_slide, e_heights, e_ladders, e_minutes, e_echo, e_home, e_known⟩ := h
  refine ⟨?_, ?_, ?_, ?_, ?_, ?_, ?_, ?_, ?_, ?_, ?_, ?_, ?_⟩
  · rw [up_n (by omega)]; exact e_huts
  · rw [up_n (by omega)]; exact e_singers
  · rw [up_n (by omega)]; exact e_villages
  · rw [up_n (by omega)]; exact e_dams
  · rw [up_n (by omega)]; exact e_echoes
  · rw [up_n (by omega)]; exact e_deep
  · rw [up_n (by omega)]; exact e_slide
  · intro j hj
    rw [up_n (by omega)] at hj
    rw [up_n (by omega)]
    exact e_heights j hj
  · intro j hj
    rw [up_n (by omega)]
    exact e_ladders j hj
  · intro j hj
    by_cases hji : j = i
    · subst hji; rw [up_s, up_s]
    · rw [up_n hji, up_n (by omega)]
      exact e_minutes j hj
  · intro j hj
    rw [up_n (by omega)] at hj
    rw [up_n (by omega), up_n (by omega)]
    exact e_echo j hj
  · intro j hj
    rw [up_n (by omega)] at hj
    rw [up_n (by omega), up_n (by omega)]
    exact e_home j hj
  · intro j hj
    rw [up_n (by omega)]
    exact e_known j hj
theorem LDR_kno {huts singers villages dams echoes deep slide : Int32} {heights ladders minutes echoFrom echoTo homes talls known td : Nat → Int32} {i : Nat} (v : Int32) (hi : i < 6) (h : LDR huts singers villages dams echoes deep slide heights ladders minutes echoFrom echoTo homes talls known td) (b0 : (td 0).toNatClampNeg ≤ 9) (b1 : (td 1).toNatClampNeg ≤ 6) (b4 : (td 4).toNatClampNeg ≤ 4) : LDR huts singers villages dams echoes deep slide heights ladders minutes echoFrom echoTo homes talls (upd known i v) (upd td (37 + i) v) := by
  obtain ⟨e_huts, e_singers, e_villages, e_dams, e_echoes, e_deep, e_slide, e_heights, e_ladders, e_minutes, e_echo, e_home, e_known⟩ := h
  refine ⟨?_, ?_, ?_, ?_, ?_, ?_, ?_, ?_, ?_, ?_, ?_, ?_, ?_⟩
  · rw [up_n (by omega)]; exact e_huts
  · rw [up_n (by omega)]; exact e_singers
  · rw [up_n (by omega)]; exact e_villages
  · rw [up_n (by omega)]; exact e_dams
  · rw [up_n (by omega)]; exact e_echoes
  · rw [up_n (by omega)]; exact e_deep
  · rw [up_n (by omega)]; exact e_slide
  · intro j hj
    rw [up_n (by omega)] at hj
    rw [up_n (by omega)]
    exact e_heights j hj
  · intro j hj
    rw [up_n (by omega)]
    exact e_ladders j hj
  · intro j hj
    rw [up_n (by omega)]
    exact e_minutes j hj
  · intro j hj
    rw [up_n (by omega)] at hj
    rw [up_n (by omega), up_n (by omega)]
    exact e_echo j hj
  · intro j hj
    rw [up_n (by omega)] at hj
    rw [up_n (by omega), up_n (by omega)]
    exact e_home j hj
  · intro j hj
    by_cases hji : j = i
    · subst hji; rw [up_s, up_s]
    · rw [up_n hji, up_n (by omega)]
      exact e_known j hj
theorem LDR_ech {huts singers villages dams echoes deep slide : Int32} {heights ladders minutes echoFrom echoTo homes talls known td : Nat → Int32} {k : Nat} (v w : Int32) (hk : td 4 = nI k) (hk9 : k < 4) (h : LDR huts singers villages dams echoes deep slide heights ladders minutes echoFrom echoTo homes talls known td) (b0 : (td 0).toNatClampNeg ≤ 9) (b1 : (td 1).toNatClampNeg ≤ 6) (b4 : (td 4).toNatClampNeg ≤ 4) : LDR huts singers villages dams (nI (k + 1)) deep slide heights ladders minutes (upd echoFrom k v) (upd echoTo k w) homes talls known (upd (upd (upd td 4 (nI (k + 1))) (43 + 2 * k) v) (44 + 2 * k) w) := by
  obtain ⟨e_huts, e_singers, e_villages, e_dams, e_echoes, e_deep, e_slide, e_heights, e_ladders, e_minutes, e_echo, e_home, e_known⟩ := h
  refine ⟨?_, ?_, ?_, ?_, ?_, ?_, ?_, ?_, ?_, ?_, ?_, ?_, ?_⟩
  · rw [up_n (by omega), up_n (by omega), up_n (by omega)]; exact e_huts
  · rw [up_n (by omega), up_n (by omega), up_n (by omega)]; exact e_singers
  · rw [up_n (by omega), up_n (by omega), up_n (by omega)]; exact e_villages
  · rw [up_n (by omega), up_n (by omega), up_n (by omega)]; exact e_dams
  · rw [up_n (by omega), up_n (by omega), up_s]
  · rw [up_n (by omega), up_n (by omega), up_n (by omega)]; exact e_deep
  · rw [up_n (by omega), up_n (by omega), up_n (by omega)]; exact e_slide
  · intro j hj
    rw [up_n (by omega), up_n (by omega), up_n (by omega)] at hj
    rw [up_n (by omega), up_n (by omega), up_n (by omega)]
    exact e_heights j hj
  · intro j hj
    rw [up_n (by omega), up_n (by omega), up_n (by omega)]
    exact e_ladders j hj
  · intro j hj
    rw [up_n (by omega), up_n (by omega), up_n (by omega)]
    exact e_minutes j hj
  · intro j hj
    rw [up_n (by omega), up_n (by omega), up_s, nI_clamp (by omega)] at hj
    by_cases hjk : j = k
    · subst hjk
      refine ⟨?_, ?_⟩
      · rw [up_s, up_n (by omega), up_s]
      · rw [up_s, up_s]
    · rw [up_n hjk, up_n hjk, up_n (by omega), up_n (by omega), up_n (by omega), up_n (by omega), up_n (by omega), up_n (by omega)]
      exact e_echo j (by rw [hk, nI_clamp (by omega)]; omega)
  · intro j hj
    rw [up_n (by omega), up_n (by omega), up_n (by omega)] at hj
    rw [up_n (by omega), up_n (by omega), up_n (by omega), up_n (by omega), up_n (by omega), up_n (by omega)]
    exact e_home j hj
  · intro j hj
    rw [up_n (by omega), up_n (by omega), up_n (by omega)]
    exact e_known j hj
theorem LDR_sin {huts singers villages dams echoes deep slide : Int32} {heights ladders minutes echoFrom echoTo homes talls known td : Nat → Int32} {k : Nat} (v w : Int32) (hk : td 1 = nI k) (hk9 : k < 6) (h : LDR huts singers villages dams echoes deep slide heights ladders minutes echoFrom echoTo homes talls known td) (b0 : (td 0).toNatClampNeg ≤ 9) (b1 : (td 1).toNatClampNeg ≤ 6) (b4 : (td 4).toNatClampNeg ≤ 4) : LDR huts (nI (k + 1)) villages dams echoes deep slide heights ladders minutes echoFrom echoTo (upd homes k v) (upd talls k w) known (upd (upd (upd td 1 (nI (k + 1))) (25 + k) v) (31 + k) w) := by
  obtain ⟨e_huts, e_singers, e_villages, e_dams, e_echoes, e_deep, e_slide, e_heights, e_ladders, e_minutes, e_echo, e_home, e_known⟩ := h
  refine ⟨?_, ?_, ?_, ?_, ?_, ?_, ?_, ?_, ?_, ?_, ?_, ?_, ?_⟩
  · rw [up_n (by omega), up_n (by omega), up_n (by omega)]; exact e_huts
  · rw [up_n (by omega), up_n (by omega), up_s]
  · rw [up_n (by omega), up_n (by omega), up_n (by omega)]; exact e_villages
  · rw [up_n (by omega), up_n (by omega), up_n (by omega)]; exact e_dams
  · rw [up_n (by omega), up_n (by omega), up_n (by omega)]; exact e_echoes
  · rw [up_n (by omega), up_n (by omega), up_n (by omega)]; exact e_deep
  · rw [up_n (by omega), up_n (by omega), up_n (by omega)]; exact e_slide
  · intro j hj
    rw [up_n (by omega), up_n (by omega), up_n (by omega)] at hj
    rw [up_n (by omega), up_n (by omega), up_n (by omega)]
    exact e_heights j hj
  · intro j hj
    rw [up_n (by omega), up_n (by omega), up_n (by omega)]
    exact e_ladders j hj
  · intro j hj
    rw [up_n (by omega), up_n (by omega), up_n (by omega)]
    exact e_minutes j hj
  · intro j hj
    rw [up_n (by omega), up_n (by omega), up_n (by omega)] at hj
    rw [up_n (by omega), up_n (by omega), up_n (by omega), up_n (by omega), up_n (by omega), up_n (by omega)]
    exact e_echo j hj
  · intro j hj
    rw [up_n (by omega), up_n (by omega), up_s, nI_clamp (by omega)] at hj
    by_cases hjk : j = k
    · subst hjk
      refine ⟨?_, ?_⟩
      · rw [up_s, up_n (by omega), up_s]
      · rw [up_s, up_s]
    · rw [up_n hjk, up_n hjk, up_n (by omega), up_n (by omega), up_n (by omega), up_n (by omega), up_n (by omega), up_n (by omega)]
      exact e_home j (by rw [hk, nI_clamp (by omega)]; omega)
  · intro j hj
    rw [up_n (by omega), up_n (by omega), up_n (by omega)]
    exact e_known j hj
theorem R3_add {c : Int32} {a b d td : Nat → Int32} {k : Nat} (x y z : Int32) (h : R3 c a b d td) (hk : td 0 = nI k) (hk9 : k < 41) : R3 (nI (k + 1)) (upd a k x) (upd b k y) (upd d k z) (upd (upd (upd (upd td 0 (nI (k + 1))) (1 + 3 * k) x) (2 + 3 * k) y) (3 + 3 * k) z) := by
  refine ⟨by rw [up_n (by omega), up_n (by omega), up_n (by omega), up_s], fun j hj => ?_⟩
  rw [up_n (by omega), up_n (by omega), up_n (by omega), up_s, nI_clamp (by omega)] at hj
  by_cases hjk : j = k
  · subst hjk
    refine ⟨?_, ?_, ?_⟩
    · rw [up_s, up_n (by omega), up_n (by omega), up_s]
    · rw [up_s, up_n (by omega), up_s]
    · rw [up_s, up_s]
  · rw [up_n hjk, up_n hjk, up_n hjk]
    have g := h.2 j (by rw [hk, nI_clamp (by omega)]; omega)
    refine ⟨?_, ?_, ?_⟩
    · rw [up_n (by omega), up_n (by omega), up_n (by omega), up_n (by omega)]; exact g.1
    · rw [up_n (by omega), up_n (by omega), up_n (by omega), up_n (by omega)]; exact g.2.1
    · rw [up_n (by omega), up_n (by omega), up_n (by omega), up_n (by omega)]; exact g.2.2
theorem CDR_add {c st : Int32} {a b td : Nat → Int32} {k : Nat} (x y : Int32) (h : CDR c st a b td) (hk : td 0 = nI k) (hk9 : k < 9) : CDR (nI (k + 1)) st (upd a k x) (upd b k y) (upd (upd (upd td 0 (nI (k + 1))) (1 + 2 * k) x) (2 + 2 * k) y) := by
  refine ⟨by rw [up_n (by omega), up_n (by omega), up_s], by rw [up_n (by omega), up_n (by omega), up_n (by omega)]; exact h.2.1, fun j hj => ?_⟩
  rw [up_n (by omega), up_n (by omega), up_s, nI_clamp (by omega)] at hj
  by_cases hjk : j = k
  · subst hjk
    refine ⟨?_, ?_⟩
    · rw [up_s, up_n (by omega), up_s]
    · rw [up_s, up_s]
  · rw [up_n hjk, up_n hjk]
    have g := h.2.2 j (by rw [hk, nI_clamp (by omega)]; omega)
    refine ⟨?_, ?_⟩
    · rw [up_n (by omega), up_n (by omega), up_n (by omega)]; exact g.1
    · rw [up_n (by omega), up_n (by omega), up_n (by omega)]; exact g.2
theorem CDR_step {c st : Int32} {a b td : Nat → Int32} (x : Int32) (h : CDR c st a b td) (b0 : (td 0).toNatClampNeg ≤ 9) : CDR c x a b (upd td 19 x) := by
  refine ⟨by rw [up_n (by omega)]; exact h.1, by rw [up_s], fun j hj => ?_⟩
  rw [up_n (by omega)] at hj
  rw [up_n (by omega), up_n (by omega)]
  exact h.2.2 j hj
theorem cW_iv {w k : Nat} {a v : Int32} (h : cW w k a v = true) : iv (tbf_2 (w * 3 + k)).toInt (tbf_3 (w * 3 + k)).toInt v := by
  have g := of_decide_eq_true h
  exact ⟨r_le g.1, r_le g.2.1⟩
theorem ix9 (a b : Nat) : ((51 : Int32) + 9 * nI a) + nI b = nI (51 + 9 * a + b) := by
  rw [show (51 : Int32) = nI 51 from rfl, show (9 : Int32) = nI 9 from rfl, pk_mul, nI_add, nI_add]
theorem jx9 (a b : Nat) : (nI a * 9) + nI b = nI (a * 9 + b) := by
  rw [show (9 : Int32) = nI 9 from rfl, pk_mul, nI_add]
theorem jx (c k : Nat) : nI c + nI k = nI (c + k) := nI_add c k
theorem jx2 (c m k i : Nat) : (nI c + nI m * nI k) + nI i = nI (c + m * k + i) := by
  rw [pk_mul, nI_add, nI_add]
set_option maxRecDepth 20000 in
theorem e_tell_0 {lf_huts lf_singers lf_villages lf_dams lf_echoes lf_deep lf_slide vf_deeds sf_facts cf_voices cf_step : Int32} {la_heights la_ladders la_minutes la_echoFrom la_echoTo la_homes la_talls la_known va_kinds va_firsts va_seconds sa_heard sa_huts sa_minutes ca_parts ca_heights : Nat → Int32} {nums td : Nat → Int32} {h s fh fs a b c : Int32} {post : (Int32) → (Int32) → (Int32) → (Int32) → (Int32) → (Int32) → (Int32) → (Nat → Int32) → (Nat → Int32) → (Nat → Int32) → (Nat → Int32) → (Nat → Int32) → (Nat → Int32) → (Nat → Int32) → (Nat → Int32) → (Int32) → (Nat → Int32) → (Nat → Int32) → (Nat → Int32) → (Int32) → (Nat → Int32) → (Nat → Int32) → (Nat → Int32) → (Int32) → (Int32) → (Nat → Int32) → (Nat → Int32) → Int32 → Int32 → Prop} (hC : CB 0 td) (hf : fu 0 td = false) (n0 : nums 0 = a) (c0 : cW 0 0 a a = true) (hD : DR 0 lf_huts lf_singers lf_villages lf_dams lf_echoes lf_deep lf_slide la_heights la_ladders la_minutes la_echoFrom la_echoTo la_homes la_talls la_known vf_deeds va_kinds va_firsts va_seconds sf_facts sa_heard sa_huts sa_minutes cf_voices cf_step ca_parts ca_heights h s td fh fs) (hpo : ∀ (lf_huts' : Int32) (lf_singers' : Int32) (lf_villages' : Int32) (lf_dams' : Int32) (lf_echoes' : Int32) (lf_deep' : Int32) (lf_slide' : Int32) (la_heights' : Nat → Int32) (la_ladders' : Nat → Int32) (la_minutes' : Nat → Int32) (la_echoFrom' : Nat → Int32) (la_echoTo' : Nat → Int32) (la_homes' : Nat → Int32) (la_talls' : Nat → Int32) (la_known' : Nat → Int32) (vf_deeds' : Int32) (va_kinds' : Nat → Int32) (va_firsts' : Nat → Int32) (va_seconds' : Nat → Int32) (sf_facts' : Int32) (sa_heard' : Nat → Int32) (sa_huts' : Nat → Int32) (sa_minutes' : Nat → Int32) (cf_voices' : Int32) (cf_step' : Int32) (ca_parts' : Nat → Int32) (ca_heights' : Nat → Int32) (h' s' : Int32), DR 0 lf_huts' lf_singers' lf_villages' lf_dams' lf_echoes' lf_deep' lf_slide' la_heights' la_ladders' la_minutes' la_echoFrom' la_echoTo' la_homes' la_talls' la_known' vf_deeds' va_kinds' va_firsts' va_seconds' sf_facts' sa_heard' sa_huts' sa_minutes' cf_voices' cf_step' ca_parts' ca_heights' h' s' (lD 0 true a b c td) (lH 0 a b fh) (lS 0 a fs) → post lf_huts' lf_singers' lf_villages' lf_dams' lf_echoes' lf_deep' lf_slide' la_heights' la_ladders' la_minutes' la_echoFrom' la_echoTo' la_homes' la_talls' la_known' vf_deeds' va_kinds' va_firsts' va_seconds' sf_facts' sa_heard' sa_huts' sa_minutes' cf_voices' cf_step' ca_parts' ca_heights' h' s') : q_wr_X4_tell_0 lf_huts lf_singers lf_villages lf_dams lf_echoes lf_deep lf_slide la_heights la_ladders la_minutes la_echoFrom la_echoTo la_homes la_talls la_known vf_deeds va_kinds va_firsts va_seconds sf_facts sa_heard sa_huts sa_minutes cf_voices cf_step ca_parts ca_heights nums h s (nI 0) post := by
  have ha : iv 0 99 a := iv_w (cW_iv c0) (by decide +kernel)
  obtain ⟨b0, b1, b4⟩ := CB_n hC
  obtain ⟨hL, hh, hs⟩ := hD.1 rfl
  refine ⟨fun h9 => absurd h9 (by decide +kernel), fun _ => ?_⟩
  rw [c_0, c_1, c_2, n0]
  refine ⟨fun h9 => absurd h9 (by decide +kernel), fun _ => ?_, fun h9 => absurd h9 (by decide +kernel), fun h9 => absurd h9 (by decide +kernel), fun h9 => absurd h9 (by decide +kernel), fun h9 => absurd h9 (by decide +kernel), fun h9 => absurd h9 (by decide +kernel), fun h9 => absurd h9 (by decide +kernel), fun h9 => absurd h9 (by decide +kernel), fun h9 => absurd h9 (by decide +kernel)⟩
  obtain ⟨k, hk, -, hk9, -⟩ := iv_nI hC.1 (by decide)
  have hne : ¬ td 0 = 9 := fun h9 => by
    have := of_decide_eq_false hf
    exact this (by simp [h9])
  have hk8 : k < 9 := Nat.lt_of_le_of_ne (by omega) (fun h9 => hne (by rw [hk, h9]; rfl))
  have e0 : lf_huts = nI k := hL.1.trans hk
  refine ⟨by rw [e0]; exact vp_in_nI hk8 (by omega), fun t1 e1 v e2 => ?_⟩
  rw [e0, nI_clamp (by omega)] at e1
  rw [e0, nI_1] at e2
  subst e1 e2
  refine hpo _ _ _ _ _ _ _ _ _ _ _ _ _ _ _ _ _ _ _ _ _ _ _ _ _ _ _ _ _ ?_
  have e : lD 0 true a b c td = upd (upd td 0 (nI (k + 1))) (7 + k) a := by
    show (if td 0 = 9 then td else upd (upd td 0 (td 0 + 1)) (Int32.toNatClampNeg (7 + td 0)) a) = _
    rw [if_neg hne, hk, nI_1, show (7 : Int32) = nI 7 from rfl, nI_add, nI_clamp (by omega)]
  rw [e]
  exact DR0 (LDR_hut a hk hk8 hL b0 b1 b4) hh hs
set_option maxRecDepth 20000 in
theorem e_tell_1 {lf_huts lf_singers lf_villages lf_dams lf_echoes lf_deep lf_slide vf_deeds sf_facts cf_voices cf_step : Int32} {la_heights la_ladders la_minutes la_echoFrom la_echoTo la_homes la_talls la_known va_kinds va_firsts va_seconds sa_heard sa_huts sa_minutes ca_parts ca_heights : Nat → Int32} {nums td : Nat → Int32} {h s fh fs a b c : Int32} {post : (Int32) → (Int32) → (Int32) → (Int32) → (Int32) → (Int32) → (Int32) → (Nat → Int32) → (Nat → Int32) → (Nat → Int32) → (Nat → Int32) → (Nat → Int32) → (Nat → Int32) → (Nat → Int32) → (Nat → Int32) → (Int32) → (Nat → Int32) → (Nat → Int32) → (Nat → Int32) → (Int32) → (Nat → Int32) → (Nat → Int32) → (Nat → Int32) → (Int32) → (Int32) → (Nat → Int32) → (Nat → Int32) → Int32 → Int32 → Prop} (hC : CB 0 td) (hf : fu 1 td = false) (n0 : nums 0 = a) (c0 : cW 1 0 a a = true) (hD : DR 0 lf_huts lf_singers lf_villages lf_dams lf_echoes lf_deep lf_slide la_heights la_ladders la_minutes la_echoFrom la_echoTo la_homes la_talls la_known vf_deeds va_kinds va_firsts va_seconds sf_facts sa_heard sa_huts sa_minutes cf_voices cf_step ca_parts ca_heights h s td fh fs) (hpo : ∀ (lf_huts' : Int32) (lf_singers' : Int32) (lf_villages' : Int32) (lf_dams' : Int32) (lf_echoes' : Int32) (lf_deep' : Int32) (lf_slide' : Int32) (la_heights' : Nat → Int32) (la_ladders' : Nat → Int32) (la_minutes' : Nat → Int32) (la_echoFrom' : Nat → Int32) (la_echoTo' : Nat → Int32) (la_homes' : Nat → Int32) (la_talls' : Nat → Int32) (la_known' : Nat → Int32) (vf_deeds' : Int32) (va_kinds' : Nat → Int32) (va_firsts' : Nat → Int32) (va_seconds' : Nat → Int32) (sf_facts' : Int32) (sa_heard' : Nat → Int32) (sa_huts' : Nat → Int32) (sa_minutes' : Nat → Int32) (cf_voices' : Int32) (cf_step' : Int32) (ca_parts' : Nat → Int32) (ca_heights' : Nat → Int32) (h' s' : Int32), DR 0 lf_huts' lf_singers' lf_villages' lf_dams' lf_echoes' lf_deep' lf_slide' la_heights' la_ladders' la_minutes' la_echoFrom' la_echoTo' la_homes' la_talls' la_known' vf_deeds' va_kinds' va_firsts' va_seconds' sf_facts' sa_heard' sa_huts' sa_minutes' cf_voices' cf_step' ca_parts' ca_heights' h' s' (lD 1 true a b c td) (lH 1 a b fh) (lS 1 a fs) → post lf_huts' lf_singers' lf_villages' lf_dams' lf_echoes' lf_deep' lf_slide' la_heights' la_ladders' la_minutes' la_echoFrom' la_echoTo' la_homes' la_talls' la_known' vf_deeds' va_kinds' va_firsts' va_seconds' sf_facts' sa_heard' sa_huts' sa_minutes' cf_voices' cf_step' ca_parts' ca_heights' h' s') : q_wr_X4_tell_0 lf_huts lf_singers lf_villages lf_dams lf_echoes lf_deep lf_slide la_heights la_ladders la_minutes la_echoFrom la_echoTo la_homes la_talls la_known vf_deeds va_kinds va_firsts va_seconds sf_facts sa_heard sa_huts sa_minutes cf_voices cf_step ca_parts ca_heights nums h s (nI 1) post := by
  have ha : iv 0 8 a := iv_w (cW_iv c0) (by decide +kernel)
  obtain ⟨b0, b1, b4⟩ := CB_n hC
  obtain ⟨hL, hh, hs⟩ := hD.1 rfl
  refine ⟨fun h9 => absurd h9 (by decide +kernel), fun _ => ?_⟩
  rw [c_0, c_1, c_2, n0]
  refine ⟨fun h9 => absurd h9 (by decide +kernel), fun h9 => absurd h9 (by decide +kernel), fun _ => ?_, fun h9 => absurd h9 (by decide +kernel), fun h9 => absurd h9 (by decide +kernel), fun h9 => absurd h9 (by decide +kernel), fun h9 => absurd h9 (by decide +kernel), fun h9 => absurd h9 (by decide +kernel), fun h9 => absurd h9 (by decide +kernel), fun h9 => absurd h9 (by decide +kernel)⟩
  intro v e1 v2 e2
  subst e1 e2
  refine hpo _ _ _ _ _ _ _ _ _ _ _ _ _ _ _ _ _ _ _ _ _ _ _ _ _ _ _ _ _ ?_
  rw [hL.2.2.1]
  exact DR0 (LDR_villages _ hL b0 b1 b4) (HB_or hh ha) hs
set_option maxRecDepth 20000 in
theorem e_tell_2 {lf_huts lf_singers lf_villages lf_dams lf_echoes lf_deep lf_slide vf_deeds sf_facts cf_voices cf_step : Int32} {la_heights la_ladders la_minutes la_echoFrom la_echoTo la_homes la_talls la_known va_kinds va_firsts va_seconds sa_heard sa_huts sa_minutes ca_parts ca_heights : Nat → Int32} {nums td : Nat → Int32} {h s fh fs a b c : Int32} {post : (Int32) → (Int32) → (Int32) → (Int32) → (Int32) → (Int32) → (Int32) → (Nat → Int32) → (Nat → Int32) → (Nat → Int32) → (Nat → Int32) → (Nat → Int32) → (Nat → Int32) → (Nat → Int32) → (Nat → Int32) → (Int32) → (Nat → Int32) → (Nat → Int32) → (Nat → Int32) → (Int32) → (Nat → Int32) → (Nat → Int32) → (Nat → Int32) → (Int32) → (Int32) → (Nat → Int32) → (Nat → Int32) → Int32 → Int32 → Prop} (hC : CB 0 td) (hf : fu 2 td = false) (n0 : nums 0 = a) (c0 : cW 2 0 a a = true) (hD : DR 0 lf_huts lf_singers lf_villages lf_dams lf_echoes lf_deep lf_slide la_heights la_ladders la_minutes la_echoFrom la_echoTo la_homes la_talls la_known vf_deeds va_kinds va_firsts va_seconds sf_facts sa_heard sa_huts sa_minutes cf_voices cf_step ca_parts ca_heights h s td fh fs) (hpo : ∀ (lf_huts' : Int32) (lf_singers' : Int32) (lf_villages' : Int32) (lf_dams' : Int32) (lf_echoes' : Int32) (lf_deep' : Int32) (lf_slide' : Int32) (la_heights' : Nat → Int32) (la_ladders' : Nat → Int32) (la_minutes' : Nat → Int32) (la_echoFrom' : Nat → Int32) (la_echoTo' : Nat → Int32) (la_homes' : Nat → Int32) (la_talls' : Nat → Int32) (la_known' : Nat → Int32) (vf_deeds' : Int32) (va_kinds' : Nat → Int32) (va_firsts' : Nat → Int32) (va_seconds' : Nat → Int32) (sf_facts' : Int32) (sa_heard' : Nat → Int32) (sa_huts' : Nat → Int32) (sa_minutes' : Nat → Int32) (cf_voices' : Int32) (cf_step' : Int32) (ca_parts' : Nat → Int32) (ca_heights' : Nat → Int32) (h' s' : Int32), DR 0 lf_huts' lf_singers' lf_villages' lf_dams' lf_echoes' lf_deep' lf_slide' la_heights' la_ladders' la_minutes' la_echoFrom' la_echoTo' la_homes' la_talls' la_known' vf_deeds' va_kinds' va_firsts' va_seconds' sf_facts' sa_heard' sa_huts' sa_minutes' cf_voices' cf_step' ca_parts' ca_heights' h' s' (lD 2 true a b c td) (lH 2 a b fh) (lS 2 a fs) → post lf_huts' lf_singers' lf_villages' lf_dams' lf_echoes' lf_deep' lf_slide' la_heights' la_ladders' la_minutes' la_echoFrom' la_echoTo' la_homes' la_talls' la_known' vf_deeds' va_kinds' va_firsts' va_seconds' sf_facts' sa_heard' sa_huts' sa_minutes' cf_voices' cf_step' ca_parts' ca_heights' h' s') : q_wr_X4_tell_0 lf_huts lf_singers lf_villages lf_dams lf_echoes lf_deep lf_slide la_heights la_ladders la_minutes la_echoFrom la_echoTo la_homes la_talls la_known vf_deeds va_kinds va_firsts va_seconds sf_facts sa_heard sa_huts sa_minutes cf_voices cf_step ca_parts ca_heights nums h s (nI 2) post := by
  have ha : iv 0 8 a := iv_w (cW_iv c0) (by decide +kernel)
  obtain ⟨b0, b1, b4⟩ := CB_n hC
  obtain ⟨hL, hh, hs⟩ := hD.1 rfl
  refine ⟨fun h9 => absurd h9 (by decide +kernel), fun _ => ?_⟩
  rw [c_0, c_1, c_2, n0]
  refine ⟨fun h9 => absurd h9 (by decide +kernel), fun h9 => absurd h9 (by decide +kernel), fun h9 => absurd h9 (by decide +kernel), fun _ => ?_, fun h9 => absurd h9 (by decide +kernel), fun h9 => absurd h9 (by decide +kernel), fun h9 => absurd h9 (by decide +kernel), fun h9 => absurd h9 (by decide +kernel), fun h9 => absurd h9 (by decide +kernel), fun h9 => absurd h9 (by decide +kernel)⟩
  intro v e1 v2 e2
  subst e1 e2
  refine hpo _ _ _ _ _ _ _ _ _ _ _ _ _ _ _ _ _ _ _ _ _ _ _ _ _ _ _ _ _ ?_
  rw [hL.2.2.2.1]
  exact DR0 (LDR_dams _ hL b0 b1 b4) (HB_or hh ha) hs
set_option maxRecDepth 20000 in
theorem e_tell_3 {lf_huts lf_singers lf_villages lf_dams lf_echoes lf_deep lf_slide vf_deeds sf_facts cf_voices cf_step : Int32} {la_heights la_ladders la_minutes la_echoFrom la_echoTo la_homes la_talls la_known va_kinds va_firsts va_seconds sa_heard sa_huts sa_minutes ca_parts ca_heights : Nat → Int32} {nums td : Nat → Int32} {h s fh fs a b c : Int32} {post : (Int32) → (Int32) → (Int32) → (Int32) → (Int32) → (Int32) → (Int32) → (Nat → Int32) → (Nat → Int32) → (Nat → Int32) → (Nat → Int32) → (Nat → Int32) → (Nat → Int32) → (Nat → Int32) → (Nat → Int32) → (Int32) → (Nat → Int32) → (Nat → Int32) → (Nat → Int32) → (Int32) → (Nat → Int32) → (Nat → Int32) → (Nat → Int32) → (Int32) → (Int32) → (Nat → Int32) → (Nat → Int32) → Int32 → Int32 → Prop} (hC : CB 0 td) (hf : fu 3 td = false) (n0 : nums 0 = a) (c0 : cW 3 0 a a = true) (hD : DR 0 lf_huts lf_singers lf_villages lf_dams lf_echoes lf_deep lf_slide la_heights la_ladders la_minutes la_echoFrom la_echoTo la_homes la_talls la_known vf_deeds va_kinds va_firsts va_seconds sf_facts sa_heard sa_huts sa_minutes cf_voices cf_step ca_parts ca_heights h s td fh fs) (hpo : ∀ (lf_huts' : Int32) (lf_singers' : Int32) (lf_villages' : Int32) (lf_dams' : Int32) (lf_echoes' : Int32) (lf_deep' : Int32) (lf_slide' : Int32) (la_heights' : Nat → Int32) (la_ladders' : Nat → Int32) (la_minutes' : Nat → Int32) (la_echoFrom' : Nat → Int32) (la_echoTo' : Nat → Int32) (la_homes' : Nat → Int32) (la_talls' : Nat → Int32) (la_known' : Nat → Int32) (vf_deeds' : Int32) (va_kinds' : Nat → Int32) (va_firsts' : Nat → Int32) (va_seconds' : Nat → Int32) (sf_facts' : Int32) (sa_heard' : Nat → Int32) (sa_huts' : Nat → Int32) (sa_minutes' : Nat → Int32) (cf_voices' : Int32) (cf_step' : Int32) (ca_parts' : Nat → Int32) (ca_heights' : Nat → Int32) (h' s' : Int32), DR 0 lf_huts' lf_singers' lf_villages' lf_dams' lf_echoes' lf_deep' lf_slide' la_heights' la_ladders' la_minutes' la_echoFrom' la_echoTo' la_homes' la_talls' la_known' vf_deeds' va_kinds' va_firsts' va_seconds' sf_facts' sa_heard' sa_huts' sa_minutes' cf_voices' cf_step' ca_parts' ca_heights' h' s' (lD 3 true a b c td) (lH 3 a b fh) (lS 3 a fs) → post lf_huts' lf_singers' lf_villages' lf_dams' lf_echoes' lf_deep' lf_slide' la_heights' la_ladders' la_minutes' la_echoFrom' la_echoTo' la_homes' la_talls' la_known' vf_deeds' va_kinds' va_firsts' va_seconds' sf_facts' sa_heard' sa_huts' sa_minutes' cf_voices' cf_step' ca_parts' ca_heights' h' s') : q_wr_X4_tell_0 lf_huts lf_singers lf_villages lf_dams lf_echoes lf_deep lf_slide la_heights la_ladders la_minutes la_echoFrom la_echoTo la_homes la_talls la_known vf_deeds va_kinds va_firsts va_seconds sf_facts sa_heard sa_huts sa_minutes cf_voices cf_step ca_parts ca_heights nums h s (nI 3) post := by
  have ha : iv 1 9 a := iv_w (cW_iv c0) (by decide +kernel)
  obtain ⟨b0, b1, b4⟩ := CB_n hC
  obtain ⟨hL, hh, hs⟩ := hD.1 rfl
  refine ⟨fun h9 => absurd h9 (by decide +kernel), fun _ => ?_⟩
  rw [c_0, c_1, c_2, n0]
  refine ⟨fun h9 => absurd h9 (by decide +kernel), fun h9 => absurd h9 (by decide +kernel), fun h9 => absurd h9 (by decide +kernel), fun h9 => absurd h9 (by decide +kernel), fun _ => ?_, fun h9 => absurd h9 (by decide +kernel), fun h9 => absurd h9 (by decide +kernel), fun h9 => absurd h9 (by decide +kernel), fun h9 => absurd h9 (by decide +kernel), fun h9 => absurd h9 (by decide +kernel)⟩
  refine hpo _ _ _ _ _ _ _ _ _ _ _ _ _ _ _ _ _ _ _ _ _ _ _ _ _ _ _ _ _ ?_
  exact DR0 (LDR_deep a hL b0 b1 b4) hh hs
set_option maxRecDepth 20000 in
theorem e_tell_4 {lf_huts lf_singers lf_villages lf_dams lf_echoes lf_deep lf_slide vf_deeds sf_facts cf_voices cf_step : Int32} {la_heights la_ladders la_minutes la_echoFrom la_echoTo la_homes la_talls la_known va_kinds va_firsts va_seconds sa_heard sa_huts sa_minutes ca_parts ca_heights : Nat → Int32} {nums td : Nat → Int32} {h s fh fs a b c : Int32} {post : (Int32) → (Int32) → (Int32) → (Int32) → (Int32) → (Int32) → (Int32) → (Nat → Int32) → (Nat → Int32) → (Nat → Int32) → (Nat → Int32) → (Nat → Int32) → (Nat → Int32) → (Nat → Int32) → (Nat → Int32) → (Int32) → (Nat → Int32) → (Nat → Int32) → (Nat → Int32) → (Int32) → (Nat → Int32) → (Nat → Int32) → (Nat → Int32) → (Int32) → (Int32) → (Nat → Int32) → (Nat → Int32) → Int32 → Int32 → Prop} (hC : CB 0 td) (hf : fu 4 td = false) (n0 : nums 0 = a) (c0 : cW 4 0 a a = true) (hD : DR 0 lf_huts lf_singers lf_villages lf_dams lf_echoes lf_deep lf_slide la_heights la_ladders la_minutes la_echoFrom la_echoTo la_homes la_talls la_known vf_deeds va_kinds va_firsts va_seconds sf_facts sa_heard sa_huts sa_minutes cf_voices cf_step ca_parts ca_heights h s td fh fs) (hpo : ∀ (lf_huts' : Int32) (lf_singers' : Int32) (lf_villages' : Int32) (lf_dams' : Int32) (lf_echoes' : Int32) (lf_deep' : Int32) (lf_slide' : Int32) (la_heights' : Nat → Int32) (la_ladders' : Nat → Int32) (la_minutes' : Nat → Int32) (la_echoFrom' : Nat → Int32) (la_echoTo' : Nat → Int32) (la_homes' : Nat → Int32) (la_talls' : Nat → Int32) (la_known' : Nat → Int32) (vf_deeds' : Int32) (va_kinds' : Nat → Int32) (va_firsts' : Nat → Int32) (va_seconds' : Nat → Int32) (sf_facts' : Int32) (sa_heard' : Nat → Int32) (sa_huts' : Nat → Int32) (sa_minutes' : Nat → Int32) (cf_voices' : Int32) (cf_step' : Int32) (ca_parts' : Nat → Int32) (ca_heights' : Nat → Int32) (h' s' : Int32), DR 0 lf_huts' lf_singers' lf_villages' lf_dams' lf_echoes' lf_deep' lf_slide' la_heights' la_ladders' la_minutes' la_echoFrom' la_echoTo' la_homes' la_talls' la_known' vf_deeds' va_kinds' va_firsts' va_seconds' sf_facts' sa_heard' sa_huts' sa_minutes' cf_voices' cf_step' ca_parts' ca_heights' h' s' (lD 4 true a b c td) (lH 4 a b fh) (lS 4 a fs) → post lf_huts' lf_singers' lf_villages' lf_dams' lf_echoes' lf_deep' lf_slide' la_heights' la_ladders' la_minutes' la_echoFrom' la_echoTo' la_homes' la_talls' la_known' vf_deeds' va_kinds' va_firsts' va_seconds' sf_facts' sa_heard' sa_huts' sa_minutes' cf_voices' cf_step' ca_parts' ca_heights' h' s') : q_wr_X4_tell_0 lf_huts lf_singers lf_villages lf_dams lf_echoes lf_deep lf_slide la_heights la_ladders la_minutes la_echoFrom la_echoTo la_homes la_talls la_known vf_deeds va_kinds va_firsts va_seconds sf_facts sa_heard sa_huts sa_minutes cf_voices cf_step ca_parts ca_heights nums h s (nI 4) post := by
  have ha : iv 0 10 a := iv_w (cW_iv c0) (by decide +kernel)
  obtain ⟨b0, b1, b4⟩ := CB_n hC
  obtain ⟨hL, hh, hs⟩ := hD.1 rfl
  refine ⟨fun h9 => absurd h9 (by decide +kernel), fun _ => ?_⟩
  rw [c_0, c_1, c_2, n0]
  refine ⟨fun h9 => absurd h9 (by decide +kernel), fun h9 => absurd h9 (by decide +kernel), fun h9 => absurd h9 (by decide +kernel), fun h9 => absurd h9 (by decide +kernel), fun h9 => absurd h9 (by decide +kernel), fun _ => ?_, fun h9 => absurd h9 (by decide +kernel), fun h9 => absurd h9 (by decide +kernel), fun h9 => absurd h9 (by decide +kernel), fun h9 => absurd h9 (by decide +kernel)⟩
  refine hpo _ _ _ _ _ _ _ _ _ _ _ _ _ _ _ _ _ _ _ _ _ _ _ _ _ _ _ _ _ ?_
  exact DR0 (LDR_slide a hL b0 b1 b4) hh hs
set_option maxRecDepth 20000 in
theorem e_tell_5 {lf_huts lf_singers lf_villages lf_dams lf_echoes lf_deep lf_slide vf_deeds sf_facts cf_voices cf_step : Int32} {la_heights la_ladders la_minutes la_echoFrom la_echoTo la_homes la_talls la_known va_kinds va_firsts va_seconds sa_heard sa_huts sa_minutes ca_parts ca_heights : Nat → Int32} {nums td : Nat → Int32} {h s fh fs a b c : Int32} {post : (Int32) → (Int32) → (Int32) → (Int32) → (Int32) → (Int32) → (Int32) → (Nat → Int32) → (Nat → Int32) → (Nat → Int32) → (Nat → Int32) → (Nat → Int32) → (Nat → Int32) → (Nat → Int32) → (Nat → Int32) → (Int32) → (Nat → Int32) → (Nat → Int32) → (Nat → Int32) → (Int32) → (Nat → Int32) → (Nat → Int32) → (Nat → Int32) → (Int32) → (Int32) → (Nat → Int32) → (Nat → Int32) → Int32 → Int32 → Prop} (hC : CB 0 td) (hf : fu 5 td = false) (n0 : nums 0 = a) (c0 : cW 5 0 a a = true) (n1 : nums 1 = b) (c1 : cW 5 1 a b = true) (n2 : nums 2 = c) (c2 : cW 5 2 a c = true) (hD : DR 0 lf_huts lf_singers lf_villages lf_dams lf_echoes lf_deep lf_slide la_heights la_ladders la_minutes la_echoFrom la_echoTo la_homes la_talls la_known vf_deeds va_kinds va_firsts va_seconds sf_facts sa_heard sa_huts sa_minutes cf_voices cf_step ca_parts ca_heights h s td fh fs) (hpo : ∀ (lf_huts' : Int32) (lf_singers' : Int32) (lf_villages' : Int32) (lf_dams' : Int32) (lf_echoes' : Int32) (lf_deep' : Int32) (lf_slide' : Int32) (la_heights' : Nat → Int32) (la_ladders' : Nat → Int32) (la_minutes' : Nat → Int32) (la_echoFrom' : Nat → Int32) (la_echoTo' : Nat → Int32) (la_homes' : Nat → Int32) (la_talls' : Nat → Int32) (la_known' : Nat → Int32) (vf_deeds' : Int32) (va_kinds' : Nat → Int32) (va_firsts' : Nat → Int32) (va_seconds' : Nat → Int32) (sf_facts' : Int32) (sa_heard' : Nat → Int32) (sa_huts' : Nat → Int32) (sa_minutes' : Nat → Int32) (cf_voices' : Int32) (cf_step' : Int32) (ca_parts' : Nat → Int32) (ca_heights' : Nat → Int32) (h' s' : Int32), DR 0 lf_huts' lf_singers' lf_villages' lf_dams' lf_echoes' lf_deep' lf_slide' la_heights' la_ladders' la_minutes' la_echoFrom' la_echoTo' la_homes' la_talls' la_known' vf_deeds' va_kinds' va_firsts' va_seconds' sf_facts' sa_heard' sa_huts' sa_minutes' cf_voices' cf_step' ca_parts' ca_heights' h' s' (lD 5 true a b c td) (lH 5 a b fh) (lS 5 a fs) → post lf_huts' lf_singers' lf_villages' lf_dams' lf_echoes' lf_deep' lf_slide' la_heights' la_ladders' la_minutes' la_echoFrom' la_echoTo' la_homes' la_talls' la_known' vf_deeds' va_kinds' va_firsts' va_seconds' sf_facts' sa_heard' sa_huts' sa_minutes' cf_voices' cf_step' ca_parts' ca_heights' h' s') : q_wr_X4_tell_0 lf_huts lf_singers lf_villages lf_dams lf_echoes lf_deep lf_slide la_heights la_ladders la_minutes la_echoFrom la_echoTo la_homes la_talls la_known vf_deeds va_kinds va_firsts va_seconds sf_facts sa_heard sa_huts sa_minutes cf_voices cf_step ca_parts ca_heights nums h s (nI 5) post := by
  have ha : iv 0 8 a := iv_w (cW_iv c0) (by decide +kernel)
  have hb : iv 0 8 b := iv_w (cW_iv c1) (by decide +kernel)
  have hc : iv 1 9 c := iv_w (cW_iv c2) (by decide +kernel)
  obtain ⟨b0, b1, b4⟩ := CB_n hC
  obtain ⟨hL, hh, hs⟩ := hD.1 rfl
  refine ⟨fun h9 => absurd h9 (by decide +kernel), fun _ => ?_⟩
  rw [c_0, c_1, c_2, n0, n1, n2]
  refine ⟨fun h9 => absurd h9 (by decide +kernel), fun h9 => absurd h9 (by decide +kernel), fun h9 => absurd h9 (by decide +kernel), fun h9 => absurd h9 (by decide +kernel), fun h9 => absurd h9 (by decide +kernel), fun h9 => absurd h9 (by decide +kernel), fun _ => ?_, fun h9 => absurd h9 (by decide +kernel), fun h9 => absurd h9 (by decide +kernel), fun h9 => absurd h9 (by decide +kernel)⟩
  obtain ⟨p, ep, -, hp, -⟩ := iv_nI ha (by decide)
  obtain ⟨q, eq, -, hq, -⟩ := iv_nI hb (by decide)
  have i1 : a * 9 + b = nI (p * 9 + q) := by rw [ep, eq]; exact jx9 p q
  have i2 : b * 9 + a = nI (q * 9 + p) := by rw [ep, eq]; exact jx9 q p
  rw [i1, i2, nI_clamp (n := p * 9 + q) (by omega), nI_clamp (n := q * 9 + p) (by omega)]
  refine ⟨vp_in_nI (by omega) (by omega), fun t1 e1 => ⟨vp_in_nI (by omega) (by omega), fun t2 e2 v e3 => ?_⟩⟩
  subst e1 e2 e3
  refine hpo _ _ _ _ _ _ _ _ _ _ _ _ _ _ _ _ _ _ _ _ _ _ _ _ _ _ _ _ _ ?_
  have e : lD 5 true a b c td = upd (upd td (51 + (p * 9 + q)) c) (51 + (q * 9 + p)) c := by
    show upd (upd td (Int32.toNatClampNeg ((51 + 9 * a) + b)) c) (Int32.toNatClampNeg ((51 + 9 * b) + a)) c = _
    rw [ep, eq, ix9, ix9, nI_clamp (by omega), nI_clamp (by omega), show 51 + 9 * p + q = 51 + (p * 9 + q) by omega, show 51 + 9 * q + p = 51 + (q * 9 + p) by omega]
  rw [e]
  have g1 := LDR_way c (show p * 9 + q < 81 by omega) hL b0 b1 b4
  exact DR0 (LDR_way c (show q * 9 + p < 81 by omega) g1 (by rw [up_n (by omega)]; exact b0) (by rw [up_n (by omega)]; exact b1) (by rw [up_n (by omega)]; exact b4)) (HB_or2 hh ha hb) hs
set_option maxRecDepth 20000 in
theorem e_tell_6 {lf_huts lf_singers lf_villages lf_dams lf_echoes lf_deep lf_slide vf_deeds sf_facts cf_voices cf_step : Int32} {la_heights la_ladders la_minutes la_echoFrom la_echoTo la_homes la_talls la_known va_kinds va_firsts va_seconds sa_heard sa_huts sa_minutes ca_parts ca_heights : Nat → Int32} {nums td : Nat → Int32} {h s fh fs a b c : Int32} {post : (Int32) → (Int32) → (Int32) → (Int32) → (Int32) → (Int32) → (Int32) → (Nat → Int32) → (Nat → Int32) → (Nat → Int32) → (Nat → Int32) → (Nat → Int32) → (Nat → Int32) → (Nat → Int32) → (Nat → Int32) → (Int32) → (Nat → Int32) → (Nat → Int32) → (Nat → Int32) → (Int32) → (Nat → Int32) → (Nat → Int32) → (Nat → Int32) → (Int32) → (Int32) → (Nat → Int32) → (Nat → Int32) → Int32 → Int32 → Prop} (hC : CB 0 td) (hf : fu 6 td = false) (n0 : nums 0 = a) (c0 : cW 6 0 a a = true) (n1 : nums 1 = b) (c1 : cW 6 1 a b = true) (hD : DR 0 lf_huts lf_singers lf_villages lf_dams lf_echoes lf_deep lf_slide la_heights la_ladders la_minutes la_echoFrom la_echoTo la_homes la_talls la_known vf_deeds va_kinds va_firsts va_seconds sf_facts sa_heard sa_huts sa_minutes cf_voices cf_step ca_parts ca_heights h s td fh fs) (hpo : ∀ (lf_huts' : Int32) (lf_singers' : Int32) (lf_villages' : Int32) (lf_dams' : Int32) (lf_echoes' : Int32) (lf_deep' : Int32) (lf_slide' : Int32) (la_heights' : Nat → Int32) (la_ladders' : Nat → Int32) (la_minutes' : Nat → Int32) (la_echoFrom' : Nat → Int32) (la_echoTo' : Nat → Int32) (la_homes' : Nat → Int32) (la_talls' : Nat → Int32) (la_known' : Nat → Int32) (vf_deeds' : Int32) (va_kinds' : Nat → Int32) (va_firsts' : Nat → Int32) (va_seconds' : Nat → Int32) (sf_facts' : Int32) (sa_heard' : Nat → Int32) (sa_huts' : Nat → Int32) (sa_minutes' : Nat → Int32) (cf_voices' : Int32) (cf_step' : Int32) (ca_parts' : Nat → Int32) (ca_heights' : Nat → Int32) (h' s' : Int32), DR 0 lf_huts' lf_singers' lf_villages' lf_dams' lf_echoes' lf_deep' lf_slide' la_heights' la_ladders' la_minutes' la_echoFrom' la_echoTo' la_homes' la_talls' la_known' vf_deeds' va_kinds' va_firsts' va_seconds' sf_facts' sa_heard' sa_huts' sa_minutes' cf_voices' cf_step' ca_parts' ca_heights' h' s' (lD 6 true a b c td) (lH 6 a b fh) (lS 6 a fs) → post lf_huts' lf_singers' lf_villages' lf_dams' lf_echoes' lf_deep' lf_slide' la_heights' la_ladders' la_minutes' la_echoFrom' la_echoTo' la_homes' la_talls' la_known' vf_deeds' va_kinds' va_firsts' va_seconds' sf_facts' sa_heard' sa_huts' sa_minutes' cf_voices' cf_step' ca_parts' ca_heights' h' s') : q_wr_X4_tell_0 lf_huts lf_singers lf_villages lf_dams lf_echoes lf_deep lf_slide la_heights la_ladders la_minutes la_echoFrom la_echoTo la_homes la_talls la_known vf_deeds va_kinds va_firsts va_seconds sf_facts sa_heard sa_huts sa_minutes cf_voices cf_step ca_parts ca_heights nums h s (nI 6) post := by
  have ha : iv 0 8 a := iv_w (cW_iv c0) (by decide +kernel)
  have hb : iv 0 8 b := iv_w (cW_iv c1) (by decide +kernel)
  obtain ⟨b0, b1, b4⟩ := CB_n hC
  obtain ⟨hL, hh, hs⟩ := hD.1 rfl
  refine ⟨fun h9 => absurd h9 (by decide +kernel), fun _ => ?_⟩
  rw [c_0, c_1, c_2, n0, n1]
  refine ⟨fun h9 => absurd h9 (by decide +kernel), fun h9 => absurd h9 (by decide +kernel), fun h9 => absurd h9 (by decide +kernel), fun h9 => absurd h9 (by decide +kernel), fun h9 => absurd h9 (by decide +kernel), fun h9 => absurd h9 (by decide +kernel), fun h9 => absurd h9 (by decide +kernel), fun _ => ?_, fun h9 => absurd h9 (by decide +kernel), fun h9 => absurd h9 (by decide +kernel)⟩
  obtain ⟨k, hk, -, hk9, -⟩ := iv_nI (hC.2 rfl).2 (by decide)
  have hne : ¬ td 4 = 4 := fun h9 => by
    have := of_decide_eq_false hf
    exact this (by simp [h9])
  have hk8 : k < 4 := Nat.lt_of_le_of_ne (by omega) (fun h9 => hne (by rw [hk, h9]; rfl))
  have e0 : lf_echoes = nI k := hL.2.2.2.2.1.trans hk
  have hin : vp_in lf_echoes 4 := by rw [e0]; exact vp_in_nI hk8 (by omega)
  refine ⟨hin, fun t1 e1 => ⟨hin, fun t2 e2 v e3 v2 e4 => ?_⟩⟩
  rw [e0, nI_clamp (by omega)] at e1 e2
  rw [e0, nI_1] at e3
  subst e1 e2 e3 e4
  refine hpo _ _ _ _ _ _ _ _ _ _ _ _ _ _ _ _ _ _ _ _ _ _ _ _ _ _ _ _ _ ?_
  have e : lD 6 true a b c td = upd (upd (upd td 4 (nI (k + 1))) (43 + 2 * k) a) (44 + 2 * k) b := by
    show (if td 4 = 4 then td else upd (upd (upd td 4 (td 4 + 1)) (Int32.toNatClampNeg (43 + 2 * td 4)) a) (Int32.toNatClampNeg (43 + 2 * td 4 + 1)) b) = _
    rw [if_neg hne, hk, nI_1, show (43 : Int32) = nI 43 from rfl, show (2 : Int32) = nI 2 from rfl, pk_mul, nI_add, nI_1, nI_clamp (by omega), nI_clamp (by omega), show 43 + 2 * k + 1 = 44 + 2 * k by omega]
  rw [e]
  exact DR0 (LDR_ech a b hk hk8 hL b0 b1 b4) (HB_or2 hh ha hb) hs
set_option maxRecDepth 20000 in
theorem e_tell_7 {lf_huts lf_singers lf_villages lf_dams lf_echoes lf_deep lf_slide vf_deeds sf_facts cf_voices cf_step : Int32} {la_heights la_ladders la_minutes la_echoFrom la_echoTo la_homes la_talls la_known va_kinds va_firsts va_seconds sa_heard sa_huts sa_minutes ca_parts ca_heights : Nat → Int32} {nums td : Nat → Int32} {h s fh fs a b c : Int32} {post : (Int32) → (Int32) → (Int32) → (Int32) → (Int32) → (Int32) → (Int32) → (Nat → Int32) → (Nat → Int32) → (Nat → Int32) → (Nat → Int32) → (Nat → Int32) → (Nat → Int32) → (Nat → Int32) → (Nat → Int32) → (Int32) → (Nat → Int32) → (Nat → Int32) → (Nat → Int32) → (Int32) → (Nat → Int32) → (Nat → Int32) → (Nat → Int32) → (Int32) → (Int32) → (Nat → Int32) → (Nat → Int32) → Int32 → Int32 → Prop} (hC : CB 0 td) (hf : fu 7 td = false) (n0 : nums 0 = a) (c0 : cW 7 0 a a = true) (n1 : nums 1 = b) (c1 : cW 7 1 a b = true) (hD : DR 0 lf_huts lf_singers lf_villages lf_dams lf_echoes lf_deep lf_slide la_heights la_ladders la_minutes la_echoFrom la_echoTo la_homes la_talls la_known vf_deeds va_kinds va_firsts va_seconds sf_facts sa_heard sa_huts sa_minutes cf_voices cf_step ca_parts ca_heights h s td fh fs) (hpo : ∀ (lf_huts' : Int32) (lf_singers' : Int32) (lf_villages' : Int32) (lf_dams' : Int32) (lf_echoes' : Int32) (lf_deep' : Int32) (lf_slide' : Int32) (la_heights' : Nat → Int32) (la_ladders' : Nat → Int32) (la_minutes' : Nat → Int32) (la_echoFrom' : Nat → Int32) (la_echoTo' : Nat → Int32) (la_homes' : Nat → Int32) (la_talls' : Nat → Int32) (la_known' : Nat → Int32) (vf_deeds' : Int32) (va_kinds' : Nat → Int32) (va_firsts' : Nat → Int32) (va_seconds' : Nat → Int32) (sf_facts' : Int32) (sa_heard' : Nat → Int32) (sa_huts' : Nat → Int32) (sa_minutes' : Nat → Int32) (cf_voices' : Int32) (cf_step' : Int32) (ca_parts' : Nat → Int32) (ca_heights' : Nat → Int32) (h' s' : Int32), DR 0 lf_huts' lf_singers' lf_villages' lf_dams' lf_echoes' lf_deep' lf_slide' la_heights' la_ladders' la_minutes' la_echoFrom' la_echoTo' la_homes' la_talls' la_known' vf_deeds' va_kinds' va_firsts' va_seconds' sf_facts' sa_heard' sa_huts' sa_minutes' cf_voices' cf_step' ca_parts' ca_heights' h' s' (lD 7 true a b c td) (lH 7 a b fh) (lS 7 a fs) → post lf_huts' lf_singers' lf_villages' lf_dams' lf_echoes' lf_deep' lf_slide' la_heights' la_ladders' la_minutes' la_echoFrom' la_echoTo' la_homes' la_talls' la_known' vf_deeds' va_kinds' va_firsts' va_seconds' sf_facts' sa_heard' sa_huts' sa_minutes' cf_voices' cf_step' ca_parts' ca_heights' h' s') : q_wr_X4_tell_0 lf_huts lf_singers lf_villages lf_dams lf_echoes lf_deep lf_slide la_heights la_ladders la_minutes la_echoFrom la_echoTo la_homes la_talls la_known vf_deeds va_kinds va_firsts va_seconds sf_facts sa_heard sa_huts sa_minutes cf_voices cf_step ca_parts ca_heights nums h s (nI 7) post := by
  have ha : iv 0 8 a := iv_w (cW_iv c0) (by decide +kernel)
  have hb : iv 0 9 b := iv_w (cW_iv c1) (by decide +kernel)
  obtain ⟨b0, b1, b4⟩ := CB_n hC
  obtain ⟨hL, hh, hs⟩ := hD.1 rfl
  refine ⟨fun h9 => absurd h9 (by decide +kernel), fun _ => ?_⟩
  rw [c_0, c_1, c_2, n0, n1]
  refine ⟨fun h9 => absurd h9 (by decide +kernel), fun h9 => absurd h9 (by decide +kernel), fun h9 => absurd h9 (by decide +kernel), fun h9 => absurd h9 (by decide +kernel), fun h9 => absurd h9 (by decide +kernel), fun h9 => absurd h9 (by decide +kernel), fun h9 => absurd h9 (by decide +kernel), fun h9 => absurd h9 (by decide +kernel), fun _ => ?_, fun h9 => absurd h9 (by decide +kernel)⟩
  obtain ⟨p, ep, -, hp, -⟩ := iv_nI ha (by decide)
  refine ⟨by rw [ep]; exact vp_in_nI (by omega) (by omega), fun t1 e1 v e2 => ?_⟩
  rw [ep, nI_clamp (by omega)] at e1
  subst e1 e2
  refine hpo _ _ _ _ _ _ _ _ _ _ _ _ _ _ _ _ _ _ _ _ _ _ _ _ _ _ _ _ _ ?_
  have e : lD 7 true a b c td = upd td (16 + p) b := by
    show upd td (Int32.toNatClampNeg (16 + a)) b = _
    rw [ep, show (16 : Int32) = nI 16 from rfl, nI_add, nI_clamp (by omega)]
  rw [e]
  exact DR0 (LDR_lad b (show p < 9 by omega) hL b0 b1 b4) (HB_or hh ha) hs
set_option maxRecDepth 20000 in
theorem e_tell_8 {lf_huts lf_singers lf_villages lf_dams lf_echoes lf_deep lf_slide vf_deeds sf_facts cf_voices cf_step : Int32} {la_heights la_ladders la_minutes la_echoFrom la_echoTo la_homes la_talls la_known va_kinds va_firsts va_seconds sa_heard sa_huts sa_minutes ca_parts ca_heights : Nat → Int32} {nums td : Nat → Int32} {h s fh fs a b c : Int32} {post : (Int32) → (Int32) → (Int32) → (Int32) → (Int32) → (Int32) → (Int32) → (Nat → Int32) → (Nat → Int32) → (Nat → Int32) → (Nat → Int32) → (Nat → Int32) → (Nat → Int32) → (Nat → Int32) → (Nat → Int32) → (Int32) → (Nat → Int32) → (Nat → Int32) → (Nat → Int32) → (Int32) → (Nat → Int32) → (Nat → Int32) → (Nat → Int32) → (Int32) → (Int32) → (Nat → Int32) → (Nat → Int32) → Int32 → Int32 → Prop} (hC : CB 0 td) (hf : fu 8 td = false) (n0 : nums 0 = a) (c0 : cW 8 0 a a = true) (n1 : nums 1 = b) (c1 : cW 8 1 a b = true) (hD : DR 0 lf_huts lf_singers lf_villages lf_dams lf_echoes lf_deep lf_slide la_heights la_ladders la_minutes la_echoFrom la_echoTo la_homes la_talls la_known vf_deeds va_kinds va_firsts va_seconds sf_facts sa_heard sa_huts sa_minutes cf_voices cf_step ca_parts ca_heights h s td fh fs) (hpo : ∀ (lf_huts' : Int32) (lf_singers' : Int32) (lf_villages' : Int32) (lf_dams' : Int32) (lf_echoes' : Int32) (lf_deep' : Int32) (lf_slide' : Int32) (la_heights' : Nat → Int32) (la_ladders' : Nat → Int32) (la_minutes' : Nat → Int32) (la_echoFrom' : Nat → Int32) (la_echoTo' : Nat → Int32) (la_homes' : Nat → Int32) (la_talls' : Nat → Int32) (la_known' : Nat → Int32) (vf_deeds' : Int32) (va_kinds' : Nat → Int32) (va_firsts' : Nat → Int32) (va_seconds' : Nat → Int32) (sf_facts' : Int32) (sa_heard' : Nat → Int32) (sa_huts' : Nat → Int32) (sa_minutes' : Nat → Int32) (cf_voices' : Int32) (cf_step' : Int32) (ca_parts' : Nat → Int32) (ca_heights' : Nat → Int32) (h' s' : Int32), DR 0 lf_huts' lf_singers' lf_villages' lf_dams' lf_echoes' lf_deep' lf_slide' la_heights' la_ladders' la_minutes' la_echoFrom' la_echoTo' la_homes' la_talls' la_known' vf_deeds' va_kinds' va_firsts' va_seconds' sf_facts' sa_heard' sa_huts' sa_minutes' cf_voices' cf_step' ca_parts' ca_heights' h' s' (lD 8 true a b c td) (lH 8 a b fh) (lS 8 a fs) → post lf_huts' lf_singers' lf_villages' lf_dams' lf_echoes' lf_deep' lf_slide' la_heights' la_ladders' la_minutes' la_echoFrom' la_echoTo' la_homes' la_talls' la_known' vf_deeds' va_kinds' va_firsts' va_seconds' sf_facts' sa_heard' sa_huts' sa_minutes' cf_voices' cf_step' ca_parts' ca_heights' h' s') : q_wr_X4_tell_0 lf_huts lf_singers lf_villages lf_dams lf_echoes lf_deep lf_slide la_heights la_ladders la_minutes la_echoFrom la_echoTo la_homes la_talls la_known vf_deeds va_kinds va_firsts va_seconds sf_facts sa_heard sa_huts sa_minutes cf_voices cf_step ca_parts ca_heights nums h s (nI 8) post := by
  have ha : iv 0 8 a := iv_w (cW_iv c0) (by decide +kernel)
  have hb : iv 0 9 b := iv_w (cW_iv c1) (by decide +kernel)
  obtain ⟨b0, b1, b4⟩ := CB_n hC
  obtain ⟨hL, hh, hs⟩ := hD.1 rfl
  refine ⟨fun h9 => absurd h9 (by decide +kernel), fun _ => ?_⟩
  rw [c_0, c_1, c_2, n0, n1]
  refine ⟨fun h9 => absurd h9 (by decide +kernel), fun h9 => absurd h9 (by decide +kernel), fun h9 => absurd h9 (by decide +kernel), fun h9 => absurd h9 (by decide +kernel), fun h9 => absurd h9 (by decide +kernel), fun h9 => absurd h9 (by decide +kernel), fun h9 => absurd h9 (by decide +kernel), fun h9 => absurd h9 (by decide +kernel), fun h9 => absurd h9 (by decide +kernel), fun _ => ?_⟩
  obtain ⟨k, hk, -, hk9, -⟩ := iv_nI (hC.2 rfl).1 (by decide)
  have hne : ¬ td 1 = 6 := fun h9 => by
    have := of_decide_eq_false hf
    exact this (by simp [h9])
  have hk8 : k < 6 := Nat.lt_of_le_of_ne (by omega) (fun h9 => hne (by rw [hk, h9]; rfl))
  have e0 : lf_singers = nI k := hL.2.1.trans hk
  have hin : vp_in lf_singers 6 := by rw [e0]; exact vp_in_nI hk8 (by omega)
  refine ⟨hin, fun t1 e1 => ⟨hin, fun t2 e2 v e3 v2 e4 => ?_⟩⟩
  rw [e0, nI_clamp (by omega)] at e1 e2
  rw [e0, nI_1] at e3
  subst e1 e2 e3 e4
  refine hpo _ _ _ _ _ _ _ _ _ _ _ _ _ _ _ _ _ _ _ _ _ _ _ _ _ _ _ _ _ ?_
  have e : lD 8 true a b c td = upd (upd (upd td 1 (nI (k + 1))) (25 + k) a) (31 + k) b := by
    show (if td 1 = 6 then td else upd (upd (upd td 1 (td 1 + 1)) (Int32.toNatClampNeg (25 + td 1)) a) (Int32.toNatClampNeg (31 + td 1)) b) = _
    rw [if_neg hne, hk, nI_1, show (25 : Int32) = nI 25 from rfl, show (31 : Int32) = nI 31 from rfl, nI_add, nI_add, nI_clamp (by omega), nI_clamp (by omega)]
  rw [e]
  exact DR0 (LDR_sin a b hk hk8 hL b0 b1 b4) (HB_or hh ha) hs
set_option maxRecDepth 20000 in
theorem e_tell_9 {lf_huts lf_singers lf_villages lf_dams lf_echoes lf_deep lf_slide vf_deeds sf_facts cf_voices cf_step : Int32} {la_heights la_ladders la_minutes la_echoFrom la_echoTo la_homes la_talls la_known va_kinds va_firsts va_seconds sa_heard sa_huts sa_minutes ca_parts ca_heights : Nat → Int32} {nums td : Nat → Int32} {h s fh fs a b c : Int32} {post : (Int32) → (Int32) → (Int32) → (Int32) → (Int32) → (Int32) → (Int32) → (Nat → Int32) → (Nat → Int32) → (Nat → Int32) → (Nat → Int32) → (Nat → Int32) → (Nat → Int32) → (Nat → Int32) → (Nat → Int32) → (Int32) → (Nat → Int32) → (Nat → Int32) → (Nat → Int32) → (Int32) → (Nat → Int32) → (Nat → Int32) → (Nat → Int32) → (Int32) → (Int32) → (Nat → Int32) → (Nat → Int32) → Int32 → Int32 → Prop} (hC : CB 0 td) (hf : fu 9 td = false) (n0 : nums 0 = a) (c0 : cW 9 0 a a = true) (n1 : nums 1 = b) (c1 : cW 9 1 a b = true) (hD : DR 0 lf_huts lf_singers lf_villages lf_dams lf_echoes lf_deep lf_slide la_heights la_ladders la_minutes la_echoFrom la_echoTo la_homes la_talls la_known vf_deeds va_kinds va_firsts va_seconds sf_facts sa_heard sa_huts sa_minutes cf_voices cf_step ca_parts ca_heights h s td fh fs) (hpo : ∀ (lf_huts' : Int32) (lf_singers' : Int32) (lf_villages' : Int32) (lf_dams' : Int32) (lf_echoes' : Int32) (lf_deep' : Int32) (lf_slide' : Int32) (la_heights' : Nat → Int32) (la_ladders' : Nat → Int32) (la_minutes' : Nat → Int32) (la_echoFrom' : Nat → Int32) (la_echoTo' : Nat → Int32) (la_homes' : Nat → Int32) (la_talls' : Nat → Int32) (la_known' : Nat → Int32) (vf_deeds' : Int32) (va_kinds' : Nat → Int32) (va_firsts' : Nat → Int32) (va_seconds' : Nat → Int32) (sf_facts' : Int32) (sa_heard' : Nat → Int32) (sa_huts' : Nat → Int32) (sa_minutes' : Nat → Int32) (cf_voices' : Int32) (cf_step' : Int32) (ca_parts' : Nat → Int32) (ca_heights' : Nat → Int32) (h' s' : Int32), DR 0 lf_huts' lf_singers' lf_villages' lf_dams' lf_echoes' lf_deep' lf_slide' la_heights' la_ladders' la_minutes' la_echoFrom' la_echoTo' la_homes' la_talls' la_known' vf_deeds' va_kinds' va_firsts' va_seconds' sf_facts' sa_heard' sa_huts' sa_minutes' cf_voices' cf_step' ca_parts' ca_heights' h' s' (lD 9 true a b c td) (lH 9 a b fh) (lS 9 a fs) → post lf_huts' lf_singers' lf_villages' lf_dams' lf_echoes' lf_deep' lf_slide' la_heights' la_ladders' la_minutes' la_echoFrom' la_echoTo' la_homes' la_talls' la_known' vf_deeds' va_kinds' va_firsts' va_seconds' sf_facts' sa_heard' sa_huts' sa_minutes' cf_voices' cf_step' ca_parts' ca_heights' h' s') : q_wr_X4_tell_0 lf_huts lf_singers lf_villages lf_dams lf_echoes lf_deep lf_slide la_heights la_ladders la_minutes la_echoFrom la_echoTo la_homes la_talls la_known vf_deeds va_kinds va_firsts va_seconds sf_facts sa_heard sa_huts sa_minutes cf_voices cf_step ca_parts ca_heights nums h s (nI 9) post := by
  have ha : iv 0 5 a := iv_w (cW_iv c0) (by decide +kernel)
  have hb : iv 0 4 b := iv_w (cW_iv c1) (by decide +kernel)
  obtain ⟨b0, b1, b4⟩ := CB_n hC
  obtain ⟨hL, hh, hs⟩ := hD.1 rfl
  refine ⟨fun h9 => absurd h9 (by decide +kernel), fun _ => ?_⟩
  rw [c_0, c_1, c_2, n0, n1]
  refine ⟨fun _ => ?_, fun h9 => absurd h9 (by decide +kernel), fun h9 => absurd h9 (by decide +kernel), fun h9 => absurd h9 (by decide +kernel), fun h9 => absurd h9 (by decide +kernel), fun h9 => absurd h9 (by decide +kernel), fun h9 => absurd h9 (by decide +kernel), fun h9 => absurd h9 (by decide +kernel), fun h9 => absurd h9 (by decide +kernel), fun h9 => absurd h9 (by decide +kernel)⟩
  obtain ⟨p, ep, -, hp, -⟩ := iv_nI ha (by decide)
  have hin : vp_in a 6 := by rw [ep]; exact vp_in_nI (by omega) (by omega)
  refine ⟨hin, fun v e0 => ⟨hin, fun t1 e1 v2 e2 => ?_⟩⟩
  rw [ep, nI_clamp (by omega)] at e0 e1
  subst e1 e2
  refine hpo _ _ _ _ _ _ _ _ _ _ _ _ _ _ _ _ _ _ _ _ _ _ _ _ _ _ _ _ _ ?_
  have e : lD 9 true a b c td = upd td (37 + p) v := by
    show upd td (Int32.toNatClampNeg (37 + a)) (td (Int32.toNatClampNeg (37 + a)) ||| 1 <<< (b &&& 31)) = _
    rw [ep, show (37 : Int32) = nI 37 from rfl, nI_add, nI_clamp (by omega), e0, hL.2.2.2.2.2.2.2.2.2.2.2.2 p (by omega)]
  rw [e]
  exact DR0 (LDR_kno v (show p < 6 by omega) hL b0 b1 b4) hh (HB_or hs (iv_w ha (by decide)))
set_option maxRecDepth 20000 in
theorem e_tell_10 {lf_huts lf_singers lf_villages lf_dams lf_echoes lf_deep lf_slide vf_deeds sf_facts cf_voices cf_step : Int32} {la_heights la_ladders la_minutes la_echoFrom la_echoTo la_homes la_talls la_known va_kinds va_firsts va_seconds sa_heard sa_huts sa_minutes ca_parts ca_heights : Nat → Int32} {nums td : Nat → Int32} {h s fh fs a b c : Int32} {post : (Int32) → (Int32) → (Int32) → (Int32) → (Int32) → (Int32) → (Int32) → (Nat → Int32) → (Nat → Int32) → (Nat → Int32) → (Nat → Int32) → (Nat → Int32) → (Nat → Int32) → (Nat → Int32) → (Nat → Int32) → (Int32) → (Nat → Int32) → (Nat → Int32) → (Nat → Int32) → (Int32) → (Nat → Int32) → (Nat → Int32) → (Nat → Int32) → (Int32) → (Int32) → (Nat → Int32) → (Nat → Int32) → Int32 → Int32 → Prop} (hC : CB 1 td) (hf : fu 10 td = false) (n0 : nums 0 = a) (c0 : cW 10 0 a a = true) (n1 : nums 1 = b) (c1 : cW 10 1 a b = true) (hD : DR 1 lf_huts lf_singers lf_villages lf_dams lf_echoes lf_deep lf_slide la_heights la_ladders la_minutes la_echoFrom la_echoTo la_homes la_talls la_known vf_deeds va_kinds va_firsts va_seconds sf_facts sa_heard sa_huts sa_minutes cf_voices cf_step ca_parts ca_heights h s td fh fs) (hpo : ∀ (lf_huts' : Int32) (lf_singers' : Int32) (lf_villages' : Int32) (lf_dams' : Int32) (lf_echoes' : Int32) (lf_deep' : Int32) (lf_slide' : Int32) (la_heights' : Nat → Int32) (la_ladders' : Nat → Int32) (la_minutes' : Nat → Int32) (la_echoFrom' : Nat → Int32) (la_echoTo' : Nat → Int32) (la_homes' : Nat → Int32) (la_talls' : Nat → Int32) (la_known' : Nat → Int32) (vf_deeds' : Int32) (va_kinds' : Nat → Int32) (va_firsts' : Nat → Int32) (va_seconds' : Nat → Int32) (sf_facts' : Int32) (sa_heard' : Nat → Int32) (sa_huts' : Nat → Int32) (sa_minutes' : Nat → Int32) (cf_voices' : Int32) (cf_step' : Int32) (ca_parts' : Nat → Int32) (ca_heights' : Nat → Int32) (h' s' : Int32), DR 1 lf_huts' lf_singers' lf_villages' lf_dams' lf_echoes' lf_deep' lf_slide' la_heights' la_ladders' la_minutes' la_echoFrom' la_echoTo' la_homes' la_talls' la_known' vf_deeds' va_kinds' va_firsts' va_seconds' sf_facts' sa_heard' sa_huts' sa_minutes' cf_voices' cf_step' ca_parts' ca_heights' h' s' (lD 10 true a b c td) (lH 10 a b fh) (lS 10 a fs) → post lf_huts' lf_singers' lf_villages' lf_dams' lf_echoes' lf_deep' lf_slide' la_heights' la_ladders' la_minutes' la_echoFrom' la_echoTo' la_homes' la_talls' la_known' vf_deeds' va_kinds' va_firsts' va_seconds' sf_facts' sa_heard' sa_huts' sa_minutes' cf_voices' cf_step' ca_parts' ca_heights' h' s') : q_wr_X4_tell_0 lf_huts lf_singers lf_villages lf_dams lf_echoes lf_deep lf_slide la_heights la_ladders la_minutes la_echoFrom la_echoTo la_homes la_talls la_known vf_deeds va_kinds va_firsts va_seconds sf_facts sa_heard sa_huts sa_minutes cf_voices cf_step ca_parts ca_heights nums h s (nI 10) post := by
  have hL := hD.2.1 rfl
  obtain ⟨k, hk, -, hk9, -⟩ := iv_nI hC.1 (by decide)
  have hne : ¬ td 0 = 40 := fun h9 => by
    have := of_decide_eq_false hf
    exact this (by simp [h9])
  have hk8 : k < 40 := Nat.lt_of_le_of_ne (by omega) (fun h9 => hne (by rw [hk, h9]; rfl))
  have e0 : vf_deeds = nI k := hL.1.trans hk
  have hin : vp_in vf_deeds 40 := by rw [e0]; exact vp_in_nI hk8 (by omega)
  refine ⟨fun _ => ⟨fun h9 => absurd h9 (by decide +kernel), fun _ => ⟨vp_in_nI (by decide) (by decide), ?_⟩⟩, fun h9 => absurd h9 (by decide +kernel)⟩
  rw [c_0, c_1, n0, n1]
  refine ⟨fun h9 => absurd h9 (by decide +kernel), fun _ => ?_⟩
  refine ⟨fun h9 => absurd h9 (by rw [e0]; exact nI_ge (b := 40) hk8 (by omega)), fun _ => ⟨hin, fun t1 e1 => ⟨hin, fun t2 e2 => ⟨hin, fun t3 e3 v e4 => ?_⟩⟩⟩⟩
  rw [e0, nI_clamp (by omega)] at e1 e2 e3
  rw [e0, nI_1] at e4
  subst e1 e2 e3 e4
  refine hpo _ _ _ _ _ _ _ _ _ _ _ _ _ _ _ _ _ _ _ _ _ _ _ _ _ _ _ _ _ ?_
  have e : lD 10 true a b c td = upd (upd (upd (upd td 0 (nI (k + 1))) (1 + 3 * k) (nI 10 - 10)) (2 + 3 * k) a) (3 + 3 * k) b := by
    show (if td 0 = 40 then td else upd (upd (upd (upd td 0 (td 0 + 1)) (Int32.toNatClampNeg ((1 + 3 * td 0) + 0)) (nI (10 - 10))) (Int32.toNatClampNeg ((1 + 3 * td 0) + 1)) a) (Int32.toNatClampNeg ((1 + 3 * td 0) + 2)) b) = _
    have q0 : Int32.toNatClampNeg ((1 + 3 * td 0) + 0) = 1 + 3 * k := by rw [hk, show (1 : Int32) = nI 1 from rfl, show (3 : Int32) = nI 3 from rfl, show (0 : Int32) = nI 0 from rfl, jx2, nI_clamp (by omega)]; omega
    have q1 : Int32.toNatClampNeg ((1 + 3 * td 0) + 1) = 2 + 3 * k := by rw [hk, show (1 : Int32) = nI 1 from rfl, show (3 : Int32) = nI 3 from rfl, jx2, nI_clamp (by omega)]; omega
    have q2 : Int32.toNatClampNeg ((1 + 3 * td 0) + 2) = 3 + 3 * k := by rw [hk, show (1 : Int32) = nI 1 from rfl, show (3 : Int32) = nI 3 from rfl, show (2 : Int32) = nI 2 from rfl, jx2, nI_clamp (by omega)]; omega
    rw [if_neg hne, q0, q1, q2, hk, nI_1]
    rfl
  rw [e]
  exact DR1 (R3_add _ _ _ hL hk (by omega))
set_option maxRecDepth 20000 in
theorem e_tell_11 {lf_huts lf_singers lf_villages lf_dams lf_echoes lf_deep lf_slide vf_deeds sf_facts cf_voices cf_step : Int32} {la_heights la_ladders la_minutes la_echoFrom la_echoTo la_homes la_talls la_known va_kinds va_firsts va_seconds sa_heard sa_huts sa_minutes ca_parts ca_heights : Nat → Int32} {nums td : Nat → Int32} {h s fh fs a b c : Int32} {post : (Int32) → (Int32) → (Int32) → (Int32) → (Int32) → (Int32) → (Int32) → (Nat → Int32) → (Nat → Int32) → (Nat → Int32) → (Nat → Int32) → (Nat → Int32) → (Nat → Int32) → (Nat → Int32) → (Nat → Int32) → (Int32) → (Nat → Int32) → (Nat → Int32) → (Nat → Int32) → (Int32) → (Nat → Int32) → (Nat → Int32) → (Nat → Int32) → (Int32) → (Int32) → (Nat → Int32) → (Nat → Int32) → Int32 → Int32 → Prop} (hC : CB 1 td) (hf : fu 11 td = false) (n0 : nums 0 = a) (c0 : cW 11 0 a a = true) (n1 : nums 1 = b) (c1 : cW 11 1 a b = true) (hD : DR 1 lf_huts lf_singers lf_villages lf_dams lf_echoes lf_deep lf_slide la_heights la_ladders la_minutes la_echoFrom la_echoTo la_homes la_talls la_known vf_deeds va_kinds va_firsts va_seconds sf_facts sa_heard sa_huts sa_minutes cf_voices cf_step ca_parts ca_heights h s td fh fs) (hpo : ∀ (lf_huts' : Int32) (lf_singers' : Int32) (lf_villages' : Int32) (lf_dams' : Int32) (lf_echoes' : Int32) (lf_deep' : Int32) (lf_slide' : Int32) (la_heights' : Nat → Int32) (la_ladders' : Nat → Int32) (la_minutes' : Nat → Int32) (la_echoFrom' : Nat → Int32) (la_echoTo' : Nat → Int32) (la_homes' : Nat → Int32) (la_talls' : Nat → Int32) (la_known' : Nat → Int32) (vf_deeds' : Int32) (va_kinds' : Nat → Int32) (va_firsts' : Nat → Int32) (va_seconds' : Nat → Int32) (sf_facts' : Int32) (sa_heard' : Nat → Int32) (sa_huts' : Nat → Int32) (sa_minutes' : Nat → Int32) (cf_voices' : Int32) (cf_step' : Int32) (ca_parts' : Nat → Int32) (ca_heights' : Nat → Int32) (h' s' : Int32), DR 1 lf_huts' lf_singers' lf_villages' lf_dams' lf_echoes' lf_deep' lf_slide' la_heights' la_ladders' la_minutes' la_echoFrom' la_echoTo' la_homes' la_talls' la_known' vf_deeds' va_kinds' va_firsts' va_seconds' sf_facts' sa_heard' sa_huts' sa_minutes' cf_voices' cf_step' ca_parts' ca_heights' h' s' (lD 11 true a b c td) (lH 11 a b fh) (lS 11 a fs) → post lf_huts' lf_singers' lf_villages' lf_dams' lf_echoes' lf_deep' lf_slide' la_heights' la_ladders' la_minutes' la_echoFrom' la_echoTo' la_homes' la_talls' la_known' vf_deeds' va_kinds' va_firsts' va_seconds' sf_facts' sa_heard' sa_huts' sa_minutes' cf_voices' cf_step' ca_parts' ca_heights' h' s') : q_wr_X4_tell_0 lf_huts lf_singers lf_villages lf_dams lf_echoes lf_deep lf_slide la_heights la_ladders la_minutes la_echoFrom la_echoTo la_homes la_talls la_known vf_deeds va_kinds va_firsts va_seconds sf_facts sa_heard sa_huts sa_minutes cf_voices cf_step ca_parts ca_heights nums h s (nI 11) post := by
  have hL := hD.2.1 rfl
  obtain ⟨k, hk, -, hk9, -⟩ := iv_nI hC.1 (by decide)
  have hne : ¬ td 0 = 40 := fun h9 => by
    have := of_decide_eq_false hf
    exact this (by simp [h9])
  have hk8 : k < 40 := Nat.lt_of_le_of_ne (by omega) (fun h9 => hne (by rw [hk, h9]; rfl))
  have e0 : vf_deeds = nI k := hL.1.trans hk
  have hin : vp_in vf_deeds 40 := by rw [e0]; exact vp_in_nI hk8 (by omega)
  refine ⟨fun _ => ⟨fun h9 => absurd h9 (by decide +kernel), fun _ => ⟨vp_in_nI (by decide) (by decide), ?_⟩⟩, fun h9 => absurd h9 (by decide +kernel)⟩
  rw [c_0, c_1, n0, n1]
  refine ⟨fun h9 => absurd h9 (by decide +kernel), fun _ => ?_⟩
  refine ⟨fun h9 => absurd h9 (by rw [e0]; exact nI_ge (b := 40) hk8 (by omega)), fun _ => ⟨hin, fun t1 e1 => ⟨hin, fun t2 e2 => ⟨hin, fun t3 e3 v e4 => ?_⟩⟩⟩⟩
  rw [e0, nI_clamp (by omega)] at e1 e2 e3
  rw [e0, nI_1] at e4
  subst e1 e2 e3 e4
  refine hpo _ _ _ _ _ _ _ _ _ _ _ _ _ _ _ _ _ _ _ _ _ _ _ _ _ _ _ _ _ ?_
  have e : lD 11 true a b c td = upd (upd (upd (upd td 0 (nI (k + 1))) (1 + 3 * k) (nI 11 - 10)) (2 + 3 * k) a) (3 + 3 * k) b := by
    show (if td 0 = 40 then td else upd (upd (upd (upd td 0 (td 0 + 1)) (Int32.toNatClampNeg ((1 + 3 * td 0) + 0)) (nI (11 - 10))) (Int32.toNatClampNeg ((1 + 3 * td 0) + 1)) a) (Int32.toNatClampNeg ((1 + 3 * td 0) + 2)) b) = _
    have q0 : Int32.toNatClampNeg ((1 + 3 * td 0) + 0) = 1 + 3 * k := by rw [hk, show (1 : Int32) = nI 1 from rfl, show (3 : Int32) = nI 3 from rfl, show (0 : Int32) = nI 0 from rfl, jx2, nI_clamp (by omega)]; omega
    have q1 : Int32.toNatClampNeg ((1 + 3 * td 0) + 1) = 2 + 3 * k := by rw [hk, show (1 : Int32) = nI 1 from rfl, show (3 : Int32) = nI 3 from rfl, jx2, nI_clamp (by omega)]; omega
    have q2 : Int32.toNatClampNeg ((1 + 3 * td 0) + 2) = 3 + 3 * k := by rw [hk, show (1 : Int32) = nI 1 from rfl, show (3 : Int32) = nI 3 from rfl, show (2 : Int32) = nI 2 from rfl, jx2, nI_clamp (by omega)]; omega
    rw [if_neg hne, q0, q1, q2, hk, nI_1]
    rfl
  rw [e]
  exact DR1 (R3_add _ _ _ hL hk (by omega))
set_option maxRecDepth 20000 in
theorem e_tell_12 {lf_huts lf_singers lf_villages lf_dams lf_echoes lf_deep lf_slide vf_deeds sf_facts cf_voices cf_step : Int32} {la_heights la_ladders la_minutes la_echoFrom la_echoTo la_homes la_talls la_known va_kinds va_firsts va_seconds sa_heard sa_huts sa_minutes ca_parts ca_heights : Nat → Int32} {nums td : Nat → Int32} {h s fh fs a b c : Int32} {post : (Int32) → (Int32) → (Int32) → (Int32) → (Int32) → (Int32) → (Int32) → (Nat → Int32) → (Nat → Int32) → (Nat → Int32) → (Nat → Int32) → (Nat → Int32) → (Nat → Int32) → (Nat → Int32) → (Nat → Int32) → (Int32) → (Nat → Int32) → (Nat → Int32) → (Nat → Int32) → (Int32) → (Nat → Int32) → (Nat → Int32) → (Nat → Int32) → (Int32) → (Int32) → (Nat → Int32) → (Nat → Int32) → Int32 → Int32 → Prop} (hC : CB 1 td) (hf : fu 12 td = false) (n0 : nums 0 = a) (c0 : cW 12 0 a a = true) (n1 : nums 1 = b) (c1 : cW 12 1 a b = true) (hD : DR 1 lf_huts lf_singers lf_villages lf_dams lf_echoes lf_deep lf_slide la_heights la_ladders la_minutes la_echoFrom la_echoTo la_homes la_talls la_known vf_deeds va_kinds va_firsts va_seconds sf_facts sa_heard sa_huts sa_minutes cf_voices cf_step ca_parts ca_heights h s td fh fs) (hpo : ∀ (lf_huts' : Int32) (lf_singers' : Int32) (lf_villages' : Int32) (lf_dams' : Int32) (lf_echoes' : Int32) (lf_deep' : Int32) (lf_slide' : Int32) (la_heights' : Nat → Int32) (la_ladders' : Nat → Int32) (la_minutes' : Nat → Int32) (la_echoFrom' : Nat → Int32) (la_echoTo' : Nat → Int32) (la_homes' : Nat → Int32) (la_talls' : Nat → Int32) (la_known' : Nat → Int32) (vf_deeds' : Int32) (va_kinds' : Nat → Int32) (va_firsts' : Nat → Int32) (va_seconds' : Nat → Int32) (sf_facts' : Int32) (sa_heard' : Nat → Int32) (sa_huts' : Nat → Int32) (sa_minutes' : Nat → Int32) (cf_voices' : Int32) (cf_step' : Int32) (ca_parts' : Nat → Int32) (ca_heights' : Nat → Int32) (h' s' : Int32), DR 1 lf_huts' lf_singers' lf_villages' lf_dams' lf_echoes' lf_deep' lf_slide' la_heights' la_ladders' la_minutes' la_echoFrom' la_echoTo' la_homes' la_talls' la_known' vf_deeds' va_kinds' va_firsts' va_seconds' sf_facts' sa_heard' sa_huts' sa_minutes' cf_voices' cf_step' ca_parts' ca_heights' h' s' (lD 12 true a b c td) (lH 12 a b fh) (lS 12 a fs) → post lf_huts' lf_singers' lf_villages' lf_dams' lf_echoes' lf_deep' lf_slide' la_heights' la_ladders' la_minutes' la_echoFrom' la_echoTo' la_homes' la_talls' la_known' vf_deeds' va_kinds' va_firsts' va_seconds' sf_facts' sa_heard' sa_huts' sa_minutes' cf_voices' cf_step' ca_parts' ca_heights' h' s') : q_wr_X4_tell_0 lf_huts lf_singers lf_villages lf_dams lf_echoes lf_deep lf_slide la_heights la_ladders la_minutes la_echoFrom la_echoTo la_homes la_talls la_known vf_deeds va_kinds va_firsts va_seconds sf_facts sa_heard sa_huts sa_minutes cf_voices cf_step ca_parts ca_heights nums h s (nI 12) post := by
  have hL := hD.2.1 rfl
  obtain ⟨k, hk, -, hk9, -⟩ := iv_nI hC.1 (by decide)
  have hne : ¬ td 0 = 40 := fun h9 => by
    have := of_decide_eq_false hf
    exact this (by simp [h9])
  have hk8 : k < 40 := Nat.lt_of_le_of_ne (by omega) (fun h9 => hne (by rw [hk, h9]; rfl))
  have e0 : vf_deeds = nI k := hL.1.trans hk
  have hin : vp_in vf_deeds 40 := by rw [e0]; exact vp_in_nI hk8 (by omega)
  refine ⟨fun _ => ⟨fun h9 => absurd h9 (by decide +kernel), fun _ => ⟨vp_in_nI (by decide) (by decide), ?_⟩⟩, fun h9 => absurd h9 (by decide +kernel)⟩
  rw [c_0, c_1, n0, n1]
  refine ⟨fun h9 => absurd h9 (by decide +kernel), fun _ => ?_⟩
  refine ⟨fun h9 => absurd h9 (by rw [e0]; exact nI_ge (b := 40) hk8 (by omega)), fun _ => ⟨hin, fun t1 e1 => ⟨hin, fun t2 e2 => ⟨hin, fun t3 e3 v e4 => ?_⟩⟩⟩⟩
  rw [e0, nI_clamp (by omega)] at e1 e2 e3
  rw [e0, nI_1] at e4
  subst e1 e2 e3 e4
  refine hpo _ _ _ _ _ _ _ _ _ _ _ _ _ _ _ _ _ _ _ _ _ _ _ _ _ _ _ _ _ ?_
  have e : lD 12 true a b c td = upd (upd (upd (upd td 0 (nI (k + 1))) (1 + 3 * k) (nI 12 - 10)) (2 + 3 * k) a) (3 + 3 * k) b := by
    show (if td 0 = 40 then td else upd (upd (upd (upd td 0 (td 0 + 1)) (Int32.toNatClampNeg ((1 + 3 * td 0) + 0)) (nI (12 - 10))) (Int32.toNatClampNeg ((1 + 3 * td 0) + 1)) a) (Int32.toNatClampNeg ((1 + 3 * td 0) + 2)) b) = _
    have q0 : Int32.toNatClampNeg ((1 + 3 * td 0) + 0) = 1 + 3 * k := by rw [hk, show (1 : Int32) = nI 1 from rfl, show (3 : Int32) = nI 3 from rfl, show (0 : Int32) = nI 0 from rfl, jx2, nI_clamp (by omega)]; omega
    have q1 : Int32.toNatClampNeg ((1 + 3 * td 0) + 1) = 2 + 3 * k := by rw [hk, show (1 : Int32) = nI 1 from rfl, show (3 : Int32) = nI 3 from rfl, jx2, nI_clamp (by omega)]; omega
    have q2 : Int32.toNatClampNeg ((1 + 3 * td 0) + 2) = 3 + 3 * k := by rw [hk, show (1 : Int32) = nI 1 from rfl, show (3 : Int32) = nI 3 from rfl, show (2 : Int32) = nI 2 from rfl, jx2, nI_clamp (by omega)]; omega
    rw [if_neg hne, q0, q1, q2, hk, nI_1]
    rfl
  rw [e]
  exact DR1 (R3_add _ _ _ hL hk (by omega))
set_option maxRecDepth 20000 in
theorem e_tell_13 {lf_huts lf_singers lf_villages lf_dams lf_echoes lf_deep lf_slide vf_deeds sf_facts cf_voices cf_step : Int32} {la_heights la_ladders la_minutes la_echoFrom la_echoTo la_homes la_talls la_known va_kinds va_firsts va_seconds sa_heard sa_huts sa_minutes ca_parts ca_heights : Nat → Int32} {nums td : Nat → Int32} {h s fh fs a b c : Int32} {post : (Int32) → (Int32) → (Int32) → (Int32) → (Int32) → (Int32) → (Int32) → (Nat → Int32) → (Nat → Int32) → (Nat → Int32) → (Nat → Int32) → (Nat → Int32) → (Nat → Int32) → (Nat → Int32) → (Nat → Int32) → (Int32) → (Nat → Int32) → (Nat → Int32) → (Nat → Int32) → (Int32) → (Nat → Int32) → (Nat → Int32) → (Nat → Int32) → (Int32) → (Int32) → (Nat → Int32) → (Nat → Int32) → Int32 → Int32 → Prop} (hC : CB 1 td) (hf : fu 13 td = false) (n0 : nums 0 = a) (c0 : cW 13 0 a a = true) (n1 : nums 1 = b) (c1 : cW 13 1 a b = true) (hD : DR 1 lf_huts lf_singers lf_villages lf_dams lf_echoes lf_deep lf_slide la_heights la_ladders la_minutes la_echoFrom la_echoTo la_homes la_talls la_known vf_deeds va_kinds va_firsts va_seconds sf_facts sa_heard sa_huts sa_minutes cf_voices cf_step ca_parts ca_heights h s td fh fs) (hpo : ∀ (lf_huts' : Int32) (lf_singers' : Int32) (lf_villages' : Int32) (lf_dams' : Int32) (lf_echoes' : Int32) (lf_deep' : Int32) (lf_slide' : Int32) (la_heights' : Nat → Int32) (la_ladders' : Nat → Int32) (la_minutes' : Nat → Int32) (la_echoFrom' : Nat → Int32) (la_echoTo' : Nat → Int32) (la_homes' : Nat → Int32) (la_talls' : Nat → Int32) (la_known' : Nat → Int32) (vf_deeds' : Int32) (va_kinds' : Nat → Int32) (va_firsts' : Nat → Int32) (va_seconds' : Nat → Int32) (sf_facts' : Int32) (sa_heard' : Nat → Int32) (sa_huts' : Nat → Int32) (sa_minutes' : Nat → Int32) (cf_voices' : Int32) (cf_step' : Int32) (ca_parts' : Nat → Int32) (ca_heights' : Nat → Int32) (h' s' : Int32), DR 1 lf_huts' lf_singers' lf_villages' lf_dams' lf_echoes' lf_deep' lf_slide' la_heights' la_ladders' la_minutes' la_echoFrom' la_echoTo' la_homes' la_talls' la_known' vf_deeds' va_kinds' va_firsts' va_seconds' sf_facts' sa_heard' sa_huts' sa_minutes' cf_voices' cf_step' ca_parts' ca_heights' h' s' (lD 13 true a b c td) (lH 13 a b fh) (lS 13 a fs) → post lf_huts' lf_singers' lf_villages' lf_dams' lf_echoes' lf_deep' lf_slide' la_heights' la_ladders' la_minutes' la_echoFrom' la_echoTo' la_homes' la_talls' la_known' vf_deeds' va_kinds' va_firsts' va_seconds' sf_facts' sa_heard' sa_huts' sa_minutes' cf_voices' cf_step' ca_parts' ca_heights' h' s') : q_wr_X4_tell_0 lf_huts lf_singers lf_villages lf_dams lf_echoes lf_deep lf_slide la_heights la_ladders la_minutes la_echoFrom la_echoTo la_homes la_talls la_known vf_deeds va_kinds va_firsts va_seconds sf_facts sa_heard sa_huts sa_minutes cf_voices cf_step ca_parts ca_heights nums h s (nI 13) post := by
  have hL := hD.2.1 rfl
  obtain ⟨k, hk, -, hk9, -⟩ := iv_nI hC.1 (by decide)
  have hne : ¬ td 0 = 40 := fun h9 => by
    have := of_decide_eq_false hf
    exact this (by simp [h9])
  have hk8 : k < 40 := Nat.lt_of_le_of_ne (by omega) (fun h9 => hne (by rw [hk, h9]; rfl))
  have e0 : vf_deeds = nI k := hL.1.trans hk
  have hin : vp_in vf_deeds 40 := by rw [e0]; exact vp_in_nI hk8 (by omega)
  refine ⟨fun _ => ⟨fun h9 => absurd h9 (by decide +kernel), fun _ => ⟨vp_in_nI (by decide) (by decide), ?_⟩⟩, fun h9 => absurd h9 (by decide +kernel)⟩
  rw [c_0, c_1, n0, n1]
  refine ⟨fun h9 => absurd h9 (by decide +kernel), fun _ => ?_⟩
  refine ⟨fun h9 => absurd h9 (by rw [e0]; exact nI_ge (b := 40) hk8 (by omega)), fun _ => ⟨hin, fun t1 e1 => ⟨hin, fun t2 e2 => ⟨hin, fun t3 e3 v e4 => ?_⟩⟩⟩⟩
  rw [e0, nI_clamp (by omega)] at e1 e2 e3
  rw [e0, nI_1] at e4
  subst e1 e2 e3 e4
  refine hpo _ _ _ _ _ _ _ _ _ _ _ _ _ _ _ _ _ _ _ _ _ _ _ _ _ _ _ _ _ ?_
  have e : lD 13 true a b c td = upd (upd (upd (upd td 0 (nI (k + 1))) (1 + 3 * k) (nI 13 - 10)) (2 + 3 * k) a) (3 + 3 * k) b := by
    show (if td 0 = 40 then td else upd (upd (upd (upd td 0 (td 0 + 1)) (Int32.toNatClampNeg ((1 + 3 * td 0) + 0)) (nI (13 - 10))) (Int32.toNatClampNeg ((1 + 3 * td 0) + 1)) a) (Int32.toNatClampNeg ((1 + 3 * td 0) + 2)) b) = _
    have q0 : Int32.toNatClampNeg ((1 + 3 * td 0) + 0) = 1 + 3 * k := by rw [hk, show (1 : Int32) = nI 1 from rfl, show (3 : Int32) = nI 3 from rfl, show (0 : Int32) = nI 0 from rfl, jx2, nI_clamp (by omega)]; omega
    have q1 : Int32.toNatClampNeg ((1 + 3 * td 0) + 1) = 2 + 3 * k := by rw [hk, show (1 : Int32) = nI 1 from rfl, show (3 : Int32) = nI 3 from rfl, jx2, nI_clamp (by omega)]; omega
    have q2 : Int32.toNatClampNeg ((1 + 3 * td 0) + 2) = 3 + 3 * k := by rw [hk, show (1 : Int32) = nI 1 from rfl, show (3 : Int32) = nI 3 from rfl, show (2 : Int32) = nI 2 from rfl, jx2, nI_clamp (by omega)]; omega
    rw [if_neg hne, q0, q1, q2, hk, nI_1]
    rfl
  rw [e]
  exact DR1 (R3_add _ _ _ hL hk (by omega))
set_option maxRecDepth 20000 in
theorem e_tell_14 {lf_huts lf_singers lf_villages lf_dams lf_echoes lf_deep lf_slide vf_deeds sf_facts cf_voices cf_step : Int32} {la_heights la_ladders la_minutes la_echoFrom la_echoTo la_homes la_talls la_known va_kinds va_firsts va_seconds sa_heard sa_huts sa_minutes ca_parts ca_heights : Nat → Int32} {nums td : Nat → Int32} {h s fh fs a b c : Int32} {post : (Int32) → (Int32) → (Int32) → (Int32) → (Int32) → (Int32) → (Int32) → (Nat → Int32) → (Nat → Int32) → (Nat → Int32) → (Nat → Int32) → (Nat → Int32) → (Nat → Int32) → (Nat → Int32) → (Nat → Int32) → (Int32) → (Nat → Int32) → (Nat → Int32) → (Nat → Int32) → (Int32) → (Nat → Int32) → (Nat → Int32) → (Nat → Int32) → (Int32) → (Int32) → (Nat → Int32) → (Nat → Int32) → Int32 → Int32 → Prop} (hC : CB 1 td) (hf : fu 14 td = false) (n0 : nums 0 = a) (c0 : cW 14 0 a a = true) (hD : DR 1 lf_huts lf_singers lf_villages lf_dams lf_echoes lf_deep lf_slide la_heights la_ladders la_minutes la_echoFrom la_echoTo la_homes la_talls la_known vf_deeds va_kinds va_firsts va_seconds sf_facts sa_heard sa_huts sa_minutes cf_voices cf_step ca_parts ca_heights h s td fh fs) (hpo : ∀ (lf_huts' : Int32) (lf_singers' : Int32) (lf_villages' : Int32) (lf_dams' : Int32) (lf_echoes' : Int32) (lf_deep' : Int32) (lf_slide' : Int32) (la_heights' : Nat → Int32) (la_ladders' : Nat → Int32) (la_minutes' : Nat → Int32) (la_echoFrom' : Nat → Int32) (la_echoTo' : Nat → Int32) (la_homes' : Nat → Int32) (la_talls' : Nat → Int32) (la_known' : Nat → Int32) (vf_deeds' : Int32) (va_kinds' : Nat → Int32) (va_firsts' : Nat → Int32) (va_seconds' : Nat → Int32) (sf_facts' : Int32) (sa_heard' : Nat → Int32) (sa_huts' : Nat → Int32) (sa_minutes' : Nat → Int32) (cf_voices' : Int32) (cf_step' : Int32) (ca_parts' : Nat → Int32) (ca_heights' : Nat → Int32) (h' s' : Int32), DR 1 lf_huts' lf_singers' lf_villages' lf_dams' lf_echoes' lf_deep' lf_slide' la_heights' la_ladders' la_minutes' la_echoFrom' la_echoTo' la_homes' la_talls' la_known' vf_deeds' va_kinds' va_firsts' va_seconds' sf_facts' sa_heard' sa_huts' sa_minutes' cf_voices' cf_step' ca_parts' ca_heights' h' s' (lD 14 true a b c td) (lH 14 a b fh) (lS 14 a fs) → post lf_huts' lf_singers' lf_villages' lf_dams' lf_echoes' lf_deep' lf_slide' la_heights' la_ladders' la_minutes' la_echoFrom' la_echoTo' la_homes' la_talls' la_known' vf_deeds' va_kinds' va_firsts' va_seconds' sf_facts' sa_heard' sa_huts' sa_minutes' cf_voices' cf_step' ca_parts' ca_heights' h' s') : q_wr_X4_tell_0 lf_huts lf_singers lf_villages lf_dams lf_echoes lf_deep lf_slide la_heights la_ladders la_minutes la_echoFrom la_echoTo la_homes la_talls la_known vf_deeds va_kinds va_firsts va_seconds sf_facts sa_heard sa_huts sa_minutes cf_voices cf_step ca_parts ca_heights nums h s (nI 14) post := by
  have hL := hD.2.1 rfl
  obtain ⟨k, hk, -, hk9, -⟩ := iv_nI hC.1 (by decide)
  have hne : ¬ td 0 = 40 := fun h9 => by
    have := of_decide_eq_false hf
    exact this (by simp [h9])
  have hk8 : k < 40 := Nat.lt_of_le_of_ne (by omega) (fun h9 => hne (by rw [hk, h9]; rfl))
  have e0 : vf_deeds = nI k := hL.1.trans hk
  have hin : vp_in vf_deeds 40 := by rw [e0]; exact vp_in_nI hk8 (by omega)
  refine ⟨fun _ => ⟨fun h9 => absurd h9 (by decide +kernel), fun _ => ⟨vp_in_nI (by decide) (by decide), ?_⟩⟩, fun h9 => absurd h9 (by decide +kernel)⟩
  rw [c_0, n0]
  refine ⟨fun _ => ?_, fun h9 => absurd h9 (by decide +kernel)⟩
  refine ⟨fun h9 => absurd h9 (by rw [e0]; exact nI_ge (b := 40) hk8 (by omega)), fun _ => ⟨hin, fun t1 e1 => ⟨hin, fun t2 e2 => ⟨hin, fun t3 e3 v e4 => ?_⟩⟩⟩⟩
  rw [e0, nI_clamp (by omega)] at e1 e2 e3
  rw [e0, nI_1] at e4
  subst e1 e2 e3 e4
  refine hpo _ _ _ _ _ _ _ _ _ _ _ _ _ _ _ _ _ _ _ _ _ _ _ _ _ _ _ _ _ ?_
  have e : lD 14 true a b c td = upd (upd (upd (upd td 0 (nI (k + 1))) (1 + 3 * k) (nI 14 - 10)) (2 + 3 * k) a) (3 + 3 * k) (-1) := by
    show (if td 0 = 40 then td else upd (upd (upd (upd td 0 (td 0 + 1)) (Int32.toNatClampNeg ((1 + 3 * td 0) + 0)) (nI (14 - 10))) (Int32.toNatClampNeg ((1 + 3 * td 0) + 1)) a) (Int32.toNatClampNeg ((1 + 3 * td 0) + 2)) (-1)) = _
    have q0 : Int32.toNatClampNeg ((1 + 3 * td 0) + 0) = 1 + 3 * k := by rw [hk, show (1 : Int32) = nI 1 from rfl, show (3 : Int32) = nI 3 from rfl, show (0 : Int32) = nI 0 from rfl, jx2, nI_clamp (by omega)]; omega
    have q1 : Int32.toNatClampNeg ((1 + 3 * td 0) + 1) = 2 + 3 * k := by rw [hk, show (1 : Int32) = nI 1 from rfl, show (3 : Int32) = nI 3 from rfl, jx2, nI_clamp (by omega)]; omega
    have q2 : Int32.toNatClampNeg ((1 + 3 * td 0) + 2) = 3 + 3 * k := by rw [hk, show (1 : Int32) = nI 1 from rfl, show (3 : Int32) = nI 3 from rfl, show (2 : Int32) = nI 2 from rfl, jx2, nI_clamp (by omega)]; omega
    rw [if_neg hne, q0, q1, q2, hk, nI_1]
    rfl
  rw [e]
  exact DR1 (R3_add _ _ _ hL hk (by omega))
set_option maxRecDepth 20000 in
theorem e_tell_15 {lf_huts lf_singers lf_villages lf_dams lf_echoes lf_deep lf_slide vf_deeds sf_facts cf_voices cf_step : Int32} {la_heights la_ladders la_minutes la_echoFrom la_echoTo la_homes la_talls la_known va_kinds va_firsts va_seconds sa_heard sa_huts sa_minutes ca_parts ca_heights : Nat → Int32} {nums td : Nat → Int32} {h s fh fs a b c : Int32} {post : (Int32) → (Int32) → (Int32) → (Int32) → (Int32) → (Int32) → (Int32) → (Nat → Int32) → (Nat → Int32) → (Nat → Int32) → (Nat → Int32) → (Nat → Int32) → (Nat → Int32) → (Nat → Int32) → (Nat → Int32) → (Int32) → (Nat → Int32) → (Nat → Int32) → (Nat → Int32) → (Int32) → (Nat → Int32) → (Nat → Int32) → (Nat → Int32) → (Int32) → (Int32) → (Nat → Int32) → (Nat → Int32) → Int32 → Int32 → Prop} (hC : CB 1 td) (hf : fu 15 td = false) (n0 : nums 0 = a) (c0 : cW 15 0 a a = true) (hD : DR 1 lf_huts lf_singers lf_villages lf_dams lf_echoes lf_deep lf_slide la_heights la_ladders la_minutes la_echoFrom la_echoTo la_homes la_talls la_known vf_deeds va_kinds va_firsts va_seconds sf_facts sa_heard sa_huts sa_minutes cf_voices cf_step ca_parts ca_heights h s td fh fs) (hpo : ∀ (lf_huts' : Int32) (lf_singers' : Int32) (lf_villages' : Int32) (lf_dams' : Int32) (lf_echoes' : Int32) (lf_deep' : Int32) (lf_slide' : Int32) (la_heights' : Nat → Int32) (la_ladders' : Nat → Int32) (la_minutes' : Nat → Int32) (la_echoFrom' : Nat → Int32) (la_echoTo' : Nat → Int32) (la_homes' : Nat → Int32) (la_talls' : Nat → Int32) (la_known' : Nat → Int32) (vf_deeds' : Int32) (va_kinds' : Nat → Int32) (va_firsts' : Nat → Int32) (va_seconds' : Nat → Int32) (sf_facts' : Int32) (sa_heard' : Nat → Int32) (sa_huts' : Nat → Int32) (sa_minutes' : Nat → Int32) (cf_voices' : Int32) (cf_step' : Int32) (ca_parts' : Nat → Int32) (ca_heights' : Nat → Int32) (h' s' : Int32), DR 1 lf_huts' lf_singers' lf_villages' lf_dams' lf_echoes' lf_deep' lf_slide' la_heights' la_ladders' la_minutes' la_echoFrom' la_echoTo' la_homes' la_talls' la_known' vf_deeds' va_kinds' va_firsts' va_seconds' sf_facts' sa_heard' sa_huts' sa_minutes' cf_voices' cf_step' ca_parts' ca_heights' h' s' (lD 15 true a b c td) (lH 15 a b fh) (lS 15 a fs) → post lf_huts' lf_singers' lf_villages' lf_dams' lf_echoes' lf_deep' lf_slide' la_heights' la_ladders' la_minutes' la_echoFrom' la_echoTo' la_homes' la_talls' la_known' vf_deeds' va_kinds' va_firsts' va_seconds' sf_facts' sa_heard' sa_huts' sa_minutes' cf_voices' cf_step' ca_parts' ca_heights' h' s') : q_wr_X4_tell_0 lf_huts lf_singers lf_villages lf_dams lf_echoes lf_deep lf_slide la_heights la_ladders la_minutes la_echoFrom la_echoTo la_homes la_talls la_known vf_deeds va_kinds va_firsts va_seconds sf_facts sa_heard sa_huts sa_minutes cf_voices cf_step ca_parts ca_heights nums h s (nI 15) post := by
  have hL := hD.2.1 rfl
  obtain ⟨k, hk, -, hk9, -⟩ := iv_nI hC.1 (by decide)
  have hne : ¬ td 0 = 40 := fun h9 => by
    have := of_decide_eq_false hf
    exact this (by simp [h9])
  have hk8 : k < 40 := Nat.lt_of_le_of_ne (by omega) (fun h9 => hne (by rw [hk, h9]; rfl))
  have e0 : vf_deeds = nI k := hL.1.trans hk
  have hin : vp_in vf_deeds 40 := by rw [e0]; exact vp_in_nI hk8 (by omega)
  refine ⟨fun _ => ⟨fun h9 => absurd h9 (by decide +kernel), fun _ => ⟨vp_in_nI (by decide) (by decide), ?_⟩⟩, fun h9 => absurd h9 (by decide +kernel)⟩
  rw [c_0, n0]
  refine ⟨fun _ => ?_, fun h9 => absurd h9 (by decide +kernel)⟩
  refine ⟨fun h9 => absurd h9 (by rw [e0]; exact nI_ge (b := 40) hk8 (by omega)), fun _ => ⟨hin, fun t1 e1 => ⟨hin, fun t2 e2 => ⟨hin, fun t3 e3 v e4 => ?_⟩⟩⟩⟩
  rw [e0, nI_clamp (by omega)] at e1 e2 e3
  rw [e0, nI_1] at e4
  subst e1 e2 e3 e4
  refine hpo _ _ _ _ _ _ _ _ _ _ _ _ _ _ _ _ _ _ _ _ _ _ _ _ _ _ _ _ _ ?_
  have e : lD 15 true a b c td = upd (upd (upd (upd td 0 (nI (k + 1))) (1 + 3 * k) (nI 15 - 10)) (2 + 3 * k) a) (3 + 3 * k) (-1) := by
    show (if td 0 = 40 then td else upd (upd (upd (upd td 0 (td 0 + 1)) (Int32.toNatClampNeg ((1 + 3 * td 0) + 0)) (nI (15 - 10))) (Int32.toNatClampNeg ((1 + 3 * td 0) + 1)) a) (Int32.toNatClampNeg ((1 + 3 * td 0) + 2)) (-1)) = _
    have q0 : Int32.toNatClampNeg ((1 + 3 * td 0) + 0) = 1 + 3 * k := by rw [hk, show (1 : Int32) = nI 1 from rfl, show (3 : Int32) = nI 3 from rfl, show (0 : Int32) = nI 0 from rfl, jx2, nI_clamp (by omega)]; omega
    have q1 : Int32.toNatClampNeg ((1 + 3 * td 0) + 1) = 2 + 3 * k := by rw [hk, show (1 : Int32) = nI 1 from rfl, show (3 : Int32) = nI 3 from rfl, jx2, nI_clamp (by omega)]; omega
    have q2 : Int32.toNatClampNeg ((1 + 3 * td 0) + 2) = 3 + 3 * k := by rw [hk, show (1 : Int32) = nI 1 from rfl, show (3 : Int32) = nI 3 from rfl, show (2 : Int32) = nI 2 from rfl, jx2, nI_clamp (by omega)]; omega
    rw [if_neg hne, q0, q1, q2, hk, nI_1]
    rfl
  rw [e]
  exact DR1 (R3_add _ _ _ hL hk (by omega))
set_option maxRecDepth 20000 in
theorem e_tell_16 {lf_huts lf_singers lf_villages lf_dams lf_echoes lf_deep lf_slide vf_deeds sf_facts cf_voices cf_step : Int32} {la_heights la_ladders la_minutes la_echoFrom la_echoTo la_homes la_talls la_known va_kinds va_firsts va_seconds sa_heard sa_huts sa_minutes ca_parts ca_heights : Nat → Int32} {nums td : Nat → Int32} {h s fh fs a b c : Int32} {post : (Int32) → (Int32) → (Int32) → (Int32) → (Int32) → (Int32) → (Int32) → (Nat → Int32) → (Nat → Int32) → (Nat → Int32) → (Nat → Int32) → (Nat → Int32) → (Nat → Int32) → (Nat → Int32) → (Nat → Int32) → (Int32) → (Nat → Int32) → (Nat → Int32) → (Nat → Int32) → (Int32) → (Nat → Int32) → (Nat → Int32) → (Nat → Int32) → (Int32) → (Int32) → (Nat → Int32) → (Nat → Int32) → Int32 → Int32 → Prop} (hC : CB 2 td) (hf : fu 16 td = false) (n0 : nums 0 = a) (c0 : cW 16 0 a a = true) (n1 : nums 1 = b) (c1 : cW 16 1 a b = true) (hD : DR 2 lf_huts lf_singers lf_villages lf_dams lf_echoes lf_deep lf_slide la_heights la_ladders la_minutes la_echoFrom la_echoTo la_homes la_talls la_known vf_deeds va_kinds va_firsts va_seconds sf_facts sa_heard sa_huts sa_minutes cf_voices cf_step ca_parts ca_heights h s td fh fs) (hpo : ∀ (lf_huts' : Int32) (lf_singers' : Int32) (lf_villages' : Int32) (lf_dams' : Int32) (lf_echoes' : Int32) (lf_deep' : Int32) (lf_slide' : Int32) (la_heights' : Nat → Int32) (la_ladders' : Nat → Int32) (la_minutes' : Nat → Int32) (la_echoFrom' : Nat → Int32) (la_echoTo' : Nat → Int32) (la_homes' : Nat → Int32) (la_talls' : Nat → Int32) (la_known' : Nat → Int32) (vf_deeds' : Int32) (va_kinds' : Nat → Int32) (va_firsts' : Nat → Int32) (va_seconds' : Nat → Int32) (sf_facts' : Int32) (sa_heard' : Nat → Int32) (sa_huts' : Nat → Int32) (sa_minutes' : Nat → Int32) (cf_voices' : Int32) (cf_step' : Int32) (ca_parts' : Nat → Int32) (ca_heights' : Nat → Int32) (h' s' : Int32), DR 2 lf_huts' lf_singers' lf_villages' lf_dams' lf_echoes' lf_deep' lf_slide' la_heights' la_ladders' la_minutes' la_echoFrom' la_echoTo' la_homes' la_talls' la_known' vf_deeds' va_kinds' va_firsts' va_seconds' sf_facts' sa_heard' sa_huts' sa_minutes' cf_voices' cf_step' ca_parts' ca_heights' h' s' (lD 16 true a b c td) (lH 16 a b fh) (lS 16 a fs) → post lf_huts' lf_singers' lf_villages' lf_dams' lf_echoes' lf_deep' lf_slide' la_heights' la_ladders' la_minutes' la_echoFrom' la_echoTo' la_homes' la_talls' la_known' vf_deeds' va_kinds' va_firsts' va_seconds' sf_facts' sa_heard' sa_huts' sa_minutes' cf_voices' cf_step' ca_parts' ca_heights' h' s') : q_wr_X4_tell_0 lf_huts lf_singers lf_villages lf_dams lf_echoes lf_deep lf_slide la_heights la_ladders la_minutes la_echoFrom la_echoTo la_homes la_talls la_known vf_deeds va_kinds va_firsts va_seconds sf_facts sa_heard sa_huts sa_minutes cf_voices cf_step ca_parts ca_heights nums h s (nI 16) post := by
  have hL := hD.2.2.1 rfl
  obtain ⟨k, hk, -, hk9, -⟩ := iv_nI hC.1 (by decide)
  have hne : ¬ td 0 = 10 := fun h9 => by
    have := of_decide_eq_false hf
    exact this (by simp [h9])
  have hk8 : k < 10 := Nat.lt_of_le_of_ne (by omega) (fun h9 => hne (by rw [hk, h9]; rfl))
  have e0 : sf_facts = nI k := hL.1.trans hk
  have hin : vp_in sf_facts 10 := by rw [e0]; exact vp_in_nI hk8 (by omega)
  refine ⟨fun _ => ⟨fun _ => ⟨fun h9 => absurd h9 (by decide +kernel), fun _ => ⟨fun h9 => absurd h9 (by decide +kernel), fun _ => ?_⟩⟩, fun h9 => absurd h9 (by decide +kernel)⟩, fun h9 => absurd h9 (by decide +kernel)⟩
  unfold q_wr_X4_tell_98
  rw [c_0, c_1, n0, n1]
  refine ⟨fun h9 => absurd h9 (by rw [e0]; exact nI_ge (b := 10) hk8 (by omega)), fun _ => ⟨hin, fun t1 e1 => ⟨hin, fun t2 e2 => ⟨hin, fun t3 e3 v e4 => ?_⟩⟩⟩⟩
  rw [e0, nI_clamp (by omega)] at e1 e2 e3
  rw [e0, nI_1] at e4
  subst e1 e2 e3 e4
  refine hpo _ _ _ _ _ _ _ _ _ _ _ _ _ _ _ _ _ _ _ _ _ _ _ _ _ _ _ _ _ ?_
  have e : lD 16 true a b c td = upd (upd (upd (upd td 0 (nI (k + 1))) (1 + 3 * k) 1) (2 + 3 * k) a) (3 + 3 * k) b := by
    show (if td 0 = 10 then td else upd (upd (upd (upd td 0 (td 0 + 1)) (Int32.toNatClampNeg ((1 + 3 * td 0) + 0)) 1) (Int32.toNatClampNeg ((1 + 3 * td 0) + 1)) a) (Int32.toNatClampNeg ((1 + 3 * td 0) + 2)) b) = _
    have q0 : Int32.toNatClampNeg ((1 + 3 * td 0) + 0) = 1 + 3 * k := by rw [hk, show (1 : Int32) = nI 1 from rfl, show (3 : Int32) = nI 3 from rfl, show (0 : Int32) = nI 0 from rfl, jx2, nI_clamp (by omega)]; omega
    have q1 : Int32.toNatClampNeg ((1 + 3 * td 0) + 1) = 2 + 3 * k := by rw [hk, show (1 : Int32) = nI 1 from rfl, show (3 : Int32) = nI 3 from rfl, jx2, nI_clamp (by omega)]; omega
    have q2 : Int32.toNatClampNeg ((1 + 3 * td 0) + 2) = 3 + 3 * k := by rw [hk, show (1 : Int32) = nI 1 from rfl, show (3 : Int32) = nI 3 from rfl, show (2 : Int32) = nI 2 from rfl, jx2, nI_clamp (by omega)]; omega
    rw [if_neg hne, q0, q1, q2, hk, nI_1]
  rw [e]
  exact DR2 (R3_add _ _ _ hL hk (by omega))
set_option maxRecDepth 20000 in
theorem e_tell_17 {lf_huts lf_singers lf_villages lf_dams lf_echoes lf_deep lf_slide vf_deeds sf_facts cf_voices cf_step : Int32} {la_heights la_ladders la_minutes la_echoFrom la_echoTo la_homes la_talls la_known va_kinds va_firsts va_seconds sa_heard sa_huts sa_minutes ca_parts ca_heights : Nat → Int32} {nums td : Nat → Int32} {h s fh fs a b c : Int32} {post : (Int32) → (Int32) → (Int32) → (Int32) → (Int32) → (Int32) → (Int32) → (Nat → Int32) → (Nat → Int32) → (Nat → Int32) → (Nat → Int32) → (Nat → Int32) → (Nat → Int32) → (Nat → Int32) → (Nat → Int32) → (Int32) → (Nat → Int32) → (Nat → Int32) → (Nat → Int32) → (Int32) → (Nat → Int32) → (Nat → Int32) → (Nat → Int32) → (Int32) → (Int32) → (Nat → Int32) → (Nat → Int32) → Int32 → Int32 → Prop} (hC : CB 2 td) (hf : fu 17 td = false) (n0 : nums 0 = a) (c0 : cW 17 0 a a = true) (n1 : nums 1 = b) (c1 : cW 17 1 a b = true) (hD : DR 2 lf_huts lf_singers lf_villages lf_dams lf_echoes lf_deep lf_slide la_heights la_ladders la_minutes la_echoFrom la_echoTo la_homes la_talls la_known vf_deeds va_kinds va_firsts va_seconds sf_facts sa_heard sa_huts sa_minutes cf_voices cf_step ca_parts ca_heights h s td fh fs) (hpo : ∀ (lf_huts' : Int32) (lf_singers' : Int32) (lf_villages' : Int32) (lf_dams' : Int32) (lf_echoes' : Int32) (lf_deep' : Int32) (lf_slide' : Int32) (la_heights' : Nat → Int32) (la_ladders' : Nat → Int32) (la_minutes' : Nat → Int32) (la_echoFrom' : Nat → Int32) (la_echoTo' : Nat → Int32) (la_homes' : Nat → Int32) (la_talls' : Nat → Int32) (la_known' : Nat → Int32) (vf_deeds' : Int32) (va_kinds' : Nat → Int32) (va_firsts' : Nat → Int32) (va_seconds' : Nat → Int32) (sf_facts' : Int32) (sa_heard' : Nat → Int32) (sa_huts' : Nat → Int32) (sa_minutes' : Nat → Int32) (cf_voices' : Int32) (cf_step' : Int32) (ca_parts' : Nat → Int32) (ca_heights' : Nat → Int32) (h' s' : Int32), DR 2 lf_huts' lf_singers' lf_villages' lf_dams' lf_echoes' lf_deep' lf_slide' la_heights' la_ladders' la_minutes' la_echoFrom' la_echoTo' la_homes' la_talls' la_known' vf_deeds' va_kinds' va_firsts' va_seconds' sf_facts' sa_heard' sa_huts' sa_minutes' cf_voices' cf_step' ca_parts' ca_heights' h' s' (lD 17 true a b c td) (lH 17 a b fh) (lS 17 a fs) → post lf_huts' lf_singers' lf_villages' lf_dams' lf_echoes' lf_deep' lf_slide' la_heights' la_ladders' la_minutes' la_echoFrom' la_echoTo' la_homes' la_talls' la_known' vf_deeds' va_kinds' va_firsts' va_seconds' sf_facts' sa_heard' sa_huts' sa_minutes' cf_voices' cf_step' ca_parts' ca_heights' h' s') : q_wr_X4_tell_0 lf_huts lf_singers lf_villages lf_dams lf_echoes lf_deep lf_slide la_heights la_ladders la_minutes la_echoFrom la_echoTo la_homes la_talls la_known vf_deeds va_kinds va_firsts va_seconds sf_facts sa_heard sa_huts sa_minutes cf_voices cf_step ca_parts ca_heights nums h s (nI 17) post := by
  have hL := hD.2.2.1 rfl
  obtain ⟨k, hk, -, hk9, -⟩ := iv_nI hC.1 (by decide)
  have hne : ¬ td 0 = 10 := fun h9 => by
    have := of_decide_eq_false hf
    exact this (by simp [h9])
  have hk8 : k < 10 := Nat.lt_of_le_of_ne (by omega) (fun h9 => hne (by rw [hk, h9]; rfl))
  have e0 : sf_facts = nI k := hL.1.trans hk
  have hin : vp_in sf_facts 10 := by rw [e0]; exact vp_in_nI hk8 (by omega)
  refine ⟨fun _ => ⟨fun _ => ⟨fun h9 => absurd h9 (by decide +kernel), fun _ => ⟨fun _ => ?_, fun h9 => absurd h9 (by decide +kernel)⟩⟩, fun h9 => absurd h9 (by decide +kernel)⟩, fun h9 => absurd h9 (by decide +kernel)⟩
  unfold q_wr_X4_tell_98
  rw [c_0, c_1, n0, n1]
  refine ⟨fun h9 => absurd h9 (by rw [e0]; exact nI_ge (b := 10) hk8 (by omega)), fun _ => ⟨hin, fun t1 e1 => ⟨hin, fun t2 e2 => ⟨hin, fun t3 e3 v e4 => ?_⟩⟩⟩⟩
  rw [e0, nI_clamp (by omega)] at e1 e2 e3
  rw [e0, nI_1] at e4
  subst e1 e2 e3 e4
  refine hpo _ _ _ _ _ _ _ _ _ _ _ _ _ _ _ _ _ _ _ _ _ _ _ _ _ _ _ _ _ ?_
  have e : lD 17 true a b c td = upd (upd (upd (upd td 0 (nI (k + 1))) (1 + 3 * k) 0) (2 + 3 * k) a) (3 + 3 * k) b := by
    show (if td 0 = 10 then td else upd (upd (upd (upd td 0 (td 0 + 1)) (Int32.toNatClampNeg ((1 + 3 * td 0) + 0)) 0) (Int32.toNatClampNeg ((1 + 3 * td 0) + 1)) a) (Int32.toNatClampNeg ((1 + 3 * td 0) + 2)) b) = _
    have q0 : Int32.toNatClampNeg ((1 + 3 * td 0) + 0) = 1 + 3 * k := by rw [hk, show (1 : Int32) = nI 1 from rfl, show (3 : Int32) = nI 3 from rfl, show (0 : Int32) = nI 0 from rfl, jx2, nI_clamp (by omega)]; omega
    have q1 : Int32.toNatClampNeg ((1 + 3 * td 0) + 1) = 2 + 3 * k := by rw [hk, show (1 : Int32) = nI 1 from rfl, show (3 : Int32) = nI 3 from rfl, jx2, nI_clamp (by omega)]; omega
    have q2 : Int32.toNatClampNeg ((1 + 3 * td 0) + 2) = 3 + 3 * k := by rw [hk, show (1 : Int32) = nI 1 from rfl, show (3 : Int32) = nI 3 from rfl, show (2 : Int32) = nI 2 from rfl, jx2, nI_clamp (by omega)]; omega
    rw [if_neg hne, q0, q1, q2, hk, nI_1]
  rw [e]
  exact DR2 (R3_add _ _ _ hL hk (by omega))
set_option maxRecDepth 20000 in
theorem e_tell_18 {lf_huts lf_singers lf_villages lf_dams lf_echoes lf_deep lf_slide vf_deeds sf_facts cf_voices cf_step : Int32} {la_heights la_ladders la_minutes la_echoFrom la_echoTo la_homes la_talls la_known va_kinds va_firsts va_seconds sa_heard sa_huts sa_minutes ca_parts ca_heights : Nat → Int32} {nums td : Nat → Int32} {h s fh fs a b c : Int32} {post : (Int32) → (Int32) → (Int32) → (Int32) → (Int32) → (Int32) → (Int32) → (Nat → Int32) → (Nat → Int32) → (Nat → Int32) → (Nat → Int32) → (Nat → Int32) → (Nat → Int32) → (Nat → Int32) → (Nat → Int32) → (Int32) → (Nat → Int32) → (Nat → Int32) → (Nat → Int32) → (Int32) → (Nat → Int32) → (Nat → Int32) → (Nat → Int32) → (Int32) → (Int32) → (Nat → Int32) → (Nat → Int32) → Int32 → Int32 → Prop} (hC : CB 3 td) (hf : fu 18 td = false) (n0 : nums 0 = a) (c0 : cW 18 0 a a = true) (n1 : nums 1 = b) (c1 : cW 18 1 a b = true) (hD : DR 3 lf_huts lf_singers lf_villages lf_dams lf_echoes lf_deep lf_slide la_heights la_ladders la_minutes la_echoFrom la_echoTo la_homes la_talls la_known vf_deeds va_kinds va_firsts va_seconds sf_facts sa_heard sa_huts sa_minutes cf_voices cf_step ca_parts ca_heights h s td fh fs) (hpo : ∀ (lf_huts' : Int32) (lf_singers' : Int32) (lf_villages' : Int32) (lf_dams' : Int32) (lf_echoes' : Int32) (lf_deep' : Int32) (lf_slide' : Int32) (la_heights' : Nat → Int32) (la_ladders' : Nat → Int32) (la_minutes' : Nat → Int32) (la_echoFrom' : Nat → Int32) (la_echoTo' : Nat → Int32) (la_homes' : Nat → Int32) (la_talls' : Nat → Int32) (la_known' : Nat → Int32) (vf_deeds' : Int32) (va_kinds' : Nat → Int32) (va_firsts' : Nat → Int32) (va_seconds' : Nat → Int32) (sf_facts' : Int32) (sa_heard' : Nat → Int32) (sa_huts' : Nat → Int32) (sa_minutes' : Nat → Int32) (cf_voices' : Int32) (cf_step' : Int32) (ca_parts' : Nat → Int32) (ca_heights' : Nat → Int32) (h' s' : Int32), DR 3 lf_huts' lf_singers' lf_villages' lf_dams' lf_echoes' lf_deep' lf_slide' la_heights' la_ladders' la_minutes' la_echoFrom' la_echoTo' la_homes' la_talls' la_known' vf_deeds' va_kinds' va_firsts' va_seconds' sf_facts' sa_heard' sa_huts' sa_minutes' cf_voices' cf_step' ca_parts' ca_heights' h' s' (lD 18 true a b c td) (lH 18 a b fh) (lS 18 a fs) → post lf_huts' lf_singers' lf_villages' lf_dams' lf_echoes' lf_deep' lf_slide' la_heights' la_ladders' la_minutes' la_echoFrom' la_echoTo' la_homes' la_talls' la_known' vf_deeds' va_kinds' va_firsts' va_seconds' sf_facts' sa_heard' sa_huts' sa_minutes' cf_voices' cf_step' ca_parts' ca_heights' h' s') : q_wr_X4_tell_0 lf_huts lf_singers lf_villages lf_dams lf_echoes lf_deep lf_slide la_heights la_ladders la_minutes la_echoFrom la_echoTo la_homes la_talls la_known vf_deeds va_kinds va_firsts va_seconds sf_facts sa_heard sa_huts sa_minutes cf_voices cf_step ca_parts ca_heights nums h s (nI 18) post := by
  have hL := hD.2.2.2 rfl
  obtain ⟨k, hk, -, hk9, -⟩ := iv_nI hC.1 (by decide)
  have hne : ¬ td 0 = 9 := fun h9 => by
    have := of_decide_eq_false hf
    exact this (by simp [h9])
  have hk8 : k < 9 := Nat.lt_of_le_of_ne (by omega) (fun h9 => hne (by rw [hk, h9]; rfl))
  have e0 : cf_voices = nI k := hL.1.trans hk
  have hin : vp_in cf_voices 9 := by rw [e0]; exact vp_in_nI hk8 (by omega)
  refine ⟨fun _ => ⟨fun _ => ⟨fun _ => ⟨fun h9 => absurd h9 (by decide +kernel), fun _ => ?_⟩, fun h9 => absurd h9 (by decide +kernel)⟩, fun h9 => absurd h9 (by decide +kernel)⟩, fun h9 => absurd h9 (by decide +kernel)⟩
  rw [c_0, c_1, n0, n1]
  refine ⟨fun h9 => absurd h9 (by rw [e0]; exact nI_ge (b := 9) hk8 (by omega)), fun _ => ⟨hin, fun t1 e1 => ⟨hin, fun t2 e2 v e4 => ?_⟩⟩⟩
  rw [e0, nI_clamp (by omega)] at e1 e2
  rw [e0, nI_1] at e4
  subst e1 e2 e4
  refine hpo _ _ _ _ _ _ _ _ _ _ _ _ _ _ _ _ _ _ _ _ _ _ _ _ _ _ _ _ _ ?_
  have e : lD 18 true a b c td = upd (upd (upd td 0 (nI (k + 1))) (1 + 2 * k) a) (2 + 2 * k) b := by
    show (if td 0 = 9 then td else upd (upd (upd td 0 (td 0 + 1)) (Int32.toNatClampNeg ((1 + 2 * td 0) + 0)) a) (Int32.toNatClampNeg ((1 + 2 * td 0) + 1)) b) = _
    have q0 : Int32.toNatClampNeg ((1 + 2 * td 0) + 0) = 1 + 2 * k := by rw [hk, show (1 : Int32) = nI 1 from rfl, show (2 : Int32) = nI 2 from rfl, show (0 : Int32) = nI 0 from rfl, jx2, nI_clamp (by omega)]; omega
    have q1 : Int32.toNatClampNeg ((1 + 2 * td 0) + 1) = 2 + 2 * k := by rw [hk, show (1 : Int32) = nI 1 from rfl, show (2 : Int32) = nI 2 from rfl, jx2, nI_clamp (by omega)]; omega
    rw [if_neg hne, q0, q1, hk, nI_1]
  rw [e]
  exact DR3 (CDR_add _ _ hL hk hk8)
set_option maxRecDepth 20000 in
theorem e_tell_19 {lf_huts lf_singers lf_villages lf_dams lf_echoes lf_deep lf_slide vf_deeds sf_facts cf_voices cf_step : Int32} {la_heights la_ladders la_minutes la_echoFrom la_echoTo la_homes la_talls la_known va_kinds va_firsts va_seconds sa_heard sa_huts sa_minutes ca_parts ca_heights : Nat → Int32} {nums td : Nat → Int32} {h s fh fs a b c : Int32} {post : (Int32) → (Int32) → (Int32) → (Int32) → (Int32) → (Int32) → (Int32) → (Nat → Int32) → (Nat → Int32) → (Nat → Int32) → (Nat → Int32) → (Nat → Int32) → (Nat → Int32) → (Nat → Int32) → (Nat → Int32) → (Int32) → (Nat → Int32) → (Nat → Int32) → (Nat → Int32) → (Int32) → (Nat → Int32) → (Nat → Int32) → (Nat → Int32) → (Int32) → (Int32) → (Nat → Int32) → (Nat → Int32) → Int32 → Int32 → Prop} (hC : CB 3 td) (hf : fu 19 td = false) (n0 : nums 0 = a) (c0 : cW 19 0 a a = true) (hD : DR 3 lf_huts lf_singers lf_villages lf_dams lf_echoes lf_deep lf_slide la_heights la_ladders la_minutes la_echoFrom la_echoTo la_homes la_talls la_known vf_deeds va_kinds va_firsts va_seconds sf_facts sa_heard sa_huts sa_minutes cf_voices cf_step ca_parts ca_heights h s td fh fs) (hpo : ∀ (lf_huts' : Int32) (lf_singers' : Int32) (lf_villages' : Int32) (lf_dams' : Int32) (lf_echoes' : Int32) (lf_deep' : Int32) (lf_slide' : Int32) (la_heights' : Nat → Int32) (la_ladders' : Nat → Int32) (la_minutes' : Nat → Int32) (la_echoFrom' : Nat → Int32) (la_echoTo' : Nat → Int32) (la_homes' : Nat → Int32) (la_talls' : Nat → Int32) (la_known' : Nat → Int32) (vf_deeds' : Int32) (va_kinds' : Nat → Int32) (va_firsts' : Nat → Int32) (va_seconds' : Nat → Int32) (sf_facts' : Int32) (sa_heard' : Nat → Int32) (sa_huts' : Nat → Int32) (sa_minutes' : Nat → Int32) (cf_voices' : Int32) (cf_step' : Int32) (ca_parts' : Nat → Int32) (ca_heights' : Nat → Int32) (h' s' : Int32), DR 3 lf_huts' lf_singers' lf_villages' lf_dams' lf_echoes' lf_deep' lf_slide' la_heights' la_ladders' la_minutes' la_echoFrom' la_echoTo' la_homes' la_talls' la_known' vf_deeds' va_kinds' va_firsts' va_seconds' sf_facts' sa_heard' sa_huts' sa_minutes' cf_voices' cf_step' ca_parts' ca_heights' h' s' (lD 19 true a b c td) (lH 19 a b fh) (lS 19 a fs) → post lf_huts' lf_singers' lf_villages' lf_dams' lf_echoes' lf_deep' lf_slide' la_heights' la_ladders' la_minutes' la_echoFrom' la_echoTo' la_homes' la_talls' la_known' vf_deeds' va_kinds' va_firsts' va_seconds' sf_facts' sa_heard' sa_huts' sa_minutes' cf_voices' cf_step' ca_parts' ca_heights' h' s') : q_wr_X4_tell_0 lf_huts lf_singers lf_villages lf_dams lf_echoes lf_deep lf_slide la_heights la_ladders la_minutes la_echoFrom la_echoTo la_homes la_talls la_known vf_deeds va_kinds va_firsts va_seconds sf_facts sa_heard sa_huts sa_minutes cf_voices cf_step ca_parts ca_heights nums h s (nI 19) post := by
  have hL := hD.2.2.2 rfl
  refine ⟨fun _ => ⟨fun _ => ⟨fun _ => ⟨fun _ v e => ?_, fun h9 => absurd h9 (by decide +kernel)⟩, fun h9 => absurd h9 (by decide +kernel)⟩, fun h9 => absurd h9 (by decide +kernel)⟩, fun h9 => absurd h9 (by decide +kernel)⟩
  rw [c_0, n0] at e
  subst e
  refine hpo _ _ _ _ _ _ _ _ _ _ _ _ _ _ _ _ _ _ _ _ _ _ _ _ _ _ _ _ _ ?_
  exact DR3 (CDR_step _ hL (iv_cb hC.1 rfl))
