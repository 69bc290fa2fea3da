section
def DR (o : Nat) (lf_huts : Int32) (lf_singers : Int32) (lf_villages : Int32) (lf_dams : Int32) (lf_echoes : Int32) (lf_deep : Int32) (lf_slide : Int32) (la_heights : Nat → Int32) (la_ladders : Nat → Int32) (la_minutes : Nat → Int32) (la_echoFrom : Nat → Int32) (la_echoTo : Nat → Int32) (la_homes : Nat → Int32) (la_talls : Nat → Int32) (la_known : Nat → Int32) (vf_deeds : Int32) (va_kinds : Nat → Int32) (va_firsts : Nat → Int32) (va_seconds : Nat → Int32) (sf_facts : Int32) (sa_heard : Nat → Int32) (sa_huts : Nat → Int32) (sa_minutes : Nat → Int32) (cf_voices : Int32) (cf_step : Int32) (ca_parts : Nat → Int32) (ca_heights : Nat → Int32) (h s : Int32) (td : Nat → Int32) (fh fs : Int32) : Prop := (o = 0 → LDR lf_huts lf_singers lf_villages lf_dams lf_echoes lf_deep lf_slide la_heights la_ladders la_minutes la_echoFrom la_echoTo la_homes la_talls la_known td ∧ HB h fh ∧ HB s fs) ∧ (o = 1 → R3 vf_deeds va_kinds va_firsts va_seconds td) ∧ (o = 2 → R3 sf_facts sa_heard sa_huts sa_minutes td) ∧ (o = 3 → CDR cf_voices cf_step ca_parts ca_heights td)
theorem DR0 {lf_huts lf_singers lf_villages lf_dams lf_echoes lf_deep lf_slide vf_deeds sf_facts cf_voices cf_step : Int32} {la_heights la_ladders la_minutes la_echoFrom la_echoTo la_homes la_talls la_known va_kinds va_firsts va_seconds sa_heard sa_huts sa_minutes ca_parts ca_heights : Nat → Int32} {h s fh fs : Int32} {td : Nat → Int32} (hl : LDR lf_huts lf_singers lf_villages lf_dams lf_echoes lf_deep lf_slide la_heights la_ladders la_minutes la_echoFrom la_echoTo la_homes la_talls la_known td) (hh : HB h fh) (hs : HB s fs) : DR 0 lf_huts lf_singers lf_villages lf_dams lf_echoes lf_deep lf_slide la_heights la_ladders la_minutes la_echoFrom la_echoTo la_homes la_talls la_known vf_deeds va_kinds va_firsts va_seconds sf_facts sa_heard sa_huts sa_minutes cf_voices cf_step ca_parts ca_heights h s td fh fs := ⟨fun _ => ⟨hl, hh, hs⟩, fun h => absurd h (by decide), fun h => absurd h (by decide), fun h => absurd h (by decide)⟩
theorem DR1 {lf_huts lf_singers lf_villages lf_dams lf_echoes lf_deep lf_slide vf_deeds sf_facts cf_voices cf_step : Int32} {la_heights la_ladders la_minutes la_echoFrom la_echoTo la_homes la_talls la_known va_kinds va_firsts va_seconds sa_heard sa_huts sa_minutes ca_parts ca_heights : Nat → Int32} {h s fh fs : Int32} {td : Nat → Int32} (hl : R3 vf_deeds va_kinds va_firsts va_seconds td) : DR 1 lf_huts lf_singers lf_villages lf_dams lf_echoes lf_deep lf_slide la_heights la_ladders la_minutes la_echoFrom la_echoTo la_homes la_talls la_known vf_deeds va_kinds va_firsts va_seconds sf_facts sa_heard sa_huts sa_minutes cf_voices cf_step ca_parts ca_heights h s td fh fs := ⟨fun h => absurd h (by decide), fun _ => hl, fun h => absurd h (by decide), fun h => absurd h (by decide)⟩
theorem DR2 {lf_huts lf_singers lf_villages lf_dams lf_echoes lf_deep lf_slide vf_deeds sf_facts cf_voices cf_step : Int32} {la_heights la_ladders la_minutes la_echoFrom la_echoTo la_homes la_talls la_known va_kinds va_firsts va_seconds sa_heard sa_huts sa_minutes ca_parts ca_heights : Nat → Int32} {h s fh fs : Int32} {td : Nat → Int32} (hl : R3 sf_facts sa_heard sa_huts sa_minutes td) : DR 2 lf_huts lf_singers lf_villages lf_dams lf_echoes lf_deep lf_slide la_heights la_ladders la_minutes la_echoFrom la_echoTo la_homes la_talls la_known vf_deeds va_kinds va_firsts va_seconds sf_facts sa_heard sa_huts sa_minutes cf_voices cf_step ca_parts ca_heights h s td fh fs := ⟨fun h => absurd h (by decide), fun h => absurd h (by decide), fun _ => hl, fun h => absurd h (by decide)⟩
theorem DR3 {lf_huts lf_singers lf_villages lf_dams lf_echoes lf_deep lf_slide vf_deeds sf_facts cf_voices cf_step : Int32} {la_heights la_ladders la_minutes la_echoFrom la_echoTo la_homes la_talls la_known va_kinds va_firsts va_seconds sa_heard sa_huts sa_minutes ca_parts ca_heights : Nat → Int32} {h s fh fs : Int32} {td : Nat → Int32} (hl : CDR cf_voices cf_step ca_parts ca_heights td) : DR 3 lf_huts lf_singers lf_villages lf_dams lf_echoes lf_deep lf_slide la_heights la_ladders la_minutes la_echoFrom la_echoTo la_homes la_talls la_known vf_deeds va_kinds va_firsts va_seconds sf_facts sa_heard sa_huts sa_minutes cf_voices cf_step ca_parts ca_heights h s td fh fs := ⟨fun h => absurd h (by decide), fun h => absurd h (by decide), fun h => absurd h (by decide), fun _ => hl⟩
theorem iv_cb {x : Int32} {h : Int} {m : Nat} (hx : iv 0 h x) (hm : h = m) : x.toNatClampNeg ≤ m := by
  have e : x.toNatClampNeg = x.toInt.toNat := rfl
  have := hx.2
  omega
theorem CB_n {td : Nat → Int32} (h : CB 0 td) : (td 0).toNatClampNeg ≤ 9 ∧ (td 1).toNatClampNeg ≤ 6 ∧ (td 4).toNatClampNeg ≤ 4 := ⟨iv_cb h.1 rfl, iv_cb (h.2 rfl).1 rfl, iv_cb (h.2 rfl).2 rfl⟩
theorem LDR_villages {huts singers villages dams echoes deep slide : Int32} {heights ladders minutes echoFrom echoTo homes talls known td : Nat → Int32} (v : Int32) (h : LDR huts singers villages dams echoes deep slide heights ladders minutes echoFrom echoTo homes talls known td) (b0 : (td 0).toNatClampNeg ≤ 9) (b1 : (td 1).toNatClampNeg ≤ 6) (b4 : (td 4).toNatClampNeg ≤ 4) : LDR huts singers (v) dams echoes deep slide heights ladders minutes echoFrom echoTo homes talls known (upd td 2 v) := by
  obtain ⟨e_huts, e_singers, e_villages, e_dams, e_echoes, e_deep, e_slide, e_heights, e_ladders, e_minutes, e_echo, e_home, e_known⟩ := h
  refine ⟨?_, ?_, ?_, ?_, ?_, ?_, ?_, ?_, ?_, ?_, ?_, ?_, ?_⟩
  · rw [up_n (by omega)]; exact e_huts
  · rw [up_n (by omega)]; exact e_singers
  · rw [up_s]
  · rw [up_n (by omega)]; exact e_dams
  · rw [up_n (by omega)]; exact e_echoes
  · rw [up_n (by omega)]; exact e_deep
  · rw [up_n (by omega)]; exact e_slide
  · intro j hj
    rw [up_n (by omega)] at hj
    rw [up_n (by omega)]
    exact e_heights j hj
  · intro j hj
    rw [up_n (by omega)]
    exact e_ladders j hj
  · intro j hj
    rw [up_n (by omega)]
    exact e_minutes j hj
  · intro j hj
    rw [up_n (by omega)] at hj
    rw [up_n (by omega), up_n (by omega)]
    exact e_echo j hj
  · intro j hj
    rw [up_n (by omega)] at hj
    rw [up_n (by omega), up_n (by omega)]
    exact e_home j hj
  · intro j hj
    rw [up_n (by omega)]
    exact e_known j hj
theorem LDR_dams {huts singers villages dams echoes deep slide : Int32} {heights ladders minutes echoFrom echoTo homes talls known td : Nat → Int32} (v : Int32) (h : LDR huts singers villages dams echoes deep slide heights ladders minutes echoFrom echoTo homes talls known td) (b0 : (td 0).toNatClampNeg ≤ 9) (b1 : (td 1).toNatClampNeg ≤ 6) (b4 : (td 4).toNatClampNeg ≤ 4) : LDR huts singers villages (v) echoes deep slide heights ladders minutes echoFrom echoTo homes talls known (upd td 3 v) := by
  obtain ⟨e_huts, e_singers, e_villages, e_dams, e_echoes, e_deep, e_slide, e_heights, e_ladders, e_minutes, e_echo, e_home, e_known⟩ := h
  refine ⟨?_, ?_, ?_, ?_, ?_, ?_, ?_, ?_, ?_, ?_, ?_, ?_, ?_⟩
  · rw [up_n (by omega)]; exact e_huts
  · rw [up_n (by omega)]; exact e_singers
  · rw [up_n (by omega)]; exact e_villages
  · rw [up_s]
  · rw [up_n (by omega)]; exact e_echoes
  · rw [up_n (by omega)]; exact e_deep
  · rw [up_n (by omega)]; exact e_slide
  · intro j hj
    rw [up_n (by omega)] at hj
    rw [up_n (by omega)]
    exact e_heights j hj
  · intro j hj
    rw [up_n (by omega)]
    exact e_ladders j hj
  · intro j hj
    rw [up_n (by omega)]
    exact e_minutes j hj
  · intro j hj
    rw [up_n (by omega)] at hj
    rw [up_n (by omega), up_n (by omega)]
    exact e_echo j hj
  · intro j hj
    rw [up_n (by omega)] at hj
    rw [up_n (by omega), up_n (by omega)]
    exact e_home j hj
  · intro j hj
    rw [up_n (by omega)]
    exact e_known j hj
theorem LDR_deep {huts singers villages dams echoes deep slide : Int32} {heights ladders minutes echoFrom echoTo homes talls known td : Nat → Int32} (v : Int32) (h : LDR huts singers villages dams echoes deep slide heights ladders minutes echoFrom echoTo homes talls known td) (b0 : (td 0).toNatClampNeg ≤ 9) (b1 : (td 1).toNatClampNeg ≤ 6) (b4 : (td 4).toNatClampNeg ≤ 4) : LDR huts singers villages dams echoes (v) slide heights ladders minutes echoFrom echoTo homes talls known (upd td 5 v) := by
  obtain ⟨e_huts, e_singers, e_villages, e_dams, e_echoes, e_deep, e_slide, e_heights, e_ladders, e_minutes, e_echo, e_home, e_known⟩ := h
  refine ⟨?_, ?_, ?_, ?_, ?_, ?_, ?_, ?_, ?_, ?_, ?_, ?_, ?_⟩
  · rw [up_n (by omega)]; exact e_huts
  · rw [up_n (by omega)]; exact e_singers
  · rw [up_n (by omega)]; exact e_villages
  · rw [up_n (by omega)]; exact e_dams
  · rw [up_n (by omega)]; exact e_echoes
  · rw [up_s]
  · rw [up_n (by omega)]; exact e_slide
  · intro j hj
    rw [up_n (by omega)] at hj
    rw [up_n (by omega)]
    exact e_heights j hj
  · intro j hj
    rw [up_n (by omega)]
    exact e_ladders j hj
  · intro j hj
    rw [up_n (by omega)]
    exact e_minutes j hj
  · intro j hj
    rw [up_n (by omega)] at hj
    rw [up_n (by omega), up_n (by omega)]
    exact e_echo j hj
  · intro j hj
    rw [up_n (by omega)] at hj
    rw [up_n (by omega), up_n (by omega)]
    exact e_home j hj
  · intro j hj
    rw [up_n (by omega)]
    exact e_known j hj
theorem LDR_slide {huts singers villages dams echoes deep slide : Int32} {heights ladders minutes echoFrom echoTo homes talls known td : Nat → Int32} (v : Int32) (h : LDR huts singers villages dams echoes deep slide heights ladders minutes echoFrom echoTo homes talls known td) (b0 : (td 0).toNatClampNeg ≤ 9) (b1 : (td 1).toNatClampNeg ≤ 6) (b4 : (td 4).toNatClampNeg ≤ 4) : LDR huts singers villages dams echoes deep (v) heights ladders minutes echoFrom echoTo homes talls known (upd td 6 v) := by
  obtain ⟨e_huts, e_singers, e_villages, e_dams, e_echoes, e_deep, e_slide, e_heights, e_ladders, e_minutes, e_echo, e_home, e_known⟩ := h
  refine ⟨?_, ?_, ?_, ?_, ?_, ?_, ?_, ?_, ?_, ?_, ?_, ?_, ?_⟩
  · rw [up_n (by omega)]; exact e_huts
  · rw [up_n (by omega)]; exact e_singers
  · rw [up_n (by omega)]; exact e_villages
  · rw [up_n (by omega)]; exact e_dams
  · rw [up_n (by omega)]; exact e_echoes
  · rw [up_n (by omega)]; exact e_deep
  · rw [up_s]
  · intro j hj
    rw [up_n (by omega)] at hj
    rw [up_n (by omega)]
    exact e_heights j hj
  · intro j hj
    rw [up_n (by omega)]
    exact e_ladders j hj
  · intro j hj
    rw [up_n (by omega)]
    exact e_minutes j hj
  · intro j hj
    rw [up_n (by omega)] at hj
    rw [up_n (by omega), up_n (by omega)]
    exact e_echo j hj
  · intro j hj
    rw [up_n (by omega)] at hj
    rw [up_n (by omega), up_n (by omega)]
    exact e_home j hj
  · intro j hj
    rw [up_n (by omega)]
    exact e_known j hj
theorem LDR_hut {huts singers villages dams echoes deep slide : Int32} {heights ladders minutes echoFrom echoTo homes talls known td : Nat → Int32} {k : Nat} (v : Int32) (hk : td 0 = nI k) (hk9 : k < 9) (h : LDR huts singers villages dams echoes deep slide heights ladders minutes echoFrom echoTo homes talls known td) (b0 : (td 0).toNatClampNeg ≤ 9) (b1 : (td 1).toNatClampNeg ≤ 6) (b4 : (td 4).toNatClampNeg ≤ 4) : LDR (nI (k + 1)) singers villages dams echoes deep slide (upd heights k v) ladders minutes echoFrom echoTo homes talls known (upd (upd td 0 (nI (k + 1))) (7 + k) v) := by
  obtain ⟨e_huts, e_singers, e_villages, e_dams, e_echoes, e_deep, e_slide, e_heights, e_ladders, e_minutes, e_echo, e_home, e_known⟩ := h
  refine ⟨?_, ?_, ?_, ?_, ?_, ?_, ?_, ?_, ?_, ?_, ?_, ?_, ?_⟩
  · rw [up_n (by omega), up_s]
  · rw [up_n (by omega), up_n (by omega)]; exact e_singers
  · rw [up_n (by omega), up_n (by omega)]; exact e_villages
  · rw [up_n (by omega), up_n (by omega)]; exact e_dams
  · rw [up_n (by omega), up_n (by omega)]; exact e_echoes
  · rw [up_n (by omega), up_n (by omega)]; exact e_deep
  · rw [up_n (by omega), up_n (by omega)]; exact e_slide
  · intro j hj
    rw [up_n (by omega), up_s, nI_clamp (by omega)] at hj
    by_cases hjk : j = k
    · subst hjk; rw [up_s, up_s]
    · rw [up_n hjk, up_n (by omega), up_n (by omega)]
      exact e_heights j (by rw [hk, nI_clamp (by omega)]; omega)
  · intro j hj
    rw [up_n (by omega), up_n (by omega)]
    exact e_ladders j hj
  · intro j hj
    rw [up_n (by omega), up_n (by omega)]
    exact e_minutes j hj
  · intro j hj
    rw [up_n (by omega), up_n (by omega)] at hj
    rw [up_n (by omega), up_n (by omega), up_n (by omega), up_n (by omega)]
    exact e_echo j hj
  · intro j hj
    rw [up_n (by omega), up_n (by omega)] at hj
    rw [up_n (by omega), up_n (by omega), up_n (by omega), up_n (by omega)]
    exact e_home j hj
  · intro j hj
    rw [up_n (by omega), up_n (by omega)]
    exact e_known j hj
theorem LDR_lad {huts singers villages dams echoes deep slide : Int32} {heights ladders minutes echoFrom echoTo homes talls known td : Nat → Int32} {i : Nat} (v : Int32) (hi : i < 9) (h : LDR huts singers villages dams echoes deep slide heights ladders minutes echoFrom echoTo homes talls known td) (b0 : (td 0).toNatClampNeg ≤ 9) (b1 : (td 1).toNatClampNeg ≤ 6) (b4 : (td 4).toNatClampNeg ≤ 4) : LDR huts singers villages dams echoes deep slide heights (upd ladders i v) minutes echoFrom echoTo homes talls known (upd td (16 + i) v) := by
  obtain ⟨e_huts, e_singers, e_villages, e_dams, e_echoes, e_deep, e_slide, e_heights, e_ladders, e_minutes, e_echo, e_home, e_known⟩ := h
  refine ⟨?_, ?_, ?_, ?_, ?_, ?_, ?_, ?_, ?_, ?_, ?_, ?_, ?_⟩
  · rw [up_n (by omega)]; exact e_huts
  · rw [up_n (by omega)]; exact e_singers
  · rw [up_n (by omega)]; exact e_villages
  · rw [up_n (by omega)]; exact e_dams
  · rw [up_n (by omega)]; exact e_echoes
  · rw [up_n (by omega)]; exact e_deep
  · rw [up_n (by omega)]; exact e_slide
  · intro j hj
    rw [up_n (by omega)] at hj
    rw [up_n (by omega)]
    exact e_heights j hj
  · intro j hj
    by_cases hji : j = i
    · subst hji; rw [up_s, up_s]
    · rw [up_n hji, up_n (by omega)]
      exact e_ladders j hj
  · intro j hj
    rw [up_n (by omega)]
    exact e_minutes j hj
  · intro j hj
    rw [up_n (by omega)] at hj
    rw [up_n (by omega), up_n (by omega)]
    exact e_echo j hj
  · intro j hj
    rw [up_n (by omega)] at hj
    rw [up_n (by omega), up_n (by omega)]
    exact e_home j hj
  · intro j hj
    rw [up_n (by omega)]
    exact e_known j hj
theorem LDR_way {huts singers villages dams echoes deep slide : Int32} {heights ladders minutes echoFrom echoTo homes talls known td : Nat → Int32} {i : Nat} (v : Int32) (hi : i < 81) (h : LDR huts singers villages dams echoes deep slide heights ladders minutes echoFrom echoTo homes talls known td) (b0 : (td 0).toNatClampNeg ≤ 9) (b1 : (td 1).toNatClampNeg ≤ 6) (b4 : (td 4).toNatClampNeg ≤ 4) : LDR huts singers villages dams echoes deep slide heights ladders (upd minutes i v) echoFrom echoTo homes talls known (upd td (51 + i) v) := by
  obtain ⟨e_huts, e_singers, e_villages, e_dams, e_echoes, e_deep, e_slide, e_heights, e_ladders, e_minutes, e_echo, e_home, e_known⟩ := h
  refine ⟨?_, ?_, ?_, ?_, ?_, ?_, ?_, ?_, ?_, ?_, ?_, ?_, ?_⟩
  · rw [up_n (by omega)]; exact e_huts
  · rw [up_n (by omega)]; exact e_singers
  · rw [up_n (by omega)]; exact e_villages
  · rw [up_n (by omega)]; exact e_dams
  · rw [up_n (by omega)]; exact e_echoes
  · rw [up_n (by omega)]; exact e_deep
  · rw [up_n (by omega)]; exact e_slide
  · intro j hj
    rw [up_n (by omega)] at hj
    rw [up_n (by omega)]
    exact e_heights j hj
  · intro j hj
    rw [up_n (by omega)]
    exact e_ladders j hj
  · intro j hj
    by_cases hji : j = i
    · subst hji; rw [up_s, up_s]
    · rw [up_n hji, up_n (by omega)]
      exact e_minutes j hj
  · intro j hj
    rw [up_n (by omega)] at hj
    rw [up_n (by omega), up_n (by omega)]
    exact e_echo j hj
  · intro j hj
    rw [up_n (by omega)] at hj
    rw [up_n (by omega), up_n (by omega)]
    exact e_home j hj
  · intro j hj
    rw [up_n (by omega)]
    exact e_known j hj
theorem LDR_kno {huts singers villages dams echoes deep slide : Int32} {heights ladders minutes echoFrom echoTo homes talls known td : Nat → Int32} {i : Nat} (v : Int32) (hi : i < 6) (h : LDR huts singers villages dams echoes deep slide heights ladders minutes echoFrom echoTo homes talls known td) (b0 : (td 0).toNatClampNeg ≤ 9) (b1 : (td 1).toNatClampNeg ≤ 6) (b4 : (td 4).toNatClampNeg ≤ 4) : LDR huts singers villages dams echoes deep slide heights ladders minutes echoFrom echoTo homes talls (upd known i v) (upd td (37 + i) v) := by
  obtain ⟨e_huts, e_singers, e_villages, e_dams, e_echoes, e_deep, e_slide, e_heights, e_ladders, e_minutes, e_echo, e_home, e_known⟩ := h
  refine ⟨?_, ?_, ?_, ?_, ?_, ?_, ?_, ?_, ?_, ?_, ?_, ?_, ?_⟩
  · rw [up_n (by omega)]; exact e_huts
  · rw [up_n (by omega)]; exact e_singers
  · rw [up_n (by omega)]; exact e_villages
  · rw [up_n (by omega)]; exact e_dams
  · rw [up_n (by omega)]; exact e_echoes
  · rw [up_n (by omega)]; exact e_deep
  · rw [up_n (by omega)]; exact e_slide
  · intro j hj
    rw [up_n (by omega)] at hj
    rw [up_n (by omega)]
    exact e_heights j hj
  · intro j hj
    rw [up_n (by omega)]
    exact e_ladders j hj
  · intro j hj
    rw [up_n (by omega)]
    exact e_minutes j hj
  · intro j hj
    rw [up_n (by omega)] at hj
    rw [up_n (by omega), up_n (by omega)]
    exact e_echo j hj
  · intro j hj
    rw [up_n (by omega)] at hj
    rw [up_n (by omega), up_n (by omega)]
    exact e_home j hj
  · intro j hj
    by_cases hji : j = i
    · subst hji; rw [up_s, up_s]
    · rw [up_n hji, up_n (by omega)]
      exact e_known j hj
theorem LDR_ech {huts singers villages dams echoes deep slide : Int32} {heights ladders minutes echoFrom echoTo homes talls known td : Nat → Int32} {k : Nat} (v w : Int32) (hk : td 4 = nI k) (hk9 : k < 4) (h : LDR huts singers villages dams echoes deep slide heights ladders minutes echoFrom echoTo homes talls known td) (b0 : (td 0).toNatClampNeg ≤ 9) (b1 : (td 1).toNatClampNeg ≤ 6) (b4 : (td 4).toNatClampNeg ≤ 4) : LDR huts singers villages dams (nI (k + 1)) deep slide heights ladders minutes (upd echoFrom k v) (upd echoTo k w) homes talls known (upd (upd (upd td 4 (nI (k + 1))) (43 + 2 * k) v) (44 + 2 * k) w) := by
  obtain ⟨e_huts, e_singers, e_villages, e_dams, e_echoes, e_deep, e_slide, e_heights, e_ladders, e_minutes, e_echo, e_home, e_known⟩ := h
  refine ⟨?_, ?_, ?_, ?_, ?_, ?_, ?_, ?_, ?_, ?_, ?_, ?_, ?_⟩
  · rw [up_n (by omega), up_n (by omega), up_n (by omega)]; exact e_huts
  · rw [up_n (by omega), up_n (by omega), up_n (by omega)]; exact e_singers
  · rw [up_n (by omega), up_n (by omega), up_n (by omega)]; exact e_villages
  · rw [up_n (by omega), up_n (by omega), up_n (by omega)]; exact e_dams
  · rw [up_n (by omega), up_n (by omega), up_s]
  · rw [up_n (by omega), up_n (by omega), up_n (by omega)]; exact e_deep
  · rw [up_n (by omega), up_n (by omega), up_n (by omega)]; exact e_slide
  · intro j hj
    rw [up_n (by omega), up_n (by omega), up_n (by omega)] at hj
    rw [up_n (by omega), up_n (by omega), up_n (by omega)]
    exact e_heights j hj
  · intro j hj
    rw [up_n (by omega), up_n (by omega), up_n (by omega)]
    exact e_ladders j hj
  · intro j hj
    rw [up_n (by omega), up_n (by omega), up_n (by omega)]
    exact e_minutes j hj
  · intro j hj
    rw [up_n (by omega), up_n (by omega), up_s, nI_clamp (by omega)] at hj
    by_cases hjk : j = k
    · subst hjk
      refine ⟨?_, ?_⟩
      · rw [up_s, up_n (by omega), up_s]
      · rw [up_s, up_s]
    · rw [up_n hjk, up_n hjk, up_n (by omega), up_n (by omega), up_n (by omega), up_n (by omega), up_n (by omega), up_n (by omega)]
      exact e_echo j (by rw [hk, nI_clamp (by omega)]; omega)
  · intro j hj
    rw [up_n (by omega), up_n (by omega), up_n (by omega)] at hj
    rw [up_n (by omega), up_n (by omega), up_n (by omega), up_n (by omega), up_n (by omega), up_n (by omega)]
    exact e_home j hj
  · intro j hj
    rw [up_n (by omega), up_n (by omega), up_n (by omega)]
    exact e_known j hj
theorem LDR_sin {huts singers villages dams echoes deep slide : Int32} {heights ladders minutes echoFrom echoTo homes talls known td : Nat → Int32} {k : Nat} (v w : Int32) (hk : td 1 = nI k) (hk9 : k < 6) (h : LDR huts singers villages dams echoes deep slide heights ladders minutes echoFrom echoTo homes talls known td) (b0 : (td 0).toNatClampNeg ≤ 9) (b1 : (td 1).toNatClampNeg ≤ 6) (b4 : (td 4).toNatClampNeg ≤ 4) : LDR huts (nI (k + 1)) villages dams echoes deep slide heights ladders minutes echoFrom echoTo (upd homes k v) (upd talls k w) known (upd (upd (upd td 1 (nI (k + 1))) (25 + k) v) (31 + k) w) := by
  obtain ⟨e_huts, e_singers, e_villages, e_dams, e_echoes, e_deep, e_slide, e_heights, e_ladders, e_minutes, e_echo, e_home, e_known⟩ := h
  refine ⟨?_, ?_, ?_, ?_, ?_, ?_, ?_, ?_, ?_, ?_, ?_, ?_, ?_⟩
  · rw [up_n (by omega), up_n (by omega), up_n (by omega)]; exact e_huts
  · rw [up_n (by omega), up_n (by omega), up_s]
  · rw [up_n (by omega), up_n (by omega), up_n (by omega)]; exact e_villages
  · rw [up_n (by omega), up_n (by omega), up_n (by omega)]; exact e_dams
  · rw [up_n (by omega), up_n (by omega), up_n (by omega)]; exact e_echoes
  · rw [up_n (by omega), up_n (by omega), up_n (by omega)]; exact e_deep
  · rw [up_n (by omega), up_n (by omega), up_n (by omega)]; exact e_slide
  · intro j hj
    rw [up_n (by omega), up_n (by omega), up_n (by omega)] at hj
    rw [up_n (by omega), up_n (by omega), up_n (by omega)]
    exact e_heights j hj
  · intro j hj
    rw [up_n (by omega), up_n (by omega), up_n (by omega)]
    exact e_ladders j hj
  · intro j hj
    rw [up_n (by omega), up_n (by omega), up_n (by omega)]
    exact e_minutes j hj
  · intro j hj
    rw [up_n (by omega), up_n (by omega), up_n (by omega)] at hj
    rw [up_n (by omega), up_n (by omega), up_n (by omega), up_n (by omega), up_n (by omega), up_n (by omega)]
    exact e_echo j hj
  · intro j hj
    rw [up_n (by omega), up_n (by omega), up_s, nI_clamp (by omega)] at hj
    by_cases hjk : j = k
    · subst hjk
      refine ⟨?_, ?_⟩
      · rw [up_s, up_n (by omega), up_s]
      · rw [up_s, up_s]
    · rw [up_n hjk, up_n hjk, up_n (by omega), up_n (by omega), up_n (by omega), up_n (by omega), up_n (by omega), up_n (by omega)]
      exact e_home j (by rw [hk, nI_clamp (by omega)]; omega)
  · intro j hj
    rw [up_n (by omega), up_n (by omega), up_n (by omega)]
    exact e_known j hj
theorem R3_add {c : Int32} {a b d td : Nat → Int32} {k : Nat} (x y z : Int32) (h : R3 c a b d td) (hk : td 0 = nI k) (hk9 : k < 41) : R3 (nI (k + 1)) (upd a k x) (upd b k y) (upd d k z) (upd (upd (upd (upd td 0 (nI (k + 1))) (1 + 3 * k) x) (2 + 3 * k) y) (3 + 3 * k) z) := by
  refine ⟨by rw [up_n (by omega), up_n (by omega), up_n (by omega), up_s], fun j hj => ?_⟩
  rw [up_n (by omega), up_n (by omega), up_n (by omega), up_s, nI_clamp (by omega)] at hj
  by_cases hjk : j = k
  · subst hjk
    refine ⟨?_, ?_, ?_⟩
    · rw [up_s, up_n (by omega), up_n (by omega), up_s]
    · rw [up_s, up_n (by omega), up_s]
    · rw [up_s, up_s]
  · rw [up_n hjk, up_n hjk, up_n hjk]
    have g := h.2 j (by rw [hk, nI_clamp (by omega)]; omega)
    refine ⟨?_, ?_, ?_⟩
    · rw [up_n (by omega), up_n (by omega), up_n (by omega), up_n (by omega)]; exact g.1
    · rw [up_n (by omega), up_n (by omega), up_n (by omega), up_n (by omega)]; exact g.2.1
    · rw [up_n (by omega), up_n (by omega), up_n (by omega), up_n (by omega)]; exact g.2.2
theorem CDR_add {c st : Int32} {a b td : Nat → Int32} {k : Nat} (x y : Int32) (h : CDR c st a b td) (hk : td 0 = nI k) (hk9 : k < 9) : CDR (nI (k + 1)) st (upd a k x) (upd b k y) (upd (upd (upd td 0 (nI (k + 1))) (1 + 2 * k) x) (2 + 2 * k) y) := by
  refine ⟨by rw [up_n (by omega), up_n (by omega), up_s], by rw [up_n (by omega), up_n (by omega), up_n (by omega)]; exact h.2.1, fun j hj => ?_⟩
  rw [up_n (by omega), up_n (by omega), up_s, nI_clamp (by omega)] at hj
  by_cases hjk : j = k
  · subst hjk
    refine ⟨?_, ?_⟩
    · rw [up_s, up_n (by omega), up_s]
    · rw [up_s, up_s]
  · rw [up_n hjk, up_n hjk]
    have g := h.2.2 j (by rw [hk, nI_clamp (by omega)]; omega)
    refine ⟨?_, ?_⟩
    · rw [up_n (by omega), up_n (by omega), up_n (by omega)]; exact g.1
    · rw [up_n (by omega), up_n (by omega), up_n (by omega)]; exact g.2
theorem CDR_step {c st : Int32} {a b td : Nat → Int32} (x : Int32) (h : CDR c st a b td) (b0 : (td 0).toNatClampNeg ≤ 9) : CDR c x a b (upd td 19 x) := by
  refine ⟨by rw [up_n (by omega)]; exact h.1, by rw [up_s], fun j hj => ?_⟩
  rw [up_n (by omega)] at hj
  rw [up_n (by omega), up_n (by omega)]
  exact h.2.2 j hj
theorem cW_iv {w k : Nat} {a v : Int32} (h : cW w k a v = true) : iv (tbf_2 (w * 3 + k)).toInt (tbf_3 (w * 3 + k)).toInt v := by
  have g := of_decide_eq_true h
  exact ⟨r_le g.1, r_le g.2.1⟩
theorem ix9 (a b : Nat) : ((51 : Int32) + 9 * nI a) + nI b = nI (51 + 9 * a + b) := by
  rw [show (51 : Int32) = nI 51 from rfl, show (9 : Int32) = nI 9 from rfl, pk_mul, nI_add, nI_add]
theorem jx9 (a b : Nat) : (nI a * 9) + nI b = nI (a * 9 + b) := by
  rw [show (9 : Int32) = nI 9 from rfl, pk_mul, nI_add]
theorem jx (c k : Nat) : nI c + nI k = nI (c + k) := nI_add c k
theorem jx2 (c m k i : Nat) : (nI c + nI m * nI k) + nI i = nI (c + m * k + i) := by
  rw [pk_mul, nI_add, nI_add]
set_option maxRecDepth 20000 in
theorem e_tell_0 {lf_huts lf_singers lf_villages lf_dams lf_echoes lf_deep lf_slide vf_deeds sf_facts cf_voices cf_step : Int32} {la_heights la_ladders la_minutes la_echoFrom la_echoTo la_homes la_talls la_known va_kinds va_firsts va_seconds sa_heard sa_huts sa_minutes ca_parts ca_heights : Nat → Int32} {nums td : Nat → Int32} {h s fh fs a b c : Int32} {post : (Int32) → (Int32) → (Int32) → (Int32) → (Int32) → (Int32) → (Int32) → (Nat → Int32) → (Nat → Int32) → (Nat → Int32) → (Nat → Int32) → (Nat → Int32) → (Nat → Int32) → (Nat → Int32) → (Nat → Int32) → (Int32) → (Nat → Int32) → (Nat → Int32) → (Nat → Int32) → (Int32) → (Nat → Int32) → (Nat → Int32) → (Nat → Int32) → (Int32) → (Int32) → (Nat → Int32) → (Nat → Int32) → Int32 → Int32 → Prop} (hC : CB 0 td) (hf : fu 0 td = false) (n0 : nums 0 = a) (c0 : cW 0 0 a a = true) (hD : DR 0 lf_huts lf_singers lf_villages lf_dams lf_echoes lf_deep lf_slide la_heights la_ladders la_minutes la_echoFrom la_echoTo la_homes la_talls la_known vf_deeds va_kinds va_firsts va_seconds sf_facts sa_heard sa_huts sa_minutes cf_voices cf_step ca_parts ca_heights h s td fh fs) (hpo : ∀ (lf_huts' : Int32) (lf_singers' : Int32) (lf_villages' : Int32) (lf_dams' : Int32) (lf_echoes' : Int32) (lf_deep' : Int32) (lf_slide' : Int32) (la_heights' : Nat → Int32) (la_ladders' : Nat → Int32) (la_minutes' : Nat → Int32) (la_echoFrom' : Nat → Int32) (la_echoTo' : Nat → Int32) (la_homes' : Nat → Int32) (la_talls' : Nat → Int32) (la_known' : Nat → Int32) (vf_deeds' : Int32) (va_kinds' : Nat → Int32) (va_firsts' : Nat → Int32) (va_seconds' : Nat → Int32) (sf_facts' : Int32) (sa_heard' : Nat → Int32) (sa_huts' : Nat → Int32) (sa_minutes' : Nat → Int32) (cf_voices' : Int32) (cf_step' : Int32) (ca_parts' : Nat → Int32) (ca_heights' : Nat → Int32) (h' s' : Int32), DR 0 lf_huts' lf_singers' lf_villages' lf_dams' lf_echoes' lf_deep' lf_slide' la_heights' la_ladders' la_minutes' la_echoFrom' la_echoTo' la_homes' la_talls' la_known' vf_deeds' va_kinds' va_firsts' va_seconds' sf_facts' sa_heard' sa_huts' sa_minutes' cf_voices' cf_step' ca_parts' ca_heights' h' s' (lD 0 true a b c td) (lH 0 a b fh) (lS 0 a fs) → post lf_huts' lf_singers' lf_villages' lf_dams' lf_echoes' lf_deep' lf_slide' la_heights' la_ladders' la_minutes' la_echoFrom' la_echoTo' la_homes' la_talls' la_known' vf_deeds' va_kinds' va_firsts' va_seconds' sf_facts' sa_heard' sa_huts' sa_minutes' cf_voices' cf_step' ca_parts' ca_heights' h' s') : q_wr_X4_tell_0 lf_huts lf_singers lf_villages lf_dams lf_echoes lf_deep lf_slide la_heights la_ladders la_minutes la_echoFrom la_echoTo la_homes la_talls la_known vf_deeds va_kinds va_firsts va_seconds sf_facts sa_heard sa_huts sa_minutes cf_voices cf_step ca_parts ca_heights nums h s (nI 0) post := by
  have ha : iv 0 99 a := iv_w (cW_iv c0) (by decide +kernel)
  obtain ⟨b0, b1, b4⟩ := CB_n hC
  obtain ⟨hL, hh, hs⟩ := hD.1 rfl
  refine ⟨fun h9 => absurd h9 (by decide +kernel), fun _ => ?_⟩
  rw [c_0, c_1, c_2, n0]
  refine ⟨fun h9 => absurd h9 (by decide +kernel), fun _ => ?_, fun h9 => absurd h9 (by decide +kernel), fun h9 => absurd h9 (by decide +kernel), fun h9 => absurd h9 (by decide +kernel), fun h9 => absurd h9 (by decide +kernel), fun h9 => absurd h9 (by decide +kernel), fun h9 => absurd h9 (by decide +kernel), fun h9 => absurd h9 (by decide +kernel), fun h9 => absurd h9 (by decide +kernel)⟩
  obtain ⟨k, hk, -, hk9, -⟩ := iv_nI hC.1 (by decide)
  have hne : ¬ td 0 = 9 := fun h9 => by
    have := of_decide_eq_false hf
    exact this (by simp [h9])
  have hk8 : k < 9 := Nat.lt_of_le_of_ne (by omega) (fun h9 => hne (by rw [hk, h9]; rfl))
  have e0 : lf_huts = nI k := hL.1.trans hk
  refine ⟨by rw [e0]; exact vp_in_nI hk8 (by omega), fun t1 e1 v e2 => ?_⟩
  rw [e0, nI_clamp (by omega)] at e1
  rw [e0, nI_1] at e2
  subst e1 e2
  refine hpo _ _ _ _ _ _ _ _ _ _ _ _ _ _ _ _ _ _ _ _ _ _ _ _ _ _ _ _ _ ?_
  have e : lD 0 true a b c td = upd (upd td 0 (nI (k + 1))) (7 + k) a := by
    show (if td 0 = 9 then td else upd (upd td 0 (td 0 + 1)) (Int32.toNatClampNeg (7 + td 0)) a) = _
    rw [if_neg hne, hk, nI_1, show (7 : Int32) = nI 7 from rfl, nI_add, nI_clamp (by omega)]
  rw [e]
  exact DR0 (LDR_hut a hk hk8 hL b0 b1 b4) hh hs
set_option maxRecDepth 20000 in
theorem e_tell_1 {lf_huts lf_singers lf_villages lf_dams lf_echoes lf_deep lf_slide vf_deeds sf_facts cf_voices cf_step : Int32} {la_heights la_ladders la_minutes la_echoFrom la_echoTo la_homes la_talls la_known va_kinds va_firsts va_seconds sa_heard sa_huts sa_minutes ca_parts ca_heights : Nat → Int32} {nums td : Nat → Int32} {h s fh fs a b c : Int32} {post : (Int32) → (Int32) → (Int32) → (Int32) → (Int32) → (Int32) → (Int32) → (Nat → Int32) → (Nat → Int32) → (Nat → Int32) → (Nat → Int32) → (Nat → Int32) → (Nat → Int32) → (Nat → Int32) → (Nat → Int32) → (Int32) → (Nat → Int32) → (Nat → Int32) → (Nat → Int32) → (Int32) → (Nat → Int32) → (Nat → Int32) → (Nat → Int32) → (Int32) → (Int32) → (Nat → Int32) → (Nat → Int32) → Int32 → Int32 → Prop} (hC : CB 0 td) (hf : fu 1 td = false) (n0 : nums 0 = a) (c0 : cW 1 0 a a = true) (hD : DR 0 lf_huts lf_singers lf_villages lf_dams lf_echoes lf_deep lf_slide la_heights la_ladders la_minutes la_echoFrom la_echoTo la_homes la_talls la_known vf_deeds va_kinds va_firsts va_seconds sf_facts sa_heard sa_huts sa_minutes cf_voices cf_step ca_parts ca_heights h s td fh fs) (hpo : ∀ (lf_huts' : Int32) (lf_singers' : Int32) (lf_villages' : Int32) (lf_dams' : Int32) (lf_echoes' : Int32) (lf_deep' : Int32) (lf_slide' : Int32) (la_heights' : Nat → Int32) (la_ladders' : Nat → Int32) (la_minutes' : Nat → Int32) (la_echoFrom' : Nat → Int32) (la_echoTo' : Nat → Int32) (la_homes' : Nat → Int32) (la_talls' : Nat → Int32) (la_known' : Nat → Int32) (vf_deeds' : Int32) (va_kinds' : Nat → Int32) (va_firsts' : Nat → Int32) (va_seconds' : Nat → Int32) (sf_facts' : Int32) (sa_heard' : Nat → Int32) (sa_huts' : Nat → Int32) (sa_minutes' : Nat → Int32) (cf_voices' : Int32) (cf_step' : Int32) (ca_parts' : Nat → Int32) (ca_heights' : Nat → Int32) (h' s' : Int32), DR 0 lf_huts' lf_singers' lf_villages' lf_dams' lf_echoes' lf_deep' lf_slide' la_heights' la_ladders' la_minutes' la_echoFrom' la_echoTo' la_homes' la_talls' la_known' vf_deeds' va_kinds' va_firsts' va_seconds' sf_facts' sa_heard' sa_huts' sa_minutes' cf_voices' cf_step' ca_parts' ca_heights' h' s' (lD 1 true a b c td) (lH 1 a b fh) (lS 1 a fs) → post lf_huts' lf_singers' lf_villages' lf_dams' lf_echoes' lf_deep' lf_slide' la_heights' la_ladders' la_minutes' la_echoFrom' la_echoTo' la_homes' la_talls' la_known' vf_deeds' va_kinds' va_firsts' va_seconds' sf_facts' sa_heard' sa_huts' sa_minutes' cf_voices' cf_step' ca_parts' ca_heights' h' s') : q_wr_X4_tell_0 lf_huts lf_singers lf_villages lf_dams lf_echoes lf_deep lf_slide la_heights la_ladders la_minutes la_echoFrom la_echoTo la_homes la_talls la_known vf_deeds va_kinds va_firsts va_seconds sf_facts sa_heard sa_huts sa_minutes cf_voices cf_step ca_parts ca_heights nums h s (nI 1) post := by
  have ha : iv 0 8 a := iv_w (cW_iv c0) (by decide +kernel)
  obtain ⟨b0, b1, b4⟩ := CB_n hC
  obtain ⟨hL, hh, hs⟩ := hD.1 rfl
  refine ⟨fun h9 => absurd h9 (by decide +kernel), fun _ => ?_⟩
  rw [c_0, c_1, c_2, n0]
  refine ⟨fun h9 => absurd h9 (by decide +kernel), fun h9 => absurd h9 (by decide +kernel), fun _ => ?_, fun h9 => absurd h9 (by decide +kernel), fun h9 => absurd h9 (by decide +kernel), fun h9 => absurd h9 (by decide +kernel), fun h9 => absurd h9 (by decide +kernel), fun h9 => absurd h9 (by decide +kernel), fun h9 => absurd h9 (by decide +kernel), fun h9 => absurd h9 (by decide +kernel)⟩
  intro v e1 v2 e2
  subst e1 e2
  refine hpo _ _ _ _ _ _ _ _ _ _ _ _ _ _ _ _ _ _ _ _ _ _ _ _ _ _ _ _ _ ?_
  rw [hL.2.2.1]
  exact DR0 (LDR_villages _ hL b0 b1 b4) (HB_or hh ha) hs
set_option maxRecDepth 20000 in
theorem e_tell_2 {lf_huts lf_singers lf_villages lf_dams lf_echoes lf_deep lf_slide vf_deeds sf_facts cf_voices cf_step : Int32} {la_heights la_ladders la_minutes la_echoFrom la_echoTo la_homes la_talls la_known va_kinds va_firsts va_seconds sa_heard sa_huts sa_minutes ca_parts ca_heights : Nat → Int32} {nums td : Nat → Int32} {h s fh fs a b c : Int32} {post : (Int32) → (Int32) → (Int32) → (Int32) → (Int32) → (Int32) → (Int32) → (Nat → Int32) → (Nat → Int32) → (Nat → Int32) → (Nat → Int32) → (Nat → Int32) → (Nat → Int32) → (Nat → Int32) → (Nat → Int32) → (Int32) → (Nat → Int32) → (Nat → Int32) → (Nat → Int32) → (Int32) → (Nat → Int32) → (Nat → Int32) → (Nat → Int32) → (Int32) → (Int32) → (Nat → Int32) → (Nat → Int32) → Int32 → Int32 → Prop} (hC : CB 0 td) (hf : fu 2 td = false) (n0 : nums 0 = a) (c0 : cW 2 0 a a = true) (hD : DR 0 lf_huts lf_singers lf_villages lf_dams lf_echoes lf_deep lf_slide la_heights la_ladders la_minutes la_echoFrom la_echoTo la_homes la_talls la_known vf_deeds va_kinds va_firsts va_seconds sf_facts sa_heard sa_huts sa_minutes cf_voices cf_step ca_parts ca_heights h s td fh fs) (hpo : ∀ (lf_huts' : Int32) (lf_singers' : Int32) (lf_villages' : Int32) (lf_dams' : Int32) (lf_echoes' : Int32) (lf_deep' : Int32) (lf_slide' : Int32) (la_heights' : Nat → Int32) (la_ladders' : Nat → Int32) (la_minutes' : Nat → Int32) (la_echoFrom' : Nat → Int32) (la_echoTo' : Nat → Int32) (la_homes' : Nat → Int32) (la_talls' : Nat → Int32) (la_known' : Nat → Int32) (vf_deeds' : Int32) (va_kinds' : Nat → Int32) (va_firsts' : Nat → Int32) (va_seconds' : Nat → Int32) (sf_facts' : Int32) (sa_heard' : Nat → Int32) (sa_huts' : Nat → Int32) (sa_minutes' : Nat → Int32) (cf_voices' : Int32) (cf_step' : Int32) (ca_parts' : Nat → Int32) (ca_heights' : Nat → Int32) (h' s' : Int32), DR 0 lf_huts' lf_singers' lf_villages' lf_dams' lf_echoes' lf_deep' lf_slide' la_heights' la_ladders' la_minutes' la_echoFrom' la_echoTo' la_homes' la_talls' la_known' vf_deeds' va_kinds' va_firsts' va_seconds' sf_facts' sa_heard' sa_huts' sa_minutes' cf_voices' cf_step' ca_parts' ca_heights' h' s' (lD 2 true a b c td) (lH 2 a b fh) (lS 2 a fs) → post lf_huts' lf_singers' lf_villages' lf_dams' lf_echoes' lf_deep' lf_slide' la_heights' la_ladders' la_minutes' la_echoFrom' la_echoTo' la_homes' la_talls' la_known' vf_deeds' va_kinds' va_firsts' va_seconds' sf_facts' sa_heard' sa_huts' sa_minutes' cf_voices' cf_step' ca_parts' ca_heights' h' s') : q_wr_X4_tell_0 lf_huts lf_singers lf_villages lf_dams lf_echoes lf_deep lf_slide la_heights la_ladders la_minutes la_echoFrom la_echoTo la_homes la_talls la_known vf_deeds va_kinds va_firsts va_seconds sf_facts sa_heard sa_huts sa_minutes cf_voices cf_step ca_parts ca_heights nums h s (nI 2) post := by
  have ha : iv 0 8 a := iv_w (cW_iv c0) (by decide +kernel)
  obtain ⟨b0, b1, b4⟩ := CB_n hC
  obtain ⟨hL, hh, hs⟩ := hD.1 rfl
  refine ⟨fun h9 => absurd h9 (by decide +kernel), fun _ => ?_⟩
  rw [c_0, c_1, c_2, n0]
  refine ⟨fun h9 => absurd h9 (by decide +kernel), fun h9 => absurd h9 (by decide +kernel), fun h9 => absurd h9 (by decide +kernel), fun _ => ?_, fun h9 => absurd h9 (by decide +kernel), fun h9 => absurd h9 (by decide +kernel), fun h9 => absurd h9 (by decide +kernel), fun h9 => absurd h9 (by decide +kernel), fun h9 => absurd h9 (by decide +kernel), fun h9 => absurd h9 (by decide +kernel)⟩
  intro v e1 v2 e2
  subst e1 e2
  refine hpo _ _ _ _ _ _ _ _ _ _ _ _ _ _ _ _ _ _ _ _ _ _ _ _ _ _ _ _ _ ?_
  rw [hL.2.2.2.1]
  exact DR0 (LDR_dams _ hL b0 b1 b4) (HB_or hh ha) hs
set_option maxRecDepth 20000 in
theorem e_tell_3 {lf_huts lf_singers lf_villages lf_dams lf_echoes lf_deep lf_slide vf_deeds sf_facts cf_voices cf_step : Int32} {la_heights la_ladders la_minutes la_echoFrom la_echoTo la_homes la_talls la_known va_kinds va_firsts va_seconds sa_heard sa_huts sa_minutes ca_parts ca_heights : Nat → Int32} {nums td : Nat → Int32} {h s fh fs a b c : Int32} {post : (Int32) → (Int32) → (Int32) → (Int32) → (Int32) → (Int32) → (Int32) → (Nat → Int32) → (Nat → Int32) → (Nat → Int32) → (Nat → Int32) → (Nat → Int32) → (Nat → Int32) → (Nat → Int32) → (Nat → Int32) → (Int32) → (Nat → Int32) → (Nat → Int32) → (Nat → Int32) → (Int32) → (Nat → Int32) → (Nat → Int32) → (Nat → Int32) → (Int32) → (Int32) → (Nat → Int32) → (Nat → Int32) → Int32 → Int32 → Prop} (hC : CB 0 td) (hf : fu 3 td = false) (n0 : nums 0 = a) (c0 : cW 3 0 a a = true) (hD : DR 0 lf_huts lf_singers lf_villages lf_dams lf_echoes lf_deep lf_slide la_heights la_ladders la_minutes la_echoFrom la_echoTo la_homes la_talls la_known vf_deeds va_kinds va_firsts va_seconds sf_facts sa_heard sa_huts sa_minutes cf_voices cf_step ca_parts ca_heights h s td fh fs) (hpo : ∀ (lf_huts' : Int32) (lf_singers' : Int32) (lf_villages' : Int32) (lf_dams' : Int32) (lf_echoes' : Int32) (lf_deep' : Int32) (lf_slide' : Int32) (la_heights' : Nat → Int32) (la_ladders' : Nat → Int32) (la_minutes' : Nat → Int32) (la_echoFrom' : Nat → Int32) (la_echoTo' : Nat → Int32) (la_homes' : Nat → Int32) (la_talls' : Nat → Int32) (la_known' : Nat → Int32) (vf_deeds' : Int32) (va_kinds' : Nat → Int32) (va_firsts' : Nat → Int32) (va_seconds' : Nat → Int32) (sf_facts' : Int32) (sa_heard' : Nat → Int32) (sa_huts' : Nat → Int32) (sa_minutes' : Nat → Int32) (cf_voices' : Int32) (cf_step' : Int32) (ca_parts' : Nat → Int32) (ca_heights' : Nat → Int32) (h' s' : Int32), DR 0 lf_huts' lf_singers' lf_villages' lf_dams' lf_echoes' lf_deep' lf_slide' la_heights' la_ladders' la_minutes' la_echoFrom' la_echoTo' la_homes' la_talls' la_known' vf_deeds' va_kinds' va_firsts' va_seconds' sf_facts' sa_heard' sa_huts' sa_minutes' cf_voices' cf_step' ca_parts' ca_heights' h' s' (lD 3 true a b c td) (lH 3 a b fh) (lS 3 a fs) → post lf_huts' lf_singers' lf_villages' lf_dams' lf_echoes' lf_deep' lf_slide' la_heights' la_ladders' la_minutes' la_echoFrom' la_echoTo' la_homes' la_talls' la_known' vf_deeds' va_kinds' va_firsts' va_seconds' sf_facts' sa_heard' sa_huts' sa_minutes' cf_voices' cf_step' ca_parts' ca_heights' h' s') : q_wr_X4_tell_0 lf_huts lf_singers lf_villages lf_dams lf_echoes lf_deep lf_slide la_heights la_ladders la_minutes la_echoFrom la_echoTo la_homes la_talls la_known vf_deeds va_kinds va_firsts va_seconds sf_facts sa_heard sa_huts sa_minutes cf_voices cf_step ca_parts ca_heights nums h s (nI 3) post := by
  have ha : iv 1 9 a := iv_w (cW_iv c0) (by decide +kernel)
  obtain ⟨b0, b1, b4⟩ := CB_n hC
  obtain ⟨hL, hh, hs⟩ := hD.1 rfl
  refine ⟨fun h9 => absurd h9 (by decide +kernel), fun _ => ?_⟩
  rw [c_0, c_1, c_2, n0]
  refine ⟨fun h9 => absurd h9 (by decide +kernel), fun h9 => absurd h9 (by decide +kernel), fun h9 => absurd h9 (by decide +kernel), fun h9 => absurd h9 (by decide +kernel), fun _ => ?_, fun h9 => absurd h9 (by decide +kernel), fun h9 => absurd h9 (by decide +kernel), fun h9 => absurd h9 (by decide +kernel), fun h9 => absurd h9 (by decide +kernel), fun h9 => absurd h9 (by decide +kernel)⟩
  refine hpo _ _ _ _ _ _ _ _ _ _ _ _ _ _ _ _ _ _ _ _ _ _ _ _ _ _ _ _ _ ?_
  exact DR0 (LDR_deep a hL b0 b1 b4) hh hs
set_option maxRecDepth 20000 in
theorem e_tell_4 {lf_huts lf_singers lf_villages lf_dams lf_echoes lf_deep lf_slide vf_deeds sf_facts cf_voices cf_step : Int32} {la_heights la_ladders la_minutes la_echoFrom la_echoTo la_homes la_talls la_known va_kinds va_firsts va_seconds sa_heard sa_huts sa_minutes ca_parts ca_heights : Nat → Int32} {nums td : Nat → Int32} {h s fh fs a b c : Int32} {post : (Int32) → (Int32) → (Int32) → (Int32) → (Int32) → (Int32) → (Int32) → (Nat → Int32) → (Nat → Int32) → (Nat → Int32) → (Nat → Int32) → (Nat → Int32) → (Nat → Int32) → (Nat → Int32) → (Nat → Int32) → (Int32) → (Nat → Int32) → (Nat → Int32) → (Nat → Int32) → (Int32) → (Nat → Int32) → (Nat → Int32) → (Nat → Int32) → (Int32) → (Int32) → (Nat → Int32) → (Nat → Int32) → Int32 → Int32 → Prop} (hC : CB 0 td) (hf : fu 4 td = false) (n0 : nums 0 = a) (c0 : cW 4 0 a a = true) (hD : DR 0 lf_huts lf_singers lf_villages lf_dams lf_echoes lf_deep lf_slide la_heights la_ladders la_minutes la_echoFrom la_echoTo la_homes la_talls la_known vf_deeds va_kinds va_firsts va_seconds sf_facts sa_heard sa_huts sa_minutes cf_voices cf_step ca_parts ca_heights h s td fh fs) (hpo : ∀ (lf_huts' : Int32) (lf_singers' : Int32) (lf_villages' : Int32) (lf_dams' : Int32) (lf_echoes' : Int32) (lf_deep' : Int32) (lf_slide' : Int32) (la_heights' : Nat → Int32) (la_ladders' : Nat → Int32) (la_minutes' : Nat → Int32) (la_echoFrom' : Nat → Int32) (la_echoTo' : Nat → Int32) (la_homes' : Nat → Int32) (la_talls' : Nat → Int32) (la_known' : Nat → Int32) (vf_deeds' : Int32) (va_kinds' : Nat → Int32) (va_firsts' : Nat → Int32) (va_seconds' : Nat → Int32) (sf_facts' : Int32) (sa_heard' : Nat → Int32) (sa_huts' : Nat → Int32) (sa_minutes' : Nat → Int32) (cf_voices' : Int32) (cf_step' : Int32) (ca_parts' : Nat → Int32) (ca_heights' : Nat → Int32) (h' s' : Int32), DR 0 lf_huts' lf_singers' lf_villages' lf_dams' lf_echoes' lf_deep' lf_slide' la_heights' la_ladders' la_minutes' la_echoFrom' la_echoTo' la_homes' la_talls' la_known' vf_deeds' va_kinds' va_firsts' va_seconds' sf_facts' sa_heard' sa_huts' sa_minutes' cf_voices' cf_step' ca_parts' ca_heights' h' s' (lD 4 true a b c td) (lH 4 a b fh) (lS 4 a fs) → post lf_huts' lf_singers' lf_villages' lf_dams' lf_echoes' lf_deep' lf_slide' la_heights' la_ladders' la_minutes' la_echoFrom' la_echoTo' la_homes' la_talls' la_known' vf_deeds' va_kinds' va_firsts' va_seconds' sf_facts' sa_heard' sa_huts' sa_minutes' cf_voices' cf_step' ca_parts' ca_heights' h' s') : q_wr_X4_tell_0 lf_huts lf_singers lf_villages lf_dams lf_echoes lf_deep lf_slide la_heights la_ladders la_minutes la_echoFrom la_echoTo la_homes la_talls la_known vf_deeds va_kinds va_firsts va_seconds sf_facts sa_heard sa_huts sa_minutes cf_voices cf_step ca_parts ca_heights nums h s (nI 4) post := by
  have ha : iv 0 10 a := iv_w (cW_iv c0) (by decide +kernel)
  obtain ⟨b0, b1, b4⟩ := CB_n hC
  obtain ⟨hL, hh, hs⟩ := hD.1 rfl
  refine ⟨fun h9 => absurd h9 (by decide +kernel), fun _ => ?_⟩
  rw [c_0, c_1, c_2, n0]
  refine ⟨fun h9 => absurd h9 (by decide +kernel), fun h9 => absurd h9 (by decide +kernel), fun h9 => absurd h9 (by decide +kernel), fun h9 => absurd h9 (by decide +kernel), fun h9 => absurd h9 (by decide +kernel), fun _ => ?_, fun h9 => absurd h9 (by decide +kernel), fun h9 => absurd h9 (by decide +kernel), fun h9 => absurd h9 (by decide +kernel), fun h9 => absurd h9 (by decide +kernel)⟩
  refine hpo _ _ _ _ _ _ _ _ _ _ _ _ _ _ _ _ _ _ _ _ _ _ _ _ _ _ _ _ _ ?_
  exact DR0 (LDR_slide a hL b0 b1 b4) hh hs
set_option maxRecDepth 20000 in
theorem e_tell_5 {lf_huts lf_singers lf_villages lf_dams lf_echoes lf_deep lf_slide vf_deeds sf_facts cf_voices cf_step : Int32} {la_heights la_ladders la_minutes la_echoFrom la_echoTo la_homes la_talls la_known va_kinds va_firsts va_seconds sa_heard sa_huts sa_minutes ca_parts ca_heights : Nat → Int32} {nums td : Nat → Int32} {h s fh fs a b c : Int32} {post : (Int32) → (Int32) → (Int32) → (Int32) → (Int32) → (Int32) → (Int32) → (Nat → Int32) → (Nat → Int32) → (Nat → Int32) → (Nat → Int32) → (Nat → Int32) → (Nat → Int32) → (Nat → Int32) → (Nat → Int32) → (Int32) → (Nat → Int32) → (Nat → Int32) → (Nat → Int32) → (Int32) → (Nat → Int32) → (Nat → Int32) → (Nat → Int32) → (Int32) → (Int32) → (Nat → Int32) → (Nat → Int32) → Int32 → Int32 → Prop} (hC : CB 0 td) (hf : fu 5 td = false) (n0 : nums 0 = a) (c0 : cW 5 0 a a = true) (n1 : nums 1 = b) (c1 : cW 5 1 a b = true) (n2 : nums 2 = c) (c2 : cW 5 2 a c = true) (hD : DR 0 lf_huts lf_singers lf_villages lf_dams lf_echoes lf_deep lf_slide la_heights la_ladders la_minutes la_echoFrom la_echoTo la_homes la_talls la_known vf_deeds va_kinds va_firsts va_seconds sf_facts sa_heard sa_huts sa_minutes cf_voices cf_step ca_parts ca_heights h s td fh fs) (hpo : ∀ (lf_huts' : Int32) (lf_singers' : Int32) (lf_villages' : Int32) (lf_dams' : Int32) (lf_echoes' : Int32) (lf_deep' : Int32) (lf_slide' : Int32) (la_heights' : Nat → Int32) (la_ladders' : Nat → Int32) (la_minutes' : Nat → Int32) (la_echoFrom' : Nat → Int32) (la_echoTo' : Nat → Int32) (la_homes' : Nat → Int32) (la_talls' : Nat → Int32) (la_known' : Nat → Int32) (vf_deeds' : Int32) (va_kinds' : Nat → Int32) (va_firsts' : Nat → Int32) (va_seconds' : Nat → Int32) (sf_facts' : Int32) (sa_heard' : Nat → Int32) (sa_huts' : Nat → Int32) (sa_minutes' : Nat → Int32) (cf_voices' : Int32) (cf_step' : Int32) (ca_parts' : Nat → Int32) (ca_heights' : Nat → Int32) (h' s' : Int32), DR 0 lf_huts' lf_singers' lf_villages' lf_dams' lf_echoes' lf_deep' lf_slide' la_heights' la_ladders' la_minutes' la_echoFrom' la_echoTo' la_homes' la_talls' la_known' vf_deeds' va_kinds' va_firsts' va_seconds' sf_facts' sa_heard' sa_huts' sa_minutes' cf_voices' cf_step' ca_parts' ca_heights' h' s' (lD 5 true a b c td) (lH 5 a b fh) (lS 5 a fs) → post lf_huts' lf_singers' lf_villages' lf_dams' lf_echoes' lf_deep' lf_slide' la_heights' la_ladders' la_minutes' la_echoFrom' la_echoTo' la_homes' la_talls' la_known' vf_deeds' va_kinds' va_firsts' va_seconds' sf_facts' sa_heard' sa_huts' sa_minutes' cf_voices' cf_step' ca_parts' ca_heights' h' s') : q_wr_X4_tell_0 lf_huts lf_singers lf_villages lf_dams lf_echoes lf_deep lf_slide la_heights la_ladders la_minutes la_echoFrom la_echoTo la_homes la_talls la_known vf_deeds va_kinds va_firsts va_seconds sf_facts sa_heard sa_huts sa_minutes cf_voices cf_step ca_parts ca_heights nums h s (nI 5) post := by
  have ha : iv 0 8 a := iv_w (cW_iv c0) (by decide +kernel)
  have hb : iv 0 8 b := iv_w (cW_iv c1) (by decide +kernel)
  have hc : iv 1 9 c := iv_w (cW_iv c2) (by decide +kernel)
  obtain ⟨b0, b1, b4⟩ := CB_n hC
  obtain ⟨hL, hh, hs⟩ := hD.1 rfl
  refine ⟨fun h9 => absurd h9 (by decide +kernel), fun _ => ?_⟩
  rw [c_0, c_1, c_2, n0, n1, n2]
  refine ⟨fun h9 => absurd h9 (by decide +kernel), fun h9 => absurd h9 (by decide +kernel), fun h9 => absurd h9 (by decide +kernel), fun h9 => absurd h9 (by decide +kernel), fun h9 => absurd h9 (by decide +kernel), fun h9 => absurd h9 (by decide +kernel), fun _ => ?_, fun h9 => absurd h9 (by decide +kernel), fun h9 => absurd h9 (by decide +kernel), fun h9 => absurd h9 (by decide +kernel)⟩
  obtain ⟨p, ep, -, hp, -⟩ := iv_nI ha (by decide)
  obtain ⟨q, eq, -, hq, -⟩ := iv_nI hb (by decide)
  have i1 : a * 9 + b = nI (p * 9 + q) := by rw [ep, eq]; exact jx9 p q
  have i2 : b * 9 + a = nI (q * 9 + p) := by rw [ep, eq]; exact jx9 q p
  rw [i1, i2, nI_clamp (n := p * 9 + q) (by omega), nI_clamp (n := q * 9 + p) (by omega)]
  refine ⟨vp_in_nI (by omega) (by omega), fun t1 e1 => ⟨vp_in_nI (by omega) (by omega), fun t2 e2 v e3 => ?_⟩⟩
  subst e1 e2 e3
  refine hpo _ _ _ _ _ _ _ _ _ _ _ _ _ _ _ _ _ _ _ _ _ _ _ _ _ _ _ _ _ ?_
  have e : lD 5 true a b c td = upd (upd td (51 + (p * 9 + q)) c) (51 + (q * 9 + p)) c := by
    show upd (upd td (Int32.toNatClampNeg ((51 + 9 * a) + b)) c) (Int32.toNatClampNeg ((51 + 9 * b) + a)) c = _
    rw [ep, eq, ix9, ix9, nI_clamp (by omega), nI_clamp (by omega), show 51 + 9 * p + q = 51 + (p * 9 + q) by omega, show 51 + 9 * q + p = 51 + (q * 9 + p) by omega]
  rw [e]
  have g1 := LDR_way c (show p * 9 + q < 81 by omega) hL b0 b1 b4
  exact DR0 (LDR_way c (show q * 9 + p < 81 by omega) g1 (by rw [up_n (by omega)]; exact b0) (by rw [up_n (by omega)]; exact b1) (by rw [up_n (by omega)]; exact b4)) (HB_or2 hh ha hb) hs
set_option maxRecDepth 20000 in
theorem e_tell_6 {lf_huts lf_singers lf_villages lf_dams lf_echoes lf_deep lf_slide vf_deeds sf_facts cf_voices cf_step : Int32} {la_heights la_ladders la_minutes la_echoFrom la_echoTo la_homes la_talls la_known va_kinds va_firsts va_seconds sa_heard sa_huts sa_minutes ca_parts ca_heights : Nat → Int32} {nums td : Nat → Int32} {h s fh fs a b c : Int32} {post : (Int32) → (Int32) → (Int32) → (Int32) → (Int32) → (Int32) → (Int32) → (Nat → Int32) → (Nat → Int32) → (Nat → Int32) → (Nat → Int32) → (Nat → Int32) → (Nat → Int32) → (Nat → Int32) → (Nat → Int32) → (Int32) → (Nat → Int32) → (Nat → Int32) → (Nat → Int32) → (Int32) → (Nat → Int32) → (Nat → Int32) → (Nat → Int32) → (Int32) → (Int32) → (Nat → Int32) → (Nat → Int32) → Int32 → Int32 → Prop} (hC : CB 0 td) (hf : fu 6 td = false) (n0 : nums 0 = a) (c0 : cW 6 0 a a = true) (n1 : nums 1 = b) (c1 : cW 6 1 a b = true) (hD : DR 0 lf_huts lf_singers lf_villages lf_dams lf_echoes lf_deep lf_slide la_heights la_ladders la_minutes la_echoFrom la_echoTo la_homes la_talls la_known vf_deeds va_kinds va_firsts va_seconds sf_facts sa_heard sa_huts sa_minutes cf_voices cf_step ca_parts ca_heights h s td fh fs) (hpo : ∀ (lf_huts' : Int32) (lf_singers' : Int32) (lf_villages' : Int32) (lf_dams' : Int32) (lf_echoes' : Int32) (lf_deep' : Int32) (lf_slide' : Int32) (la_heights' : Nat → Int32) (la_ladders' : Nat → Int32) (la_minutes' : Nat → Int32) (la_echoFrom' : Nat → Int32) (la_echoTo' : Nat → Int32) (la_homes' : Nat → Int32) (la_talls' : Nat → Int32) (la_known' : Nat → Int32) (vf_deeds' : Int32) (va_kinds' : Nat → Int32) (va_firsts' : Nat → Int32) (va_seconds' : Nat → Int32) (sf_facts' : Int32) (sa_heard' : Nat → Int32) (sa_huts' : Nat → Int32) (sa_minutes' : Nat → Int32) (cf_voices' : Int32) (cf_step' : Int32) (ca_parts' : Nat → Int32) (ca_heights' : Nat → Int32) (h' s' : Int32), DR 0 lf_huts' lf_singers' lf_villages' lf_dams' lf_echoes' lf_deep' lf_slide' la_heights' la_ladders' la_minutes' la_echoFrom' la_echoTo' la_homes' la_talls' la_known' vf_deeds' va_kinds' va_firsts' va_seconds' sf_facts' sa_heard' sa_huts' sa_minutes' cf_voices' cf_step' ca_parts' ca_heights' h' s' (lD 6 true a b c td) (lH 6 a b fh) (lS 6 a fs) → post lf_huts' lf_singers' lf_villages' lf_dams' lf_echoes' lf_deep' lf_slide' la_heights' la_ladders' la_minutes' la_echoFrom' la_echoTo' la_homes' la_talls' la_known' vf_deeds' va_kinds' va_firsts' va_seconds' sf_facts' sa_heard' sa_huts' sa_minutes' cf_voices' cf_step' ca_parts' ca_heights' h' s') : q_wr_X4_tell_0 lf_huts lf_singers lf_villages lf_dams lf_echoes lf_deep lf_slide la_heights la_ladders la_minutes la_echoFrom la_echoTo la_homes la_talls la_known vf_deeds va_kinds va_firsts va_seconds sf_facts sa_heard sa_huts sa_minutes cf_voices cf_step ca_parts ca_heights nums h s (nI 6) post := by
  have ha : iv 0 8 a := iv_w (cW_iv c0) (by decide +kernel)
  have hb : iv 0 8 b := iv_w (cW_iv c1) (by decide +kernel)
  obtain ⟨b0, b1, b4⟩ := CB_n hC
  obtain ⟨hL, hh, hs⟩ := hD.1 rfl
  refine ⟨fun h9 => absurd h9 (by decide +kernel), fun _ => ?_⟩
  rw [c_0, c_1, c_2, n0, n1]
  refine ⟨fun h9 => absurd h9 (by decide +kernel), fun h9 => absurd h9 (by decide +kernel), fun h9 => absurd h9 (by decide +kernel), fun h9 => absurd h9 (by decide +kernel), fun h9 => absurd h9 (by decide +kernel), fun h9 => absurd h9 (by decide +kernel), fun h9 => absurd h9 (by decide +kernel), fun _ => ?_, fun h9 => absurd h9 (by decide +kernel), fun h9 => absurd h9 (by decide +kernel)⟩
  obtain ⟨k, hk, -, hk9, -⟩ := iv_nI (hC.2 rfl).2 (by decide)
  have hne : ¬ td 4 = 4 := fun h9 => by
    have := of_decide_eq_false hf
    exact this (by simp [h9])
  have hk8 : k < 4 := Nat.lt_of_le_of_ne (by omega) (fun h9 => hne (by rw [hk, h9]; rfl))
  have e0 : lf_echoes = nI k := hL.2.2.2.2.1.trans hk
  have hin : vp_in lf_echoes 4 := by rw [e0]; exact vp_in_nI hk8 (by omega)
  refine ⟨hin, fun t1 e1 => ⟨hin, fun t2 e2 v e3 v2 e4 => ?_⟩⟩
  rw [e0, nI_clamp (by omega)] at e1 e2
  rw [e0, nI_1] at e3
  subst e1 e2 e3 e4
  refine hpo _ _ _ _ _ _ _ _ _ _ _ _ _ _ _ _ _ _ _ _ _ _ _ _ _ _ _ _ _ ?_
  have e : lD 6 true a b c td = upd (upd (upd td 4 (nI (k + 1))) (43 + 2 * k) a) (44 + 2 * k) b := by
    show (if td 4 = 4 then td else upd (upd (upd td 4 (td 4 + 1)) (Int32.toNatClampNeg (43 + 2 * td 4)) a) (Int32.toNatClampNeg (43 + 2 * td 4 + 1)) b) = _
    rw [if_neg hne, hk, nI_1, show (43 : Int32) = nI 43 from rfl, show (2 : Int32) = nI 2 from rfl, pk_mul, nI_add, nI_1, nI_clamp (by omega), nI_clamp (by omega), show 43 + 2 * k + 1 = 44 + 2 * k by omega]
  rw [e]
  exact DR0 (LDR_ech a b hk hk8 hL b0 b1 b4) (HB_or2 hh ha hb) hs
set_option maxRecDepth 20000 in
theorem e_tell_7 {lf_huts lf_singers lf_villages lf_dams lf_echoes lf_deep lf_slide vf_deeds sf_facts cf_voices cf_step : Int32} {la_heights la_ladders la_minutes la_echoFrom la_echoTo la_homes la_talls la_known va_kinds va_firsts va_seconds sa_heard sa_huts sa_minutes ca_parts ca_heights : Nat → Int32} {nums td : Nat → Int32} {h s fh fs a b c : Int32} {post : (Int32) → (Int32) → (Int32) → (Int32) → (Int32) → (Int32) → (Int32) → (Nat → Int32) → (Nat → Int32) → (Nat → Int32) → (Nat → Int32) → (Nat → Int32) → (Nat → Int32) → (Nat → Int32) → (Nat → Int32) → (Int32) → (Nat → Int32) → (Nat → Int32) → (Nat → Int32) → (Int32) → (Nat → Int32) → (Nat → Int32) → (Nat → Int32) → (Int32) → (Int32) → (Nat → Int32) → (Nat → Int32) → Int32 → Int32 → Prop} (hC : CB 0 td) (hf : fu 7 td = false) (n0 : nums 0 = a) (c0 : cW 7 0 a a = true) (n1 : nums 1 = b) (c1 : cW 7 1 a b = true) (hD : DR 0 lf_huts lf_singers lf_villages lf_dams lf_echoes lf_deep lf_slide la_heights la_ladders la_minutes la_echoFrom la_echoTo la_homes la_talls la_known vf_deeds va_kinds va_firsts va_seconds sf_facts sa_heard sa_huts sa_minutes cf_voices cf_step ca_parts ca_heights h s td fh fs) (hpo : ∀ (lf_huts' : Int32) (lf_singers' : Int32) (lf_villages' : Int32) (lf_dams' : Int32) (lf_echoes' : Int32) (lf_deep' : Int32) (lf_slide' : Int32) (la_heights' : Nat → Int32) (la_ladders' : Nat → Int32) (la_minutes' : Nat → Int32) (la_echoFrom' : Nat → Int32) (la_echoTo' : Nat → Int32) (la_homes' : Nat → Int32) (la_talls' : Nat → Int32) (la_known' : Nat → Int32) (vf_deeds' : Int32) (va_kinds' : Nat → Int32) (va_firsts' : Nat → Int32) (va_seconds' : Nat → Int32) (sf_facts' : Int32) (sa_heard' : Nat → Int32) (sa_huts' : Nat → Int32) (sa_minutes' : Nat → Int32) (cf_voices' : Int32) (cf_step' : Int32) (ca_parts' : Nat → Int32) (ca_heights' : Nat → Int32) (h' s' : Int32), DR 0 lf_huts' lf_singers' lf_villages' lf_dams' lf_echoes' lf_deep' lf_slide' la_heights' la_ladders' la_minutes' la_echoFrom' la_echoTo' la_homes' la_talls' la_known' vf_deeds' va_kinds' va_firsts' va_seconds' sf_facts' sa_heard' sa_huts' sa_minutes' cf_voices' cf_step' ca_parts' ca_heights' h' s' (lD 7 true a b c td) (lH 7 a b fh) (lS 7 a fs) → post lf_huts' lf_singers' lf_villages' lf_dams' lf_echoes' lf_deep' lf_slide' la_heights' la_ladders' la_minutes' la_echoFrom' la_echoTo' la_homes' la_talls' la_known' vf_deeds' va_kinds' va_firsts' va_seconds' sf_facts' sa_heard' sa_huts' sa_minutes' cf_voices' cf_step' ca_parts' ca_heights' h' s') : q_wr_X4_tell_0 lf_huts lf_singers lf_villages lf_dams lf_echoes lf_deep lf_slide la_heights la_ladders la_minutes la_echoFrom la_echoTo la_homes la_talls la_known vf_deeds va_kinds va_firsts va_seconds sf_facts sa_heard sa_huts sa_minutes cf_voices cf_step ca_parts ca_heights nums h s (nI 7) post := by
  have ha : iv 0 8 a := iv_w (cW_iv c0) (by decide +kernel)
  have hb : iv 0 9 b := iv_w (cW_iv c1) (by decide +kernel)
  obtain ⟨b0, b1, b4⟩ := CB_n hC
  obtain ⟨hL, hh, hs⟩ := hD.1 rfl
  refine ⟨fun h9 => absurd h9 (by decide +kernel), fun _ => ?_⟩
  rw [c_0, c_1, c_2, n0, n1]
  refine ⟨fun h9 => absurd h9 (by decide +kernel), fun h9 => absurd h9 (by decide +kernel), fun h9 => absurd h9 (by decide +kernel), fun h9 => absurd h9 (by decide +kernel), fun h9 => absurd h9 (by decide +kernel), fun h9 => absurd h9 (by decide +kernel), fun h9 => absurd h9 (by decide +kernel), fun h9 => absurd h9 (by decide +kernel), fun _ => ?_, fun h9 => absurd h9 (by decide +kernel)⟩
  obtain ⟨p, ep, -, hp, -⟩ := iv_nI ha (by decide)
  refine ⟨by rw [ep]; exact vp_in_nI (by omega) (by omega), fun t1 e1 v e2 => ?_⟩
  rw [ep, nI_clamp (by omega)] at e1
  subst e1 e2
  refine hpo _ _ _ _ _ _ _ _ _ _ _ _ _ _ _ _ _ _ _ _ _ _ _ _ _ _ _ _ _ ?_
  have e : lD 7 true a b c td = upd td (16 + p) b := by
    show upd td (Int32.toNatClampNeg (16 + a)) b = _
    rw [ep, show (16 : Int32) = nI 16 from rfl, nI_add, nI_clamp (by omega)]
  rw [e]
  exact DR0 (LDR_lad b (show p < 9 by omega) hL b0 b1 b4) (HB_or hh ha) hs
set_option maxRecDepth 20000 in
theorem e_tell_8 {lf_huts lf_singers lf_villages lf_dams lf_echoes lf_deep lf_slide vf_deeds sf_facts cf_voices cf_step : Int32} {la_heights la_ladders la_minutes la_echoFrom la_echoTo la_homes la_talls la_known va_kinds va_firsts va_seconds sa_heard sa_huts sa_minutes ca_parts ca_heights : Nat → Int32} {nums td : Nat → Int32} {h s fh fs a b c : Int32} {post : (Int32) → (Int32) → (Int32) → (Int32) → (Int32) → (Int32) → (Int32) → (Nat → Int32) → (Nat → Int32) → (Nat → Int32) → (Nat → Int32) → (Nat → Int32) → (Nat → Int32) → (Nat → Int32) → (Nat → Int32) → (Int32) → (Nat → Int32) → (Nat → Int32) → (Nat → Int32) → (Int32) → (Nat → Int32) → (Nat → Int32) → (Nat → Int32) → (Int32) → (Int32) → (Nat → Int32) → (Nat → Int32) → Int32 → Int32 → Prop} (hC : CB 0 td) (hf : fu 8 td = false) (n0 : nums 0 = a) (c0 : cW 8 0 a a = true) (n1 : nums 1 = b) (c1 : cW 8 1 a b = true) (hD : DR 0 lf_huts lf_singers lf_villages lf_dams lf_echoes lf_deep lf_slide la_heights la_ladders la_minutes la_echoFrom la_echoTo la_homes la_talls la_known vf_deeds va_kinds va_firsts va_seconds sf_facts sa_heard sa_huts sa_minutes cf_voices cf_step ca_parts ca_heights h s td fh fs) (hpo : ∀ (lf_huts' : Int32) (lf_singers' : Int32) (lf_villages' : Int32) (lf_dams' : Int32) (lf_echoes' : Int32) (lf_deep' : Int32) (lf_slide' : Int32) (la_heights' : Nat → Int32) (la_ladders' : Nat → Int32) (la_minutes' : Nat → Int32) (la_echoFrom' : Nat → Int32) (la_echoTo' : Nat → Int32) (la_homes' : Nat → Int32) (la_talls' : Nat → Int32) (la_known' : Nat → Int32) (vf_deeds' : Int32) (va_kinds' : Nat → Int32) (va_firsts' : Nat → Int32) (va_seconds' : Nat → Int32) (sf_facts' : Int32) (sa_heard' : Nat → Int32) (sa_huts' : Nat → Int32) (sa_minutes' : Nat → Int32) (cf_voices' : Int32) (cf_step' : Int32) (ca_parts' : Nat → Int32) (ca_heights' : Nat → Int32) (h' s' : Int32), DR 0 lf_huts' lf_singers' lf_villages' lf_dams' lf_echoes' lf_deep' lf_slide' la_heights' la_ladders' la_minutes' la_echoFrom' la_echoTo' la_homes' la_talls' la_known' vf_deeds' va_kinds' va_firsts' va_seconds' sf_facts' sa_heard' sa_huts' sa_minutes' cf_voices' cf_step' ca_parts' ca_heights' h' s' (lD 8 true a b c td) (lH 8 a b fh) (lS 8 a fs) → post lf_huts' lf_singers' lf_villages' lf_dams' lf_echoes' lf_deep' lf_slide' la_heights' la_ladders' la_minutes' la_echoFrom' la_echoTo' la_homes' la_talls' la_known' vf_deeds' va_kinds' va_firsts' va_seconds' sf_facts' sa_heard' sa_huts' sa_minutes' cf_voices' cf_step' ca_parts' ca_heights' h' s') : q_wr_X4_tell_0 lf_huts lf_singers lf_villages lf_dams lf_echoes lf_deep lf_slide la_heights la_ladders la_minutes la_echoFrom la_echoTo la_homes la_talls la_known vf_deeds va_kinds va_firsts va_seconds sf_facts sa_heard sa_huts sa_minutes cf_voices cf_step ca_parts ca_heights nums h s (nI 8) post := by
  have ha : iv 0 8 a := iv_w (cW_iv c0) (by decide +kernel)
  have hb : iv 0 9 b := iv_w (cW_iv c1) (by decide +kernel)
  obtain ⟨b0, b1, b4⟩ := CB_n hC
  obtain ⟨hL, hh, hs⟩ := hD.1 rfl
  refine ⟨fun h9 => absurd h9 (by decide +kernel), fun _ => ?_⟩
  rw [c_0, c_1, c_2, n0, n1]
  refine ⟨fun h9 => absurd h9 (by decide +kernel), fun h9 => absurd h9 (by decide +kernel), fun h9 => absurd h9 (by decide +kernel), fun h9 => absurd h9 (by decide +kernel), fun h9 => absurd h9 (by decide +kernel), fun h9 => absurd h9 (by decide +kernel), fun h9 => absurd h9 (by decide +kernel), fun h9 => absurd h9 (by decide +kernel), fun h9 => absurd h9 (by decide +kernel), fun _ => ?_⟩
  obtain ⟨k, hk, -, hk9, -⟩ := iv_nI (hC.2 rfl).1 (by decide)
  have hne : ¬ td 1 = 6 := fun h9 => by
    have := of_decide_eq_false hf
    exact this (by simp [h9])
  have hk8 : k < 6 := Nat.lt_of_le_of_ne (by omega) (fun h9 => hne (by rw [hk, h9]; rfl))
  have e0 : lf_singers = nI k := hL.2.1.trans hk
  have hin : vp_in lf_singers 6 := by rw [e0]; exact vp_in_nI hk8 (by omega)
  refine ⟨hin, fun t1 e1 => ⟨hin, fun t2 e2 v e3 v2 e4 => ?_⟩⟩
  rw [e0, nI_clamp (by omega)] at e1 e2
  rw [e0, nI_1] at e3
  subst e1 e2 e3 e4
  refine hpo _ _ _ _ _ _ _ _ _ _ _ _ _ _ _ _ _ _ _ _ _ _ _ _ _ _ _ _ _ ?_
  have e : lD 8 true a b c td = upd (upd (upd td 1 (nI (k + 1))) (25 + k) a) (31 + k) b := by
    show (if td 1 = 6 then td else upd (upd (upd td 1 (td 1 + 1)) (Int32.toNatClampNeg (25 + td 1)) a) (Int32.toNatClampNeg (31 + td 1)) b) = _
    rw [if_neg hne, hk, nI_1, show (25 : Int32) = nI 25 from rfl, show (31 : Int32) = nI 31 from rfl, nI_add, nI_add, nI_clamp (by omega), nI_clamp (by omega)]
  rw [e]
  exact DR0 (LDR_sin a b hk hk8 hL b0 b1 b4) (HB_or hh ha) hs
set_option maxRecDepth 20000 in
theorem e_tell_9 {lf_huts lf_singers lf_villages lf_dams lf_echoes lf_deep lf_slide vf_deeds sf_facts cf_voices cf_step : Int32} {la_heights la_ladders la_minutes la_echoFrom la_echoTo la_homes la_talls la_known va_kinds va_firsts va_seconds sa_heard sa_huts sa_minutes ca_parts ca_heights : Nat → Int32} {nums td : Nat → Int32} {h s fh fs a b c : Int32} {post : (Int32) → (Int32) → (Int32) → (Int32) → (Int32) → (Int32) → (Int32) → (Nat → Int32) → (Nat → Int32) → (Nat → Int32) → (Nat → Int32) → (Nat → Int32) → (Nat → Int32) → (Nat → Int32) → (Nat → Int32) → (Int32) → (Nat → Int32) → (Nat → Int32) → (Nat → Int32) → (Int32) → (Nat → Int32) → (Nat → Int32) → (Nat → Int32) → (Int32) → (Int32) → (Nat → Int32) → (Nat → Int32) → Int32 → Int32 → Prop} (hC : CB 0 td) (hf : fu 9 td = false) (n0 : nums 0 = a) (c0 : cW 9 0 a a = true) (n1 : nums 1 = b) (c1 : cW 9 1 a b = true) (hD : DR 0 lf_huts lf_singers lf_villages lf_dams lf_echoes lf_deep lf_slide la_heights la_ladders la_minutes la_echoFrom la_echoTo la_homes la_talls la_known vf_deeds va_kinds va_firsts va_seconds sf_facts sa_heard sa_huts sa_minutes cf_voices cf_step ca_parts ca_heights h s td fh fs) (hpo : ∀ (lf_huts' : Int32) (lf_singers' : Int32) (lf_villages' : Int32) (lf_dams' : Int32) (lf_echoes' : Int32) (lf_deep' : Int32) (lf_slide' : Int32) (la_heights' : Nat → Int32) (la_ladders' : Nat → Int32) (la_minutes' : Nat → Int32) (la_echoFrom' : Nat → Int32) (la_echoTo' : Nat → Int32) (la_homes' : Nat → Int32) (la_talls' : Nat → Int32) (la_known' : Nat → Int32) (vf_deeds' : Int32) (va_kinds' : Nat → Int32) (va_firsts' : Nat → Int32) (va_seconds' : Nat → Int32) (sf_facts' : Int32) (sa_heard' : Nat → Int32) (sa_huts' : Nat → Int32) (sa_minutes' : Nat → Int32) (cf_voices' : Int32) (cf_step' : Int32) (ca_parts' : Nat → Int32) (ca_heights' : Nat → Int32) (h' s' : Int32), DR 0 lf_huts' lf_singers' lf_villages' lf_dams' lf_echoes' lf_deep' lf_slide' la_heights' la_ladders' la_minutes' la_echoFrom' la_echoTo' la_homes' la_talls' la_known' vf_deeds' va_kinds' va_firsts' va_seconds' sf_facts' sa_heard' sa_huts' sa_minutes' cf_voices' cf_step' ca_parts' ca_heights' h' s' (lD 9 true a b c td) (lH 9 a b fh) (lS 9 a fs) → post lf_huts' lf_singers' lf_villages' lf_dams' lf_echoes' lf_deep' lf_slide' la_heights' la_ladders' la_minutes' la_echoFrom' la_echoTo' la_homes' la_talls' la_known' vf_deeds' va_kinds' va_firsts' va_seconds' sf_facts' sa_heard' sa_huts' sa_minutes' cf_voices' cf_step' ca_parts' ca_heights' h' s') : q_wr_X4_tell_0 lf_huts lf_singers lf_villages lf_dams lf_echoes lf_deep lf_slide la_heights la_ladders la_minutes la_echoFrom la_echoTo la_homes la_talls la_known vf_deeds va_kinds va_firsts va_seconds sf_facts sa_heard sa_huts sa_minutes cf_voices cf_step ca_parts ca_heights nums h s (nI 9) post := by
  have ha : iv 0 5 a := iv_w (cW_iv c0) (by decide +kernel)
  have hb : iv 0 4 b := iv_w (cW_iv c1) (by decide +kernel)
  obtain ⟨b0, b1, b4⟩ := CB_n hC
  obtain ⟨hL, hh, hs⟩ := hD.1 rfl
  refine ⟨fun h9 => absurd h9 (by decide +kernel), fun _ => ?_⟩
  rw [c_0, c_1, c_2, n0, n1]
  refine ⟨fun _ => ?_, fun h9 => absurd h9 (by decide +kernel), fun h9 => absurd h9 (by decide +kernel), fun h9 => absurd h9 (by decide +kernel), fun h9 => absurd h9 (by decide +kernel), fun h9 => absurd h9 (by decide +kernel), fun h9 => absurd h9 (by decide +kernel), fun h9 => absurd h9 (by decide +kernel), fun h9 => absurd h9 (by decide +kernel), fun h9 => absurd h9 (by decide +kernel)⟩
  obtain ⟨p, ep, -, hp, -⟩ := iv_nI ha (by decide)
  have hin : vp_in a 6 := by rw [ep]; exact vp_in_nI (by omega) (by omega)
  refine ⟨hin, fun v e0 => ⟨hin, fun t1 e1 v2 e2 => ?_⟩⟩
  rw [ep, nI_clamp (by omega)] at e0 e1
  subst e1 e2
  refine hpo _ _ _ _ _ _ _ _ _ _ _ _ _ _ _ _ _ _ _ _ _ _ _ _ _ _ _ _ _ ?_
  have e : lD 9 true a b c td = upd td (37 + p) v := by
    show upd td (Int32.toNatClampNeg (37 + a)) (td (Int32.toNatClampNeg (37 + a)) ||| 1 <<< (b &&& 31)) = _
    rw [ep, show (37 : Int32) = nI 37 from rfl, nI_add, nI_clamp (by omega), e0, hL.2.2.2.2.2.2.2.2.2.2.2.2 p (by omega)]
  rw [e]
  exact DR0 (LDR_kno v (show p < 6 by omega) hL b0 b1 b4) hh (HB_or hs (iv_w ha (by decide)))
set_option maxRecDepth 20000 in
theorem e_tell_10 {lf_huts lf_singers lf_villages lf_dams lf_echoes lf_deep lf_slide vf_deeds sf_facts cf_voices cf_step : Int32} {la_heights la_ladders la_minutes la_echoFrom la_echoTo la_homes la_talls la_known va_kinds va_firsts va_seconds sa_heard sa_huts sa_minutes ca_parts ca_heights : Nat → Int32} {nums td : Nat → Int32} {h s fh fs a b c : Int32} {post : (Int32) → (Int32) → (Int32) → (Int32) → (Int32) → (Int32) → (Int32) → (Nat → Int32) → (Nat → Int32) → (Nat → Int32) → (Nat → Int32) → (Nat → Int32) → (Nat → Int32) → (Nat → Int32) → (Nat → Int32) → (Int32) → (Nat → Int32) → (Nat → Int32) → (Nat → Int32) → (Int32) → (Nat → Int32) → (Nat → Int32) → (Nat → Int32) → (Int32) → (Int32) → (Nat → Int32) → (Nat → Int32) → Int32 → Int32 → Prop} (hC : CB 1 td) (hf : fu 10 td = false) (n0 : nums 0 = a) (c0 : cW 10 0 a a = true) (n1 : nums 1 = b) (c1 : cW 10 1 a b = true) (hD : DR 1 lf_huts lf_singers lf_villages lf_dams lf_echoes lf_deep lf_slide la_heights la_ladders la_minutes la_echoFrom la_echoTo la_homes la_talls la_known vf_deeds va_kinds va_firsts va_seconds sf_facts sa_heard sa_huts sa_minutes cf_voices cf_step ca_parts ca_heights h s td fh fs) (hpo : ∀ (lf_huts' : Int32) (lf_singers' : Int32) (lf_villages' : Int32) (lf_dams' : Int32) (lf_echoes' : Int32) (lf_deep' : Int32) (lf_slide' : Int32) (la_heights' : Nat → Int32) (la_ladders' : Nat → Int32) (la_minutes' : Nat → Int32) (la_echoFrom' : Nat → Int32) (la_echoTo' : Nat → Int32) (la_homes' : Nat → Int32) (la_talls' : Nat → Int32) (la_known' : Nat → Int32) (vf_deeds' : Int32) (va_kinds' : Nat → Int32) (va_firsts' : Nat → Int32) (va_seconds' : Nat → Int32) (sf_facts' : Int32) (sa_heard' : Nat → Int32) (sa_huts' : Nat → Int32) (sa_minutes' : Nat → Int32) (cf_voices' : Int32) (cf_step' : Int32) (ca_parts' : Nat → Int32) (ca_heights' : Nat → Int32) (h' s' : Int32), DR 1 lf_huts' lf_singers' lf_villages' lf_dams' lf_echoes' lf_deep' lf_slide' la_heights' la_ladders' la_minutes' la_echoFrom' la_echoTo' la_homes' la_talls' la_known' vf_deeds' va_kinds' va_firsts' va_seconds' sf_facts' sa_heard' sa_huts' sa_minutes' cf_voices' cf_step' ca_parts' ca_heights' h' s' (lD 10 true a b c td) (lH 10 a b fh) (lS 10 a fs) → post lf_huts' lf_singers' lf_villages' lf_dams' lf_echoes' lf_deep' lf_slide' la_heights' la_ladders' la_minutes' la_echoFrom' la_echoTo' la_homes' la_talls' la_known' vf_deeds' va_kinds' va_firsts' va_seconds' sf_facts' sa_heard' sa_huts' sa_minutes' cf_voices' cf_step' ca_parts' ca_heights' h' s') : q_wr_X4_tell_0 lf_huts lf_singers lf_villages lf_dams lf_echoes lf_deep lf_slide la_heights la_ladders la_minutes la_echoFrom la_echoTo la_homes la_talls la_known vf_deeds va_kinds va_firsts va_seconds sf_facts sa_heard sa_huts sa_minutes cf_voices cf_step ca_parts ca_heights nums h s (nI 10) post := by
  have hL := hD.2.1 rfl
  obtain ⟨k, hk, -, hk9, -⟩ := iv_nI hC.1 (by decide)
  have hne : ¬ td 0 = 40 := fun h9 => by
    have := of_decide_eq_false hf
    exact this (by simp [h9])
  have hk8 : k < 40 := Nat.lt_of_le_of_ne (by omega) (fun h9 => hne (by rw [hk, h9]; rfl))
  have e0 : vf_deeds = nI k := hL.1.trans hk
  have hin : vp_in vf_deeds 40 := by rw [e0]; exact vp_in_nI hk8 (by omega)
  refine ⟨fun _ => ⟨fun h9 => absurd h9 (by decide +kernel), fun _ => ⟨vp_in_nI (by decide) (by decide), ?_⟩⟩, fun h9 => absurd h9 (by decide +kernel)⟩
  rw [c_0, c_1, n0, n1]
  refine ⟨fun h9 => absurd h9 (by decide +kernel), fun _ => ?_⟩
  refine ⟨fun h9 => absurd h9 (by rw [e0]; exact nI_ge (b := 40) hk8 (by omega)), fun _ => ⟨hin, fun t1 e1 => ⟨hin, fun t2 e2 => ⟨hin, fun t3 e3 v e4 => ?_⟩⟩⟩⟩
  rw [e0, nI_clamp (by omega)] at e1 e2 e3
  rw [e0, nI_1] at e4
  subst e1 e2 e3 e4
  refine hpo _ _ _ _ _ _ _ _ _ _ _ _ _ _ _ _ _ _ _ _ _ _ _ _ _ _ _ _ _ ?_
  have e : lD 10 true a b c td = upd (upd (upd (upd td 0 (nI (k + 1))) (1 + 3 * k) (nI 10 - 10)) (2 + 3 * k) a) (3 + 3 * k) b := by
    show (if td 0 = 40 then td else upd (upd (upd (upd td 0 (td 0 + 1)) (Int32.toNatClampNeg ((1 + 3 * td 0) + 0)) (nI (10 - 10))) (Int32.toNatClampNeg ((1 + 3 * td 0) + 1)) a) (Int32.toNatClampNeg ((1 + 3 * td 0) + 2)) b) = _
    have q0 : Int32.toNatClampNeg ((1 + 3 * td 0) + 0) = 1 + 3 * k := by rw [hk, show (1 : Int32) = nI 1 from rfl, show (3 : Int32) = nI 3 from rfl, show (0 : Int32) = nI 0 from rfl, jx2, nI_clamp (by omega)]; omega
    have q1 : Int32.toNatClampNeg ((1 + 3 * td 0) + 1) = 2 + 3 * k := by rw [hk, show (1 : Int32) = nI 1 from rfl, show (3 : Int32) = nI 3 from rfl, jx2, nI_clamp (by omega)]; omega
    have q2 : Int32.toNatClampNeg ((1 + 3 * td 0) + 2) = 3 + 3 * k := by rw [hk, show (1 : Int32) = nI 1 from rfl, show (3 : Int32) = nI 3 from rfl, show (2 : Int32) = nI 2 from rfl, jx2, nI_clamp (by omega)]; omega
    rw [if_neg hne, q0, q1, q2, hk, nI_1]
    rfl
  rw [e]
  exact DR1 (R3_add _ _ _ hL hk (by omega))
set_option maxRecDepth 20000 in
theorem e_tell_11 {lf_huts lf_singers lf_villages lf_dams lf_echoes lf_deep lf_slide vf_deeds sf_facts cf_voices cf_step : Int32} {la_heights la_ladders la_minutes la_echoFrom la_echoTo la_homes la_talls la_known va_kinds va_firsts va_seconds sa_heard sa_huts sa_minutes ca_parts ca_heights : Nat → Int32} {nums td : Nat → Int32} {h s fh fs a b c : Int32} {post : (Int32) → (Int32) → (Int32) → (Int32) → (Int32) → (Int32) → (Int32) → (Nat → Int32) → (Nat → Int32) → (Nat → Int32) → (Nat → Int32) → (Nat → Int32) → (Nat → Int32) → (Nat → Int32) → (Nat → Int32) → (Int32) → (Nat → Int32) → (Nat → Int32) → (Nat → Int32) → (Int32) → (Nat → Int32) → (Nat → Int32) → (Nat → Int32) → (Int32) → (Int32) → (Nat → Int32) → (Nat → Int32) → Int32 → Int32 → Prop} (hC : CB 1 td) (hf : fu 11 td = false) (n0 : nums 0 = a) (c0 : cW 11 0 a a = true) (n1 : nums 1 = b) (c1 : cW 11 1 a b = true) (hD : DR 1 lf_huts lf_singers lf_villages lf_dams lf_echoes lf_deep lf_slide la_heights la_ladders la_minutes la_echoFrom la_echoTo la_homes la_talls la_known vf_deeds va_kinds va_firsts va_seconds sf_facts sa_heard sa_huts sa_minutes cf_voices cf_step ca_parts ca_heights h s td fh fs) (hpo : ∀ (lf_huts' : Int32) (lf_singers' : Int32) (lf_villages' : Int32) (lf_dams' : Int32) (lf_echoes' : Int32) (lf_deep' : Int32) (lf_slide' : Int32) (la_heights' : Nat → Int32) (la_ladders' : Nat → Int32) (la_minutes' : Nat → Int32) (la_echoFrom' : Nat → Int32) (la_echoTo' : Nat → Int32) (la_homes' : Nat → Int32) (la_talls' : Nat → Int32) (la_known' : Nat → Int32) (vf_deeds' : Int32) (va_kinds' : Nat → Int32) (va_firsts' : Nat → Int32) (va_seconds' : Nat → Int32) (sf_facts' : Int32) (sa_heard' : Nat → Int32) (sa_huts' : Nat → Int32) (sa_minutes' : Nat → Int32) (cf_voices' : Int32) (cf_step' : Int32) (ca_parts' : Nat → Int32) (ca_heights' : Nat → Int32) (h' s' : Int32), DR 1 lf_huts' lf_singers' lf_villages' lf_dams' lf_echoes' lf_deep' lf_slide' la_heights' la_ladders' la_minutes' la_echoFrom' la_echoTo' la_homes' la_talls' la_known' vf_deeds' va_kinds' va_firsts' va_seconds' sf_facts' sa_heard' sa_huts' sa_minutes' cf_voices' cf_step' ca_parts' ca_heights' h' s' (lD 11 true a b c td) (lH 11 a b fh) (lS 11 a fs) → post lf_huts' lf_singers' lf_villages' lf_dams' lf_echoes' lf_deep' lf_slide' la_heights' la_ladders' la_minutes' la_echoFrom' la_echoTo' la_homes' la_talls' la_known' vf_deeds' va_kinds' va_firsts' va_seconds' sf_facts' sa_heard' sa_huts' sa_minutes' cf_voices' cf_step' ca_parts' ca_heights' h' s') : q_wr_X4_tell_0 lf_huts lf_singers lf_villages lf_dams lf_echoes lf_deep lf_slide la_heights la_ladders la_minutes la_echoFrom la_echoTo la_homes la_talls la_known vf_deeds va_kinds va_firsts va_seconds sf_facts sa_heard sa_huts sa_minutes cf_voices cf_step ca_parts ca_heights nums h s (nI 11) post := by
  have hL := hD.2.1 rfl
  obtain ⟨k, hk, -, hk9, -⟩ := iv_nI hC.1 (by decide)
  have hne : ¬ td 0 = 40 := fun h9 => by
    have := of_decide_eq_false hf
    exact this (by simp [h9])
  have hk8 : k < 40 := Nat.lt_of_le_of_ne (by omega) (fun h9 => hne (by rw [hk, h9]; rfl))
  have e0 : vf_deeds = nI k := hL.1.trans hk
  have hin : vp_in vf_deeds 40 := by rw [e0]; exact vp_in_nI hk8 (by omega)
  refine ⟨fun _ => ⟨fun h9 => absurd h9 (by decide +kernel), fun _ => ⟨vp_in_nI (by decide) (by decide), ?_⟩⟩, fun h9 => absurd h9 (by decide +kernel)⟩
  rw [c_0, c_1, n0, n1]
  refine ⟨fun h9 => absurd h9 (by decide +kernel), fun _ => ?_⟩
  refine ⟨fun h9 => absurd h9 (by rw [e0]; exact nI_ge (b := 40) hk8 (by omega)), fun _ => ⟨hin, fun t1 e1 => ⟨hin, fun t2 e2 => ⟨hin, fun t3 e3 v e4 => ?_⟩⟩⟩⟩
  rw [e0, nI_clamp (by omega)] at e1 e2 e3
  rw [e0, nI_1] at e4
  subst e1 e2 e3 e4
  refine hpo _ _ _ _ _ _ _ _ _ _ _ _ _ _ _ _ _ _ _ _ _ _ _ _ _ _ _ _ _ ?_
  have e : lD 11 true a b c td = upd (upd (upd (upd td 0 (nI (k + 1))) (1 + 3 * k) (nI 11 - 10)) (2 + 3 * k) a) (3 + 3 * k) b := by
    show (if td 0 = 40 then td else upd (upd (upd (upd td 0 (td 0 + 1)) (Int32.toNatClampNeg ((1 + 3 * td 0) + 0)) (nI (11 - 10))) (Int32.toNatClampNeg ((1 + 3 * td 0) + 1)) a) (Int32.toNatClampNeg ((1 + 3 * td 0) + 2)) b) = _
    have q0 : Int32.toNatClampNeg ((1 + 3 * td 0) + 0) = 1 + 3 * k := by rw [hk, show (1 : Int32) = nI 1 from rfl, show (3 : Int32) = nI 3 from rfl, show (0 : Int32) = nI 0 from rfl, jx2, nI_clamp (by omega)]; omega
    have q1 : Int32.toNatClampNeg ((1 + 3 * td 0) + 1) = 2 + 3 * k := by rw [hk, show (1 : Int32) = nI 1 from rfl, show (3 : Int32) = nI 3 from rfl, jx2, nI_clamp (by omega)]; omega
    have q2 : Int32.toNatClampNeg ((1 + 3 * td 0) + 2) = 3 + 3 * k := by rw [hk, show (1 : Int32) = nI 1 from rfl, show (3 : Int32) = nI 3 from rfl, show (2 : Int32) = nI 2 from rfl, jx2, nI_clamp (by omega)]; omega
    rw [if_neg hne, q0, q1, q2, hk, nI_1]
    rfl
  rw [e]
  exact DR1 (R3_add _ _ _ hL hk (by omega))
set_option maxRecDepth 20000 in
theorem e_tell_12 {lf_huts lf_singers lf_villages lf_dams lf_echoes lf_deep lf_slide vf_deeds sf_facts cf_voices cf_step : Int32} {la_heights la_ladders la_minutes la_echoFrom la_echoTo la_homes la_talls la_known va_kinds va_firsts va_seconds sa_heard sa_huts sa_minutes ca_parts ca_heights : Nat → Int32} {nums td : Nat → Int32} {h s fh fs a b c : Int32} {post : (Int32) → (Int32) → (Int32) → (Int32) → (Int32) → (Int32) → (Int32) → (Nat → Int32) → (Nat → Int32) → (Nat → Int32) → (Nat → Int32) → (Nat → Int32) → (Nat → Int32) → (Nat → Int32) → (Nat → Int32) → (Int32) → (Nat → Int32) → (Nat → Int32) → (Nat → Int32) → (Int32) → (Nat → Int32) → (Nat → Int32) → (Nat → Int32) → (Int32) → (Int32) → (Nat → Int32) → (Nat → Int32) → Int32 → Int32 → Prop} (hC : CB 1 td) (hf : fu 12 td = false) (n0 : nums 0 = a) (c0 : cW 12 0 a a = true) (n1 : nums 1 = b) (c1 : cW 12 1 a b = true) (hD : DR 1 lf_huts lf_singers lf_villages lf_dams lf_echoes lf_deep lf_slide la_heights la_ladders la_minutes la_echoFrom la_echoTo la_homes la_talls la_known vf_deeds va_kinds va_firsts va_seconds sf_facts sa_heard sa_huts sa_minutes cf_voices cf_step ca_parts ca_heights h s td fh fs) (hpo : ∀ (lf_huts' : Int32) (lf_singers' : Int32) (lf_villages' : Int32) (lf_dams' : Int32) (lf_echoes' : Int32) (lf_deep' : Int32) (lf_slide' : Int32) (la_heights' : Nat → Int32) (la_ladders' : Nat → Int32) (la_minutes' : Nat → Int32) (la_echoFrom' : Nat → Int32) (la_echoTo' : Nat → Int32) (la_homes' : Nat → Int32) (la_talls' : Nat → Int32) (la_known' : Nat → Int32) (vf_deeds' : Int32) (va_kinds' : Nat → Int32) (va_firsts' : Nat → Int32) (va_seconds' : Nat → Int32) (sf_facts' : Int32) (sa_heard' : Nat → Int32) (sa_huts' : Nat → Int32) (sa_minutes' : Nat → Int32) (cf_voices' : Int32) (cf_step' : Int32) (ca_parts' : Nat → Int32) (ca_heights' : Nat → Int32) (h' s' : Int32), DR 1 lf_huts' lf_singers' lf_villages' lf_dams' lf_echoes' lf_deep' lf_slide' la_heights' la_ladders' la_minutes' la_echoFrom' la_echoTo' la_homes' la_talls' la_known' vf_deeds' va_kinds' va_firsts' va_seconds' sf_facts' sa_heard' sa_huts' sa_minutes' cf_voices' cf_step' ca_parts' ca_heights' h' s' (lD 12 true a b c td) (lH 12 a b fh) (lS 12 a fs) → post lf_huts' lf_singers' lf_villages' lf_dams' lf_echoes' lf_deep' lf_slide' la_heights' la_ladders' la_minutes' la_echoFrom' la_echoTo' la_homes' la_talls' la_known' vf_deeds' va_kinds' va_firsts' va_seconds' sf_facts' sa_heard' sa_huts' sa_minutes' cf_voices' cf_step' ca_parts' ca_heights' h' s') : q_wr_X4_tell_0 lf_huts lf_singers lf_villages lf_dams lf_echoes lf_deep lf_slide la_heights la_ladders la_minutes la_echoFrom la_echoTo la_homes la_talls la_known vf_deeds va_kinds va_firsts va_seconds sf_facts sa_heard sa_huts sa_minutes cf_voices cf_step ca_parts ca_heights nums h s (nI 12) post := by
  have hL := hD.2.1 rfl
  obtain ⟨k, hk, -, hk9, -⟩ := iv_nI hC.1 (by decide)
  have hne : ¬ td 0 = 40 := fun h9 => by
    have := of_decide_eq_false hf
    exact this (by simp [h9])
  have hk8 : k < 40 := Nat.lt_of_le_of_ne (by omega) (fun h9 => hne (by rw [hk, h9]; rfl))
  have e0 : vf_deeds = nI k := hL.1.trans hk
  have hin : vp_in vf_deeds 40 := by rw [e0]; exact vp_in_nI hk8 (by omega)
  refine ⟨fun _ => ⟨fun h9 => absurd h9 (by decide +kernel), fun _ => ⟨vp_in_nI (by decide) (by decide), ?_⟩⟩, fun h9 => absurd h9 (by decide +kernel)⟩
  rw [c_0, c_1, n0, n1]
  refine ⟨fun h9 => absurd h9 (by decide +kernel), fun _ => ?_⟩
  refine ⟨fun h9 => absurd h9 (by rw [e0]; exact nI_ge (b := 40) hk8 (by omega)), fun _ => ⟨hin, fun t1 e1 => ⟨hin, fun t2 e2 => ⟨hin, fun t3 e3 v e4 => ?_⟩⟩⟩⟩
  rw [e0, nI_clamp (by omega)] at e1 e2 e3
  rw [e0, nI_1] at e4
  subst e1 e2 e3 e4
  refine hpo _ _ _ _ _ _ _ _ _ _ _ _ _ _ _ _ _ _ _ _ _ _ _ _ _ _ _ _ _ ?_
  have e : lD 12 true a b c td = upd (upd (upd (upd td 0 (nI (k + 1))) (1 + 3 * k) (nI 12 - 10)) (2 + 3 * k) a) (3 + 3 * k) b := by
    show (if td 0 = 40 then td else upd (upd (upd (upd td 0 (td 0 + 1)) (Int32.toNatClampNeg ((1 + 3 * td 0) + 0)) (nI (12 - 10))) (Int32.toNatClampNeg ((1 + 3 * td 0) + 1)) a) (Int32.toNatClampNeg ((1 + 3 * td 0) + 2)) b) = _
    have q0 : Int32.toNatClampNeg ((1 + 3 * td 0) + 0) = 1 + 3 * k := by rw [hk, show (1 : Int32) = nI 1 from rfl, show (3 : Int32) = nI 3 from rfl, show (0 : Int32) = nI 0 from rfl, jx2, nI_clamp (by omega)]; omega
    have q1 : Int32.toNatClampNeg ((1 + 3 * td 0) + 1) = 2 + 3 * k := by rw [hk, show (1 : Int32) = nI 1 from rfl, show (3 : Int32) = nI 3 from rfl, jx2, nI_clamp (by omega)]; omega
    have q2 : Int32.toNatClampNeg ((1 + 3 * td 0) + 2) = 3 + 3 * k := by rw [hk, show (1 : Int32) = nI 1 from rfl, show (3 : Int32) = nI 3 from rfl, show (2 : Int32) = nI 2 from rfl, jx2, nI_clamp (by omega)]; omega
    rw [if_neg hne, q0, q1, q2, hk, nI_1]
    rfl
  rw [e]
  exact DR1 (R3_add _ _ _ hL hk (by omega))
set_option maxRecDepth 20000 in
theorem e_tell_13 {lf_huts lf_singers lf_villages lf_dams lf_echoes lf_deep lf_slide vf_deeds sf_facts cf_voices cf_step : Int32} {la_heights la_ladders la_minutes la_echoFrom la_echoTo la_homes la_talls la_known va_kinds va_firsts va_seconds sa_heard sa_huts sa_minutes ca_parts ca_heights : Nat → Int32} {nums td : Nat → Int32} {h s fh fs a b c : Int32} {post : (Int32) → (Int32) → (Int32) → (Int32) → (Int32) → (Int32) → (Int32) → (Nat → Int32) → (Nat → Int32) → (Nat → Int32) → (Nat → Int32) → (Nat → Int32) → (Nat → Int32) → (Nat → Int32) → (Nat → Int32) → (Int32) → (Nat → Int32) → (Nat → Int32) → (Nat → Int32) → (Int32) → (Nat → Int32) → (Nat → Int32) → (Nat → Int32) → (Int32) → (Int32) → (Nat → Int32) → (Nat → Int32) → Int32 → Int32 → Prop} (hC : CB 1 td) (hf : fu 13 td = false) (n0 : nums 0 = a) (c0 : cW 13 0 a a = true) (n1 : nums 1 = b) (c1 : cW 13 1 a b = true) (hD : DR 1 lf_huts lf_singers lf_villages lf_dams lf_echoes lf_deep lf_slide la_heights la_ladders la_minutes la_echoFrom la_echoTo la_homes la_talls la_known vf_deeds va_kinds va_firsts va_seconds sf_facts sa_heard sa_huts sa_minutes cf_voices cf_step ca_parts ca_heights h s td fh fs) (hpo : ∀ (lf_huts' : Int32) (lf_singers' : Int32) (lf_villages' : Int32) (lf_dams' : Int32) (lf_echoes' : Int32) (lf_deep' : Int32) (lf_slide' : Int32) (la_heights' : Nat → Int32) (la_ladders' : Nat → Int32) (la_minutes' : Nat → Int32) (la_echoFrom' : Nat → Int32) (la_echoTo' : Nat → Int32) (la_homes' : Nat → Int32) (la_talls' : Nat → Int32) (la_known' : Nat → Int32) (vf_deeds' : Int32) (va_kinds' : Nat → Int32) (va_firsts' : Nat → Int32) (va_seconds' : Nat → Int32) (sf_facts' : Int32) (sa_heard' : Nat → Int32) (sa_huts' : Nat → Int32) (sa_minutes' : Nat → Int32) (cf_voices' : Int32) (cf_step' : Int32) (ca_parts' : Nat → Int32) (ca_heights' : Nat → Int32) (h' s' : Int32), DR 1 lf_huts' lf_singers' lf_villages' lf_dams' lf_echoes' lf_deep' lf_slide' la_heights' la_ladders' la_minutes' la_echoFrom' la_echoTo' la_homes' la_talls' la_known' vf_deeds' va_kinds' va_firsts' va_seconds' sf_facts' sa_heard' sa_huts' sa_minutes' cf_voices' cf_step' ca_parts' ca_heights' h' s' (lD 13 true a b c td) (lH 13 a b fh) (lS 13 a fs) → post lf_huts' lf_singers' lf_villages' lf_dams' lf_echoes' lf_deep' lf_slide' la_heights' la_ladders' la_minutes' la_echoFrom' la_echoTo' la_homes' la_talls' la_known' vf_deeds' va_kinds' va_firsts' va_seconds' sf_facts' sa_heard' sa_huts' sa_minutes' cf_voices' cf_step' ca_parts' ca_heights' h' s') : q_wr_X4_tell_0 lf_huts lf_singers lf_villages lf_dams lf_echoes lf_deep lf_slide la_heights la_ladders la_minutes la_echoFrom la_echoTo la_homes la_talls la_known vf_deeds va_kinds va_firsts va_seconds sf_facts sa_heard sa_huts sa_minutes cf_voices cf_step ca_parts ca_heights nums h s (nI 13) post := by
  have hL := hD.2.1 rfl
  obtain ⟨k, hk, -, hk9, -⟩ := iv_nI hC.1 (by decide)
  have hne : ¬ td 0 = 40 := fun h9 => by
    have := of_decide_eq_false hf
    exact this (by simp [h9])
  have hk8 : k < 40 := Nat.lt_of_le_of_ne (by omega) (fun h9 => hne (by rw [hk, h9]; rfl))
  have e0 : vf_deeds = nI k := hL.1.trans hk
  have hin : vp_in vf_deeds 40 := by rw [e0]; exact vp_in_nI hk8 (by omega)
  refine ⟨fun _ => ⟨fun h9 => absurd h9 (by decide +kernel), fun _ => ⟨vp_in_nI (by decide) (by decide), ?_⟩⟩, fun h9 => absurd h9 (by decide +kernel)⟩
  rw [c_0, c_1, n0, n1]
  refine ⟨fun h9 => absurd h9 (by decide +kernel), fun _ => ?_⟩
  refine ⟨fun h9 => absurd h9 (by rw [e0]; exact nI_ge (b := 40) hk8 (by omega)), fun _ => ⟨hin, fun t1 e1 => ⟨hin, fun t2 e2 => ⟨hin, fun t3 e3 v e4 => ?_⟩⟩⟩⟩
  rw [e0, nI_clamp (by omega)] at e1 e2 e3
  rw [e0, nI_1] at e4
  subst e1 e2 e3 e4
  refine hpo _ _ _ _ _ _ _ _ _ _ _ _ _ _ _ _ _ _ _ _ _ _ _ _ _ _ _ _ _ ?_
  have e : lD 13 true a b c td = upd (upd (upd (upd td 0 (nI (k + 1))) (1 + 3 * k) (nI 13 - 10)) (2 + 3 * k) a) (3 + 3 * k) b := by
    show (if td 0 = 40 then td else upd (upd (upd (upd td 0 (td 0 + 1)) (Int32.toNatClampNeg ((1 + 3 * td 0) + 0)) (nI (13 - 10))) (Int32.toNatClampNeg ((1 + 3 * td 0) + 1)) a) (Int32.toNatClampNeg ((1 + 3 * td 0) + 2)) b) = _
    have q0 : Int32.toNatClampNeg ((1 + 3 * td 0) + 0) = 1 + 3 * k := by rw [hk, show (1 : Int32) = nI 1 from rfl, show (3 : Int32) = nI 3 from rfl, show (0 : Int32) = nI 0 from rfl, jx2, nI_clamp (by omega)]; omega
    have q1 : Int32.toNatClampNeg ((1 + 3 * td 0) + 1) = 2 + 3 * k := by rw [hk, show (1 : Int32) = nI 1 from rfl, show (3 : Int32) = nI 3 from rfl, jx2, nI_clamp (by omega)]; omega
    have q2 : Int32.toNatClampNeg ((1 + 3 * td 0) + 2) = 3 + 3 * k := by rw [hk, show (1 : Int32) = nI 1 from rfl, show (3 : Int32) = nI 3 from rfl, show (2 : Int32) = nI 2 from rfl, jx2, nI_clamp (by omega)]; omega
    rw [if_neg hne, q0, q1, q2, hk, nI_1]
    rfl
  rw [e]
  exact DR1 (R3_add _ _ _ hL hk (by omega))
set_option maxRecDepth 20000 in
theorem e_tell_14 {lf_huts lf_singers lf_villages lf_dams lf_echoes lf_deep lf_slide vf_deeds sf_facts cf_voices cf_step : Int32} {la_heights la_ladders la_minutes la_echoFrom la_echoTo la_homes la_talls la_known va_kinds va_firsts va_seconds sa_heard sa_huts sa_minutes ca_parts ca_heights : Nat → Int32} {nums td : Nat → Int32} {h s fh fs a b c : Int32} {post : (Int32) → (Int32) → (Int32) → (Int32) → (Int32) → (Int32) → (Int32) → (Nat → Int32) → (Nat → Int32) → (Nat → Int32) → (Nat → Int32) → (Nat → Int32) → (Nat → Int32) → (Nat → Int32) → (Nat → Int32) → (Int32) → (Nat → Int32) → (Nat → Int32) → (Nat → Int32) → (Int32) → (Nat → Int32) → (Nat → Int32) → (Nat → Int32) → (Int32) → (Int32) → (Nat → Int32) → (Nat → Int32) → Int32 → Int32 → Prop} (hC : CB 1 td) (hf : fu 14 td = false) (n0 : nums 0 = a) (c0 : cW 14 0 a a = true) (hD : DR 1 lf_huts lf_singers lf_villages lf_dams lf_echoes lf_deep lf_slide la_heights la_ladders la_minutes la_echoFrom la_echoTo la_homes la_talls la_known vf_deeds va_kinds va_firsts va_seconds sf_facts sa_heard sa_huts sa_minutes cf_voices cf_step ca_parts ca_heights h s td fh fs) (hpo : ∀ (lf_huts' : Int32) (lf_singers' : Int32) (lf_villages' : Int32) (lf_dams' : Int32) (lf_echoes' : Int32) (lf_deep' : Int32) (lf_slide' : Int32) (la_heights' : Nat → Int32) (la_ladders' : Nat → Int32) (la_minutes' : Nat → Int32) (la_echoFrom' : Nat → Int32) (la_echoTo' : Nat → Int32) (la_homes' : Nat → Int32) (la_talls' : Nat → Int32) (la_known' : Nat → Int32) (vf_deeds' : Int32) (va_kinds' : Nat → Int32) (va_firsts' : Nat → Int32) (va_seconds' : Nat → Int32) (sf_facts' : Int32) (sa_heard' : Nat → Int32) (sa_huts' : Nat → Int32) (sa_minutes' : Nat → Int32) (cf_voices' : Int32) (cf_step' : Int32) (ca_parts' : Nat → Int32) (ca_heights' : Nat → Int32) (h' s' : Int32), DR 1 lf_huts' lf_singers' lf_villages' lf_dams' lf_echoes' lf_deep' lf_slide' la_heights' la_ladders' la_minutes' la_echoFrom' la_echoTo' la_homes' la_talls' la_known' vf_deeds' va_kinds' va_firsts' va_seconds' sf_facts' sa_heard' sa_huts' sa_minutes' cf_voices' cf_step' ca_parts' ca_heights' h' s' (lD 14 true a b c td) (lH 14 a b fh) (lS 14 a fs) → post lf_huts' lf_singers' lf_villages' lf_dams' lf_echoes' lf_deep' lf_slide' la_heights' la_ladders' la_minutes' la_echoFrom' la_echoTo' la_homes' la_talls' la_known' vf_deeds' va_kinds' va_firsts' va_seconds' sf_facts' sa_heard' sa_huts' sa_minutes' cf_voices' cf_step' ca_parts' ca_heights' h' s') : q_wr_X4_tell_0 lf_huts lf_singers lf_villages lf_dams lf_echoes lf_deep lf_slide la_heights la_ladders la_minutes la_echoFrom la_echoTo la_homes la_talls la_known vf_deeds va_kinds va_firsts va_seconds sf_facts sa_heard sa_huts sa_minutes cf_voices cf_step ca_parts ca_heights nums h s (nI 14) post := by
  have hL := hD.2.1 rfl
  obtain ⟨k, hk, -, hk9, -⟩ := iv_nI hC.1 (by decide)
  have hne : ¬ td 0 = 40 := fun h9 => by
    have := of_decide_eq_false hf
    exact this (by simp [h9])
  have hk8 : k < 40 := Nat.lt_of_le_of_ne (by omega) (fun h9 => hne (by rw [hk, h9]; rfl))
  have e0 : vf_deeds = nI k := hL.1.trans hk
  have hin : vp_in vf_deeds 40 := by rw [e0]; exact vp_in_nI hk8 (by omega)
  refine ⟨fun _ => ⟨fun h9 => absurd h9 (by decide +kernel), fun _ => ⟨vp_in_nI (by decide) (by decide), ?_⟩⟩, fun h9 => absurd h9 (by decide +kernel)⟩
  rw [c_0, n0]
  refine ⟨fun _ => ?_, fun h9 => absurd h9 (by decide +kernel)⟩
  refine ⟨fun h9 => absurd h9 (by rw [e0]; exact nI_ge (b := 40) hk8 (by omega)), fun _ => ⟨hin, fun t1 e1 => ⟨hin, fun t2 e2 => ⟨hin, fun t3 e3 v e4 => ?_⟩⟩⟩⟩
  rw [e0, nI_clamp (by omega)] at e1 e2 e3
  rw [e0, nI_1] at e4
  subst e1 e2 e3 e4
  refine hpo _ _ _ _ _ _ _ _ _ _ _ _ _ _ _ _ _ _ _ _ _ _ _ _ _ _ _ _ _ ?_
  have e : lD 14 true a b c td = upd (upd (upd (upd td 0 (nI (k + 1))) (1 + 3 * k) (nI 14 - 10)) (2 + 3 * k) a) (3 + 3 * k) (-1) := by
    show (if td 0 = 40 then td else upd (upd (upd (upd td 0 (td 0 + 1)) (Int32.toNatClampNeg ((1 + 3 * td 0) + 0)) (nI (14 - 10))) (Int32.toNatClampNeg ((1 + 3 * td 0) + 1)) a) (Int32.toNatClampNeg ((1 + 3 * td 0) + 2)) (-1)) = _
    have q0 : Int32.toNatClampNeg ((1 + 3 * td 0) + 0) = 1 + 3 * k := by rw [hk, show (1 : Int32) = nI 1 from rfl, show (3 : Int32) = nI 3 from rfl, show (0 : Int32) = nI 0 from rfl, jx2, nI_clamp (by omega)]; omega
    have q1 : Int32.toNatClampNeg ((1 + 3 * td 0) + 1) = 2 + 3 * k := by rw [hk, show (1 : Int32) = nI 1 from rfl, show (3 : Int32) = nI 3 from rfl, jx2, nI_clamp (by omega)]; omega
    have q2 : Int32.toNatClampNeg ((1 + 3 * td 0) + 2) = 3 + 3 * k := by rw [hk, show (1 : Int32) = nI 1 from rfl, show (3 : Int32) = nI 3 from rfl, show (2 : Int32) = nI 2 from rfl, jx2, nI_clamp (by omega)]; omega
    rw [if_neg hne, q0, q1, q2, hk, nI_1]
    rfl
  rw [e]
  exact DR1 (R3_add _ _ _ hL hk (by omega))
set_option maxRecDepth 20000 in
theorem e_tell_15 {lf_huts lf_singers lf_villages lf_dams lf_echoes lf_deep lf_slide vf_deeds sf_facts cf_voices cf_step : Int32} {la_heights la_ladders la_minutes la_echoFrom la_echoTo la_homes la_talls la_known va_kinds va_firsts va_seconds sa_heard sa_huts sa_minutes ca_parts ca_heights : Nat → Int32} {nums td : Nat → Int32} {h s fh fs a b c : Int32} {post : (Int32) → (Int32) → (Int32) → (Int32) → (Int32) → (Int32) → (Int32) → (Nat → Int32) → (Nat → Int32) → (Nat → Int32) → (Nat → Int32) → (Nat → Int32) → (Nat → Int32) → (Nat → Int32) → (Nat → Int32) → (Int32) → (Nat → Int32) → (Nat → Int32) → (Nat → Int32) → (Int32) → (Nat → Int32) → (Nat → Int32) → (Nat → Int32) → (Int32) → (Int32) → (Nat → Int32) → (Nat → Int32) → Int32 → Int32 → Prop} (hC : CB 1 td) (hf : fu 15 td = false) (n0 : nums 0 = a) (c0 : cW 15 0 a a = true) (hD : DR 1 lf_huts lf_singers lf_villages lf_dams lf_echoes lf_deep lf_slide la_heights la_ladders la_minutes la_echoFrom la_echoTo la_homes la_talls la_known vf_deeds va_kinds va_firsts va_seconds sf_facts sa_heard sa_huts sa_minutes cf_voices cf_step ca_parts ca_heights h s td fh fs) (hpo : ∀ (lf_huts' : Int32) (lf_singers' : Int32) (lf_villages' : Int32) (lf_dams' : Int32) (lf_echoes' : Int32) (lf_deep' : Int32) (lf_slide' : Int32) (la_heights' : Nat → Int32) (la_ladders' : Nat → Int32) (la_minutes' : Nat → Int32) (la_echoFrom' : Nat → Int32) (la_echoTo' : Nat → Int32) (la_homes' : Nat → Int32) (la_talls' : Nat → Int32) (la_known' : Nat → Int32) (vf_deeds' : Int32) (va_kinds' : Nat → Int32) (va_firsts' : Nat → Int32) (va_seconds' : Nat → Int32) (sf_facts' : Int32) (sa_heard' : Nat → Int32) (sa_huts' : Nat → Int32) (sa_minutes' : Nat → Int32) (cf_voices' : Int32) (cf_step' : Int32) (ca_parts' : Nat → Int32) (ca_heights' : Nat → Int32) (h' s' : Int32), DR 1 lf_huts' lf_singers' lf_villages' lf_dams' lf_echoes' lf_deep' lf_slide' la_heights' la_ladders' la_minutes' la_echoFrom' la_echoTo' la_homes' la_talls' la_known' vf_deeds' va_kinds' va_firsts' va_seconds' sf_facts' sa_heard' sa_huts' sa_minutes' cf_voices' cf_step' ca_parts' ca_heights' h' s' (lD 15 true a b c td) (lH 15 a b fh) (lS 15 a fs) → post lf_huts' lf_singers' lf_villages' lf_dams' lf_echoes' lf_deep' lf_slide' la_heights' la_ladders' la_minutes' la_echoFrom' la_echoTo' la_homes' la_talls' la_known' vf_deeds' va_kinds' va_firsts' va_seconds' sf_facts' sa_heard' sa_huts' sa_minutes' cf_voices' cf_step' ca_parts' ca_heights' h' s') : q_wr_X4_tell_0 lf_huts lf_singers lf_villages lf_dams lf_echoes lf_deep lf_slide la_heights la_ladders la_minutes la_echoFrom la_echoTo la_homes la_talls la_known vf_deeds va_kinds va_firsts va_seconds sf_facts sa_heard sa_huts sa_minutes cf_voices cf_step ca_parts ca_heights nums h s (nI 15) post := by
  have hL := hD.2.1 rfl
  obtain ⟨k, hk, -, hk9, -⟩ := iv_nI hC.1 (by decide)
  have hne : ¬ td 0 = 40 := fun h9 => by
    have := of_decide_eq_false hf
    exact this (by simp [h9])
  have hk8 : k < 40 := Nat.lt_of_le_of_ne (by omega) (fun h9 => hne (by rw [hk, h9]; rfl))
  have e0 : vf_deeds = nI k := hL.1.trans hk
  have hin : vp_in vf_deeds 40 := by rw [e0]; exact vp_in_nI hk8 (by omega)
  refine ⟨fun _ => ⟨fun h9 => absurd h9 (by decide +kernel), fun _ => ⟨vp_in_nI (by decide) (by decide), ?_⟩⟩, fun h9 => absurd h9 (by decide +kernel)⟩
  rw [c_0, n0]
  refine ⟨fun _ => ?_, fun h9 => absurd h9 (by decide +kernel)⟩
  refine ⟨fun h9 => absurd h9 (by rw [e0]; exact nI_ge (b := 40) hk8 (by omega)), fun _ => ⟨hin, fun t1 e1 => ⟨hin, fun t2 e2 => ⟨hin, fun t3 e3 v e4 => ?_⟩⟩⟩⟩
  rw [e0, nI_clamp (by omega)] at e1 e2 e3
  rw [e0, nI_1] at e4
  subst e1 e2 e3 e4
  refine hpo _ _ _ _ _ _ _ _ _ _ _ _ _ _ _ _ _ _ _ _ _ _ _ _ _ _ _ _ _ ?_
  have e : lD 15 true a b c td = upd (upd (upd (upd td 0 (nI (k + 1))) (1 + 3 * k) (nI 15 - 10)) (2 + 3 * k) a) (3 + 3 * k) (-1) := by
    show (if td 0 = 40 then td else upd (upd (upd (upd td 0 (td 0 + 1)) (Int32.toNatClampNeg ((1 + 3 * td 0) + 0)) (nI (15 - 10))) (Int32.toNatClampNeg ((1 + 3 * td 0) + 1)) a) (Int32.toNatClampNeg ((1 + 3 * td 0) + 2)) (-1)) = _
    have q0 : Int32.toNatClampNeg ((1 + 3 * td 0) + 0) = 1 + 3 * k := by rw [hk, show (1 : Int32) = nI 1 from rfl, show (3 : Int32) = nI 3 from rfl, show (0 : Int32) = nI 0 from rfl, jx2, nI_clamp (by omega)]; omega
    have q1 : Int32.toNatClampNeg ((1 + 3 * td 0) + 1) = 2 + 3 * k := by rw [hk, show (1 : Int32) = nI 1 from rfl, show (3 : Int32) = nI 3 from rfl, jx2, nI_clamp (by omega)]; omega
    have q2 : Int32.toNatClampNeg ((1 + 3 * td 0) + 2) = 3 + 3 * k := by rw [hk, show (1 : Int32) = nI 1 from rfl, show (3 : Int32) = nI 3 from rfl, show (2 : Int32) = nI 2 from rfl, jx2, nI_clamp (by omega)]; omega
    rw [if_neg hne, q0, q1, q2, hk, nI_1]
    rfl
  rw [e]
  exact DR1 (R3_add _ _ _ hL hk (by omega))
set_option maxRecDepth 20000 in
theorem e_tell_16 {lf_huts lf_singers lf_villages lf_dams lf_echoes lf_deep lf_slide vf_deeds sf_facts cf_voices cf_step : Int32} {la_heights la_ladders la_minutes la_echoFrom la_echoTo la_homes la_talls la_known va_kinds va_firsts va_seconds sa_heard sa_huts sa_minutes ca_parts ca_heights : Nat → Int32} {nums td : Nat → Int32} {h s fh fs a b c : Int32} {post : (Int32) → (Int32) → (Int32) → (Int32) → (Int32) → (Int32) → (Int32) → (Nat → Int32) → (Nat → Int32) → (Nat → Int32) → (Nat → Int32) → (Nat → Int32) → (Nat → Int32) → (Nat → Int32) → (Nat → Int32) → (Int32) → (Nat → Int32) → (Nat → Int32) → (Nat → Int32) → (Int32) → (Nat → Int32) → (Nat → Int32) → (Nat → Int32) → (Int32) → (Int32) → (Nat → Int32) → (Nat → Int32) → Int32 → Int32 → Prop} (hC : CB 2 td) (hf : fu 16 td = false) (n0 : nums 0 = a) (c0 : cW 16 0 a a = true) (n1 : nums 1 = b) (c1 : cW 16 1 a b = true) (hD : DR 2 lf_huts lf_singers lf_villages lf_dams lf_echoes lf_deep lf_slide la_heights la_ladders la_minutes la_echoFrom la_echoTo la_homes la_talls la_known vf_deeds va_kinds va_firsts va_seconds sf_facts sa_heard sa_huts sa_minutes cf_voices cf_step ca_parts ca_heights h s td fh fs) (hpo : ∀ (lf_huts' : Int32) (lf_singers' : Int32) (lf_villages' : Int32) (lf_dams' : Int32) (lf_echoes' : Int32) (lf_deep' : Int32) (lf_slide' : Int32) (la_heights' : Nat → Int32) (la_ladders' : Nat → Int32) (la_minutes' : Nat → Int32) (la_echoFrom' : Nat → Int32) (la_echoTo' : Nat → Int32) (la_homes' : Nat → Int32) (la_talls' : Nat → Int32) (la_known' : Nat → Int32) (vf_deeds' : Int32) (va_kinds' : Nat → Int32) (va_firsts' : Nat → Int32) (va_seconds' : Nat → Int32) (sf_facts' : Int32) (sa_heard' : Nat → Int32) (sa_huts' : Nat → Int32) (sa_minutes' : Nat → Int32) (cf_voices' : Int32) (cf_step' : Int32) (ca_parts' : Nat → Int32) (ca_heights' : Nat → Int32) (h' s' : Int32), DR 2 lf_huts' lf_singers' lf_villages' lf_dams' lf_echoes' lf_deep' lf_slide' la_heights' la_ladders' la_minutes' la_echoFrom' la_echoTo' la_homes' la_talls' la_known' vf_deeds' va_kinds' va_firsts' va_seconds' sf_facts' sa_heard' sa_huts' sa_minutes' cf_voices' cf_step' ca_parts' ca_heights' h' s' (lD 16 true a b c td) (lH 16 a b fh) (lS 16 a fs) → post lf_huts' lf_singers' lf_villages' lf_dams' lf_echoes' lf_deep' lf_slide' la_heights' la_ladders' la_minutes' la_echoFrom' la_echoTo' la_homes' la_talls' la_known' vf_deeds' va_kinds' va_firsts' va_seconds' sf_facts' sa_heard' sa_huts' sa_minutes' cf_voices' cf_step' ca_parts' ca_heights' h' s') : q_wr_X4_tell_0 lf_huts lf_singers lf_villages lf_dams lf_echoes lf_deep lf_slide la_heights la_ladders la_minutes la_echoFrom la_echoTo la_homes la_talls la_known vf_deeds va_kinds va_firsts va_seconds sf_facts sa_heard sa_huts sa_minutes cf_voices cf_step ca_parts ca_heights nums h s (nI 16) post := by
  have hL := hD.2.2.1 rfl
  obtain ⟨k, hk, -, hk9, -⟩ := iv_nI hC.1 (by decide)
  have hne : ¬ td 0 = 10 := fun h9 => by
    have := of_decide_eq_false hf
    exact this (by simp [h9])
  have hk8 : k < 10 := Nat.lt_of_le_of_ne (by omega) (fun h9 => hne (by rw [hk, h9]; rfl))
  have e0 : sf_facts = nI k := hL.1.trans hk
  have hin : vp_in sf_facts 10 := by rw [e0]; exact vp_in_nI hk8 (by omega)
  refine ⟨fun _ => ⟨fun _ => ⟨fun h9 => absurd h9 (by decide +kernel), fun _ => ⟨fun h9 => absurd h9 (by decide +kernel), fun _ => ?_⟩⟩, fun h9 => absurd h9 (by decide +kernel)⟩, fun h9 => absurd h9 (by decide +kernel)⟩
  unfold q_wr_X4_tell_98
  rw [c_0, c_1, n0, n1]
  refine ⟨fun h9 => absurd h9 (by rw [e0]; exact nI_ge (b := 10) hk8 (by omega)), fun _ => ⟨hin, fun t1 e1 => ⟨hin, fun t2 e2 => ⟨hin, fun t3 e3 v e4 => ?_⟩⟩⟩⟩
  rw [e0, nI_clamp (by omega)] at e1 e2 e3
  rw [e0, nI_1] at e4
  subst e1 e2 e3 e4
  refine hpo _ _ _ _ _ _ _ _ _ _ _ _ _ _ _ _ _ _ _ _ _ _ _ _ _ _ _ _ _ ?_
  have e : lD 16 true a b c td = upd (upd (upd (upd td 0 (nI (k + 1))) (1 + 3 * k) 1) (2 + 3 * k) a) (3 + 3 * k) b := by
    show (if td 0 = 10 then td else upd (upd (upd (upd td 0 (td 0 + 1)) (Int32.toNatClampNeg ((1 + 3 * td 0) + 0)) 1) (Int32.toNatClampNeg ((1 + 3 * td 0) + 1)) a) (Int32.toNatClampNeg ((1 + 3 * td 0) + 2)) b) = _
    have q0 : Int32.toNatClampNeg ((1 + 3 * td 0) + 0) = 1 + 3 * k := by rw [hk, show (1 : Int32) = nI 1 from rfl, show (3 : Int32) = nI 3 from rfl, show (0 : Int32) = nI 0 from rfl, jx2, nI_clamp (by omega)]; omega
    have q1 : Int32.toNatClampNeg ((1 + 3 * td 0) + 1) = 2 + 3 * k := by rw [hk, show (1 : Int32) = nI 1 from rfl, show (3 : Int32) = nI 3 from rfl, jx2, nI_clamp (by omega)]; omega
    have q2 : Int32.toNatClampNeg ((1 + 3 * td 0) + 2) = 3 + 3 * k := by rw [hk, show (1 : Int32) = nI 1 from rfl, show (3 : Int32) = nI 3 from rfl, show (2 : Int32) = nI 2 from rfl, jx2, nI_clamp (by omega)]; omega
    rw [if_neg hne, q0, q1, q2, hk, nI_1]
  rw [e]
  exact DR2 (R3_add _ _ _ hL hk (by omega))
set_option maxRecDepth 20000 in
theorem e_tell_17 {lf_huts lf_singers lf_villages lf_dams lf_echoes lf_deep lf_slide vf_deeds sf_facts cf_voices cf_step : Int32} {la_heights la_ladders la_minutes la_echoFrom la_echoTo la_homes la_talls la_known va_kinds va_firsts va_seconds sa_heard sa_huts sa_minutes ca_parts ca_heights : Nat → Int32} {nums td : Nat → Int32} {h s fh fs a b c : Int32} {post : (Int32) → (Int32) → (Int32) → (Int32) → (Int32) → (Int32) → (Int32) → (Nat → Int32) → (Nat → Int32) → (Nat → Int32) → (Nat → Int32) → (Nat → Int32) → (Nat → Int32) → (Nat → Int32) → (Nat → Int32) → (Int32) → (Nat → Int32) → (Nat → Int32) → (Nat → Int32) → (Int32) → (Nat → Int32) → (Nat → Int32) → (Nat → Int32) → (Int32) → (Int32) → (Nat → Int32) → (Nat → Int32) → Int32 → Int32 → Prop} (hC : CB 2 td) (hf : fu 17 td = false) (n0 : nums 0 = a) (c0 : cW 17 0 a a = true) (n1 : nums 1 = b) (c1 : cW 17 1 a b = true) (hD : DR 2 lf_huts lf_singers lf_villages lf_dams lf_echoes lf_deep lf_slide la_heights la_ladders la_minutes la_echoFrom la_echoTo la_homes la_talls la_known vf_deeds va_kinds va_firsts va_seconds sf_facts sa_heard sa_huts sa_minutes cf_voices cf_step ca_parts ca_heights h s td fh fs) (hpo : ∀ (lf_huts' : Int32) (lf_singers' : Int32) (lf_villages' : Int32) (lf_dams' : Int32) (lf_echoes' : Int32) (lf_deep' : Int32) (lf_slide' : Int32) (la_heights' : Nat → Int32) (la_ladders' : Nat → Int32) (la_minutes' : Nat → Int32) (la_echoFrom' : Nat → Int32) (la_echoTo' : Nat → Int32) (la_homes' : Nat → Int32) (la_talls' : Nat → Int32) (la_known' : Nat → Int32) (vf_deeds' : Int32) (va_kinds' : Nat → Int32) (va_firsts' : Nat → Int32) (va_seconds' : Nat → Int32) (sf_facts' : Int32) (sa_heard' : Nat → Int32) (sa_huts' : Nat → Int32) (sa_minutes' : Nat → Int32) (cf_voices' : Int32) (cf_step' : Int32) (ca_parts' : Nat → Int32) (ca_heights' : Nat → Int32) (h' s' : Int32), DR 2 lf_huts' lf_singers' lf_villages' lf_dams' lf_echoes' lf_deep' lf_slide' la_heights' la_ladders' la_minutes' la_echoFrom' la_echoTo' la_homes' la_talls' la_known' vf_deeds' va_kinds' va_firsts' va_seconds' sf_facts' sa_heard' sa_huts' sa_minutes' cf_voices' cf_step' ca_parts' ca_heights' h' s' (lD 17 true a b c td) (lH 17 a b fh) (lS 17 a fs) → post lf_huts' lf_singers' lf_villages' lf_dams' lf_echoes' lf_deep' lf_slide' la_heights' la_ladders' la_minutes' la_echoFrom' la_echoTo' la_homes' la_talls' la_known' vf_deeds' va_kinds' va_firsts' va_seconds' sf_facts' sa_heard' sa_huts' sa_minutes' cf_voices' cf_step' ca_parts' ca_heights' h' s') : q_wr_X4_tell_0 lf_huts lf_singers lf_villages lf_dams lf_echoes lf_deep lf_slide la_heights la_ladders la_minutes la_echoFrom la_echoTo la_homes la_talls la_known vf_deeds va_kinds va_firsts va_seconds sf_facts sa_heard sa_huts sa_minutes cf_voices cf_step ca_parts ca_heights nums h s (nI 17) post := by
  have hL := hD.2.2.1 rfl
  obtain ⟨k, hk, -, hk9, -⟩ := iv_nI hC.1 (by decide)
  have hne : ¬ td 0 = 10 := fun h9 => by
    have := of_decide_eq_false hf
    exact this (by simp [h9])
  have hk8 : k < 10 := Nat.lt_of_le_of_ne (by omega) (fun h9 => hne (by rw [hk, h9]; rfl))
  have e0 : sf_facts = nI k := hL.1.trans hk
  have hin : vp_in sf_facts 10 := by rw [e0]; exact vp_in_nI hk8 (by omega)
  refine ⟨fun _ => ⟨fun _ => ⟨fun h9 => absurd h9 (by decide +kernel), fun _ => ⟨fun _ => ?_, fun h9 => absurd h9 (by decide +kernel)⟩⟩, fun h9 => absurd h9 (by decide +kernel)⟩, fun h9 => absurd h9 (by decide +kernel)⟩
  unfold q_wr_X4_tell_98
  rw [c_0, c_1, n0, n1]
  refine ⟨fun h9 => absurd h9 (by rw [e0]; exact nI_ge (b := 10) hk8 (by omega)), fun _ => ⟨hin, fun t1 e1 => ⟨hin, fun t2 e2 => ⟨hin, fun t3 e3 v e4 => ?_⟩⟩⟩⟩
  rw [e0, nI_clamp (by omega)] at e1 e2 e3
  rw [e0, nI_1] at e4
  subst e1 e2 e3 e4
  refine hpo _ _ _ _ _ _ _ _ _ _ _ _ _ _ _ _ _ _ _ _ _ _ _ _ _ _ _ _ _ ?_
  have e : lD 17 true a b c td = upd (upd (upd (upd td 0 (nI (k + 1))) (1 + 3 * k) 0) (2 + 3 * k) a) (3 + 3 * k) b := by
    show (if td 0 = 10 then td else upd (upd (upd (upd td 0 (td 0 + 1)) (Int32.toNatClampNeg ((1 + 3 * td 0) + 0)) 0) (Int32.toNatClampNeg ((1 + 3 * td 0) + 1)) a) (Int32.toNatClampNeg ((1 + 3 * td 0) + 2)) b) = _
    have q0 : Int32.toNatClampNeg ((1 + 3 * td 0) + 0) = 1 + 3 * k := by rw [hk, show (1 : Int32) = nI 1 from rfl, show (3 : Int32) = nI 3 from rfl, show (0 : Int32) = nI 0 from rfl, jx2, nI_clamp (by omega)]; omega
    have q1 : Int32.toNatClampNeg ((1 + 3 * td 0) + 1) = 2 + 3 * k := by rw [hk, show (1 : Int32) = nI 1 from rfl, show (3 : Int32) = nI 3 from rfl, jx2, nI_clamp (by omega)]; omega
    have q2 : Int32.toNatClampNeg ((1 + 3 * td 0) + 2) = 3 + 3 * k := by rw [hk, show (1 : Int32) = nI 1 from rfl, show (3 : Int32) = nI 3 from rfl, show (2 : Int32) = nI 2 from rfl, jx2, nI_clamp (by omega)]; omega
    rw [if_neg hne, q0, q1, q2, hk, nI_1]
  rw [e]
  exact DR2 (R3_add _ _ _ hL hk (by omega))
set_option maxRecDepth 20000 in
theorem e_tell_18 {lf_huts lf_singers lf_villages lf_dams lf_echoes lf_deep lf_slide vf_deeds sf_facts cf_voices cf_step : Int32} {la_heights la_ladders la_minutes la_echoFrom la_echoTo la_homes la_talls la_known va_kinds va_firsts va_seconds sa_heard sa_huts sa_minutes ca_parts ca_heights : Nat → Int32} {nums td : Nat → Int32} {h s fh fs a b c : Int32} {post : (Int32) → (Int32) → (Int32) → (Int32) → (Int32) → (Int32) → (Int32) → (Nat → Int32) → (Nat → Int32) → (Nat → Int32) → (Nat → Int32) → (Nat → Int32) → (Nat → Int32) → (Nat → Int32) → (Nat → Int32) → (Int32) → (Nat → Int32) → (Nat → Int32) → (Nat → Int32) → (Int32) → (Nat → Int32) → (Nat → Int32) → (Nat → Int32) → (Int32) → (Int32) → (Nat → Int32) → (Nat → Int32) → Int32 → Int32 → Prop} (hC : CB 3 td) (hf : fu 18 td = false) (n0 : nums 0 = a) (c0 : cW 18 0 a a = true) (n1 : nums 1 = b) (c1 : cW 18 1 a b = true) (hD : DR 3 lf_huts lf_singers lf_villages lf_dams lf_echoes lf_deep lf_slide la_heights la_ladders la_minutes la_echoFrom la_echoTo la_homes la_talls la_known vf_deeds va_kinds va_firsts va_seconds sf_facts sa_heard sa_huts sa_minutes cf_voices cf_step ca_parts ca_heights h s td fh fs) (hpo : ∀ (lf_huts' : Int32) (lf_singers' : Int32) (lf_villages' : Int32) (lf_dams' : Int32) (lf_echoes' : Int32) (lf_deep' : Int32) (lf_slide' : Int32) (la_heights' : Nat → Int32) (la_ladders' : Nat → Int32) (la_minutes' : Nat → Int32) (la_echoFrom' : Nat → Int32) (la_echoTo' : Nat → Int32) (la_homes' : Nat → Int32) (la_talls' : Nat → Int32) (la_known' : Nat → Int32) (vf_deeds' : Int32) (va_kinds' : Nat → Int32) (va_firsts' : Nat → Int32) (va_seconds' : Nat → Int32) (sf_facts' : Int32) (sa_heard' : Nat → Int32) (sa_huts' : Nat → Int32) (sa_minutes' : Nat → Int32) (cf_voices' : Int32) (cf_step' : Int32) (ca_parts' : Nat → Int32) (ca_heights' : Nat → Int32) (h' s' : Int32), DR 3 lf_huts' lf_singers' lf_villages' lf_dams' lf_echoes' lf_deep' lf_slide' la_heights' la_ladders' la_minutes' la_echoFrom' la_echoTo' la_homes' la_talls' la_known' vf_deeds' va_kinds' va_firsts' va_seconds' sf_facts' sa_heard' sa_huts' sa_minutes' cf_voices' cf_step' ca_parts' ca_heights' h' s' (lD 18 true a b c td) (lH 18 a b fh) (lS 18 a fs) → post lf_huts' lf_singers' lf_villages' lf_dams' lf_echoes' lf_deep' lf_slide' la_heights' la_ladders' la_minutes' la_echoFrom' la_echoTo' la_homes' la_talls' la_known' vf_deeds' va_kinds' va_firsts' va_seconds' sf_facts' sa_heard' sa_huts' sa_minutes' cf_voices' cf_step' ca_parts' ca_heights' h' s') : q_wr_X4_tell_0 lf_huts lf_singers lf_villages lf_dams lf_echoes lf_deep lf_slide la_heights la_ladders la_minutes la_echoFrom la_echoTo la_homes la_talls la_known vf_deeds va_kinds va_firsts va_seconds sf_facts sa_heard sa_huts sa_minutes cf_voices cf_step ca_parts ca_heights nums h s (nI 18) post := by
  have hL := hD.2.2.2 rfl
  obtain ⟨k, hk, -, hk9, -⟩ := iv_nI hC.1 (by decide)
  have hne : ¬ td 0 = 9 := fun h9 => by
    have := of_decide_eq_false hf
    exact this (by simp [h9])
  have hk8 : k < 9 := Nat.lt_of_le_of_ne (by omega) (fun h9 => hne (by rw [hk, h9]; rfl))
  have e0 : cf_voices = nI k := hL.1.trans hk
  have hin : vp_in cf_voices 9 := by rw [e0]; exact vp_in_nI hk8 (by omega)
  refine ⟨fun _ => ⟨fun _ => ⟨fun _ => ⟨fun h9 => absurd h9 (by decide +kernel), fun _ => ?_⟩, fun h9 => absurd h9 (by decide +kernel)⟩, fun h9 => absurd h9 (by decide +kernel)⟩, fun h9 => absurd h9 (by decide +kernel)⟩
  rw [c_0, c_1, n0, n1]
  refine ⟨fun h9 => absurd h9 (by rw [e0]; exact nI_ge (b := 9) hk8 (by omega)), fun _ => ⟨hin, fun t1 e1 => ⟨hin, fun t2 e2 v e4 => ?_⟩⟩⟩
  rw [e0, nI_clamp (by omega)] at e1 e2
  rw [e0, nI_1] at e4
  subst e1 e2 e4
  refine hpo _ _ _ _ _ _ _ _ _ _ _ _ _ _ _ _ _ _ _ _ _ _ _ _ _ _ _ _ _ ?_
  have e : lD 18 true a b c td = upd (upd (upd td 0 (nI (k + 1))) (1 + 2 * k) a) (2 + 2 * k) b := by
    show (if td 0 = 9 then td else upd (upd (upd td 0 (td 0 + 1)) (Int32.toNatClampNeg ((1 + 2 * td 0) + 0)) a) (Int32.toNatClampNeg ((1 + 2 * td 0) + 1)) b) = _
    have q0 : Int32.toNatClampNeg ((1 + 2 * td 0) + 0) = 1 + 2 * k := by rw [hk, show (1 : Int32) = nI 1 from rfl, show (2 : Int32) = nI 2 from rfl, show (0 : Int32) = nI 0 from rfl, jx2, nI_clamp (by omega)]; omega
    have q1 : Int32.toNatClampNeg ((1 + 2 * td 0) + 1) = 2 + 2 * k := by rw [hk, show (1 : Int32) = nI 1 from rfl, show (2 : Int32) = nI 2 from rfl, jx2, nI_clamp (by omega)]; omega
    rw [if_neg hne, q0, q1, hk, nI_1]
  rw [e]
  exact DR3 (CDR_add _ _ hL hk hk8)
set_option maxRecDepth 20000 in
theorem e_tell_19 {lf_huts lf_singers lf_villages lf_dams lf_echoes lf_deep lf_slide vf_deeds sf_facts cf_voices cf_step : Int32} {la_heights la_ladders la_minutes la_echoFrom la_echoTo la_homes la_talls la_known va_kinds va_firsts va_seconds sa_heard sa_huts sa_minutes ca_parts ca_heights : Nat → Int32} {nums td : Nat → Int32} {h s fh fs a b c : Int32} {post : (Int32) → (Int32) → (Int32) → (Int32) → (Int32) → (Int32) → (Int32) → (Nat → Int32) → (Nat → Int32) → (Nat → Int32) → (Nat → Int32) → (Nat → Int32) → (Nat → Int32) → (Nat → Int32) → (Nat → Int32) → (Int32) → (Nat → Int32) → (Nat → Int32) → (Nat → Int32) → (Int32) → (Nat → Int32) → (Nat → Int32) → (Nat → Int32) → (Int32) → (Int32) → (Nat → Int32) → (Nat → Int32) → Int32 → Int32 → Prop} (hC : CB 3 td) (hf : fu 19 td = false) (n0 : nums 0 = a) (c0 : cW 19 0 a a = true) (hD : DR 3 lf_huts lf_singers lf_villages lf_dams lf_echoes lf_deep lf_slide la_heights la_ladders la_minutes la_echoFrom la_echoTo la_homes la_talls la_known vf_deeds va_kinds va_firsts va_seconds sf_facts sa_heard sa_huts sa_minutes cf_voices cf_step ca_parts ca_heights h s td fh fs) (hpo : ∀ (lf_huts' : Int32) (lf_singers' : Int32) (lf_villages' : Int32) (lf_dams' : Int32) (lf_echoes' : Int32) (lf_deep' : Int32) (lf_slide' : Int32) (la_heights' : Nat → Int32) (la_ladders' : Nat → Int32) (la_minutes' : Nat → Int32) (la_echoFrom' : Nat → Int32) (la_echoTo' : Nat → Int32) (la_homes' : Nat → Int32) (la_talls' : Nat → Int32) (la_known' : Nat → Int32) (vf_deeds' : Int32) (va_kinds' : Nat → Int32) (va_firsts' : Nat → Int32) (va_seconds' : Nat → Int32) (sf_facts' : Int32) (sa_heard' : Nat → Int32) (sa_huts' : Nat → Int32) (sa_minutes' : Nat → Int32) (cf_voices' : Int32) (cf_step' : Int32) (ca_parts' : Nat → Int32) (ca_heights' : Nat → Int32) (h' s' : Int32), DR 3 lf_huts' lf_singers' lf_villages' lf_dams' lf_echoes' lf_deep' lf_slide' la_heights' la_ladders' la_minutes' la_echoFrom' la_echoTo' la_homes' la_talls' la_known' vf_deeds' va_kinds' va_firsts' va_seconds' sf_facts' sa_heard' sa_huts' sa_minutes' cf_voices' cf_step' ca_parts' ca_heights' h' s' (lD 19 true a b c td) (lH 19 a b fh) (lS 19 a fs) → post lf_huts' lf_singers' lf_villages' lf_dams' lf_echoes' lf_deep' lf_slide' la_heights' la_ladders' la_minutes' la_echoFrom' la_echoTo' la_homes' la_talls' la_known' vf_deeds' va_kinds' va_firsts' va_seconds' sf_facts' sa_heard' sa_huts' sa_minutes' cf_voices' cf_step' ca_parts' ca_heights' h' s') : q_wr_X4_tell_0 lf_huts lf_singers lf_villages lf_dams lf_echoes lf_deep lf_slide la_heights la_ladders la_minutes la_echoFrom la_echoTo la_homes la_talls la_known vf_deeds va_kinds va_firsts va_seconds sf_facts sa_heard sa_huts sa_minutes cf_voices cf_step ca_parts ca_heights nums h s (nI 19) post := by
  have hL := hD.2.2.2 rfl
  refine ⟨fun _ => ⟨fun _ => ⟨fun _ => ⟨fun _ v e => ?_, fun h9 => absurd h9 (by decide +kernel)⟩, fun h9 => absurd h9 (by decide +kernel)⟩, fun h9 => absurd h9 (by decide +kernel)⟩, fun h9 => absurd h9 (by decide +kernel)⟩
  rw [c_0, n0] at e
  subst e
  refine hpo _ _ _ _ _ _ _ _ _ _ _ _ _ _ _ _ _ _ _ _ _ _ _ _ _ _ _ _ _ ?_
  exact DR3 (CDR_step _ hL (iv_cb hC.1 rfl))
end
section
theorem c_k1 : Int32.toNatClampNeg 1 = 1 := rfl
theorem tV_iv {B : Nat → Int32} {n r : Nat} (hr : r ≤ n) (hK : tK B n r = 2) : iv 0 99 (tV B n r) := by
  have hk := tk_le (B := B) hr
  have hlt : tF B n r < n := by
    have := hk.2.2.1 (by omega)
    omega
  have hL : ¬ isL B (tF B n r) = true := fun h => by
    have := (tk_let rfl hlt h).1
    omega
  have hD : isD B (tF B n r) = true := by
    by_cases h : isD B (tF B n r) = true
    · exact h
    · exfalso
      have := (tk_sgn rfl hlt hL h).2
      rw [hK] at this
      by_cases h2 : B (tF B n r) = 59
      · rw [if_pos h2] at this; omega
      · rw [if_neg h2] at this; omega
  obtain ⟨hN, hK2⟩ := tk_dig rfl hlt hL hD
  have h2 : tN B n r - tF B n r ≤ 2 := by
    rw [hK, ← hN] at hK2
    by_cases h : tN B n r - tF B n r ≤ 2
    · exact h
    · rw [if_neg h] at hK2; omega
  have h1 : 1 ≤ tN B n r - tF B n r := by
    have := hk.2.2.1 (by omega)
    omega
  have dg : ∀ i, i < tN B n r - tF B n r → iv 48 57 (B (tF B n r + i)) := by
    intro i hi
    have h9 := scn_all (isD B) (n - tF B n r) (tF B n r) (tF B n r + i) (by omega) (by rw [← hN]; omega)
    unfold isD at h9
    have h8 := of_decide_eq_true h9
    have e1 : (48 : Int32).toInt = 48 := rfl
    have e2 : (57 : Int32).toInt = 57 := rfl
    exact ⟨by have := r_le h8.1; omega, by have := r_le h8.2; omega⟩
  have v1 : iv 0 9 (vD B (tF B n r) 1) := by
    show iv 0 9 (if 0 < 2 then (0 : Int32) * 10 + B (tF B n r + 0) - 48 else 0)
    rw [if_pos (by omega)]
    have z : iv 0 0 ((0 : Int32) * 10) := iv_lit (by decide)
    exact iv_sub (l := 0) (h := 9) (iv_add (l := 48) (h := 57) z (dg 0 (by omega)) (by decide)) (iv_lit (x := 48) (l := 48) (h := 48) (by decide)) (by decide)
  unfold tV
  have hc : tN B n r - tF B n r = 1 ∨ tN B n r - tF B n r = 2 := by omega
  rcases hc with hc | hc
  · rw [hc]; exact iv_w v1 (by decide)
  · rw [hc]
    show iv 0 99 (if 1 < 2 then vD B (tF B n r) 1 * 10 + B (tF B n r + 1) - 48 else _)
    rw [if_pos (by omega)]
    have m1 : iv 0 90 (vD B (tF B n r) 1 * 10) := iv_mul (l := 0) (h := 90) v1 (iv_lit (x := 10) (l := 10) (h := 10) (by decide)) (by decide)
    exact iv_sub (l := 0) (h := 99) (iv_add (l := 48) (h := 147) m1 (dg 1 (by omega)) (by decide)) (iv_lit (x := 48) (l := 48) (h := 48) (by decide)) (by decide)
theorem e_canBe {nums : Nat → Int32} {w k : Nat} {a : Int32} {post : Int32 → Prop} (hw : w < 20) (hk : k < 3) (h0 : nums 0 = a) (hv : iv 0 99 (nums k)) (h1 : cW w k a (nums k) = true → post 1) (h2 : cW w k a (nums k) = false → post 0) : q_wr_X4_canBe_0 nums (nI w) (nI k) post := by
  intro v ev
  have e : v = nI (w * 3 + k) := by rw [ev, show (3 : Int32) = nI 3 from rfl, pk_mul, nI_add]
  subst e
  rw [nI_clamp (n := k) (by omega), nI_clamp (n := w * 3 + k) (by omega)]
  have i1 : vp_in (nI k) 3 := vp_in_nI hk (by omega)
  have i2 : vp_in (nI (w * 3 + k)) 60 := vp_in_nI (by omega) (by omega)
  have hm : ¬ nums k = -1 := fun h9 => by
    have := hv.1
    rw [h9] at this
    exact absurd this (by decide)
  refine ⟨i1, i2, fun c => h2 (decide_eq_false (fun h9 => absurd c (Int32.not_lt.mpr h9.1))), fun c => ⟨i1, i2, fun c2 => ?_, fun c2 => h2 (decide_eq_false (fun h9 => c2 h9.2.1))⟩⟩
  have lo := Int32.not_lt.mp c
  have tr : ¬ (k = 1 ∧ (w = 5 ∨ w = 6)) → post 1 := by
    intro hn
    refine h1 (decide_eq_true ⟨lo, c2, ?_⟩)
    rw [if_neg hn]
    exact hm
  have t52 : k = 1 → (w = 5 ∨ w = 6) → q_wr_X4_canBe_52 nums post := by
    intro hk1 hw5
    subst hk1
    refine ⟨fun c3 => h2 (decide_eq_false (fun h9 => ?_)), fun c3 => h1 (decide_eq_true ⟨lo, c2, ?_⟩)⟩
    · rw [if_pos ⟨rfl, hw5⟩] at h9
      exact h9.2.2 (by rw [← h0]; exact c3)
    · rw [if_pos ⟨rfl, hw5⟩]
      exact fun h9 => c3 (by rw [c_0, c_k1, h0]; exact h9)
  refine ⟨fun c3 => tr (fun h9 => c3 (by rw [h9.1]; rfl)), fun c3 => ?_⟩
  have hk1 : k = 1 := (nI_eq (a := k) (b := 1) (by omega) (by omega)).mp c3
  refine ⟨fun c4 => t52 hk1 (Or.inl ((nI_eq (a := w) (b := 5) (by omega) (by omega)).mp c4)), fun c4 => ⟨fun c5 => tr (fun h9 => h9.2.elim (fun h8 => c4 (by rw [h8]; rfl)) (fun h8 => c5 (by rw [h8]; rfl))), fun c5 => t52 hk1 (Or.inr ((nI_eq (a := w) (b := 6) (by omega) (by omega)).mp c5))⟩⟩
set_option maxRecDepth 20000 in
theorem e_isFull {lf_huts lf_singers lf_echoes vf_deeds sf_facts cf_voices : Int32} {w : Nat} {post : Int32 → Prop} (hw : w < 20) (h1 : decide ((w = 0 ∧ lf_huts = 9) ∨ (w = 6 ∧ lf_echoes = 4) ∨ (w = 8 ∧ lf_singers = 6) ∨ (10 ≤ w ∧ w < 16 ∧ vf_deeds = 40) ∨ (16 ≤ w ∧ w < 18 ∧ sf_facts = 10) ∨ (w = 18 ∧ cf_voices = 9)) = true → post 1) (h0 : decide ((w = 0 ∧ lf_huts = 9) ∨ (w = 6 ∧ lf_echoes = 4) ∨ (w = 8 ∧ lf_singers = 6) ∨ (10 ≤ w ∧ w < 16 ∧ vf_deeds = 40) ∨ (16 ≤ w ∧ w < 18 ∧ sf_facts = 10) ∨ (w = 18 ∧ cf_voices = 9)) = false → post 0) : q_wr_X4_isFull_0 lf_huts lf_singers lf_echoes vf_deeds sf_facts cf_voices (nI w) post := by
  match w, hw, h1, h0 with
  | 0, _, h1, h0 => exact ⟨fun _ => ⟨fun h9 => absurd h9 (by decide +kernel), fun _ => ⟨fun c => h0 (decide_eq_false (by simp [c])), fun c => h1 (decide_eq_true (by simp [c]))⟩, fun h9 => absurd h9 (by decide +kernel), fun h9 => absurd h9 (by decide +kernel), fun h9 => absurd h9 (by decide +kernel), fun h9 => absurd h9 (by decide +kernel), fun h9 => absurd h9 (by decide +kernel), fun h9 => absurd h9 (by decide +kernel), fun h9 => absurd h9 (by decide +kernel), fun h9 => absurd h9 (by decide +kernel), fun h9 => absurd h9 (by decide +kernel), fun h9 => absurd h9 (by decide +kernel), fun h9 => absurd h9 (by decide +kernel), fun h9 => absurd h9 (by decide +kernel), fun h9 => absurd h9 (by decide +kernel), fun h9 => absurd h9 (by decide +kernel), fun h9 => absurd h9 (by decide +kernel), fun h9 => absurd h9 (by decide +kernel), fun h9 => absurd h9 (by decide +kernel), fun h9 => absurd h9 (by decide +kernel)⟩, fun h9 => absurd h9 (by decide +kernel)⟩
  | 1, _, h1, h0 => exact ⟨fun _ => ⟨fun h9 => absurd h9 (by decide +kernel), fun h9 => absurd h9 (by decide +kernel), fun _ => h0 (by simp), fun h9 => absurd h9 (by decide +kernel), fun h9 => absurd h9 (by decide +kernel), fun h9 => absurd h9 (by decide +kernel), fun h9 => absurd h9 (by decide +kernel), fun h9 => absurd h9 (by decide +kernel), fun h9 => absurd h9 (by decide +kernel), fun h9 => absurd h9 (by decide +kernel), fun h9 => absurd h9 (by decide +kernel), fun h9 => absurd h9 (by decide +kernel), fun h9 => absurd h9 (by decide +kernel), fun h9 => absurd h9 (by decide +kernel), fun h9 => absurd h9 (by decide +kernel), fun h9 => absurd h9 (by decide +kernel), fun h9 => absurd h9 (by decide +kernel), fun h9 => absurd h9 (by decide +kernel), fun h9 => absurd h9 (by decide +kernel), fun h9 => absurd h9 (by decide +kernel)⟩, fun h9 => absurd h9 (by decide +kernel)⟩
  | 2, _, h1, h0 => exact ⟨fun _ => ⟨fun h9 => absurd h9 (by decide +kernel), fun h9 => absurd h9 (by decide +kernel), fun h9 => absurd h9 (by decide +kernel), fun _ => h0 (by simp), fun h9 => absurd h9 (by decide +kernel), fun h9 => absurd h9 (by decide +kernel), fun h9 => absurd h9 (by decide +kernel), fun h9 => absurd h9 (by decide +kernel), fun h9 => absurd h9 (by decide +kernel), fun h9 => absurd h9 (by decide +kernel), fun h9 => absurd h9 (by decide +kernel), fun h9 => absurd h9 (by decide +kernel), fun h9 => absurd h9 (by decide +kernel), fun h9 => absurd h9 (by decide +kernel), fun h9 => absurd h9 (by decide +kernel), fun h9 => absurd h9 (by decide +kernel), fun h9 => absurd h9 (by decide +kernel), fun h9 => absurd h9 (by decide +kernel), fun h9 => absurd h9 (by decide +kernel), fun h9 => absurd h9 (by decide +kernel)⟩, fun h9 => absurd h9 (by decide +kernel)⟩
  | 3, _, h1, h0 => exact ⟨fun _ => ⟨fun h9 => absurd h9 (by decide +kernel), fun h9 => absurd h9 (by decide +kernel), fun h9 => absurd h9 (by decide +kernel), fun h9 => absurd h9 (by decide +kernel), fun _ => h0 (by simp), fun h9 => absurd h9 (by decide +kernel), fun h9 => absurd h9 (by decide +kernel), fun h9 => absurd h9 (by decide +kernel), fun h9 => absurd h9 (by decide +kernel), fun h9 => absurd h9 (by decide +kernel), fun h9 => absurd h9 (by decide +kernel), fun h9 => absurd h9 (by decide +kernel), fun h9 => absurd h9 (by decide +kernel), fun h9 => absurd h9 (by decide +kernel), fun h9 => absurd h9 (by decide +kernel), fun h9 => absurd h9 (by decide +kernel), fun h9 => absurd h9 (by decide +kernel), fun h9 => absurd h9 (by decide +kernel), fun h9 => absurd h9 (by decide +kernel), fun h9 => absurd h9 (by decide +kernel)⟩, fun h9 => absurd h9 (by decide +kernel)⟩
  | 4, _, h1, h0 => exact ⟨fun _ => ⟨fun h9 => absurd h9 (by decide +kernel), fun h9 => absurd h9 (by decide +kernel), fun h9 => absurd h9 (by decide +kernel), fun h9 => absurd h9 (by decide +kernel), fun h9 => absurd h9 (by decide +kernel), fun _ => h0 (by simp), fun h9 => absurd h9 (by decide +kernel), fun h9 => absurd h9 (by decide +kernel), fun h9 => absurd h9 (by decide +kernel), fun h9 => absurd h9 (by decide +kernel), fun h9 => absurd h9 (by decide +kernel), fun h9 => absurd h9 (by decide +kernel), fun h9 => absurd h9 (by decide +kernel), fun h9 => absurd h9 (by decide +kernel), fun h9 => absurd h9 (by decide +kernel), fun h9 => absurd h9 (by decide +kernel), fun h9 => absurd h9 (by decide +kernel), fun h9 => absurd h9 (by decide +kernel), fun h9 => absurd h9 (by decide +kernel), fun h9 => absurd h9 (by decide +kernel)⟩, fun h9 => absurd h9 (by decide +kernel)⟩
  | 5, _, h1, h0 => exact ⟨fun _ => ⟨fun h9 => absurd h9 (by decide +kernel), fun h9 => absurd h9 (by decide +kernel), fun h9 => absurd h9 (by decide +kernel), fun h9 => absurd h9 (by decide +kernel), fun h9 => absurd h9 (by decide +kernel), fun h9 => absurd h9 (by decide +kernel), fun _ => h0 (by simp), fun h9 => absurd h9 (by decide +kernel), fun h9 => absurd h9 (by decide +kernel), fun h9 => absurd h9 (by decide +kernel), fun h9 => absurd h9 (by decide +kernel), fun h9 => absurd h9 (by decide +kernel), fun h9 => absurd h9 (by decide +kernel), fun h9 => absurd h9 (by decide +kernel), fun h9 => absurd h9 (by decide +kernel), fun h9 => absurd h9 (by decide +kernel), fun h9 => absurd h9 (by decide +kernel), fun h9 => absurd h9 (by decide +kernel), fun h9 => absurd h9 (by decide +kernel), fun h9 => absurd h9 (by decide +kernel)⟩, fun h9 => absurd h9 (by decide +kernel)⟩
  | 6, _, h1, h0 => exact ⟨fun _ => ⟨fun h9 => absurd h9 (by decide +kernel), fun h9 => absurd h9 (by decide +kernel), fun h9 => absurd h9 (by decide +kernel), fun h9 => absurd h9 (by decide +kernel), fun h9 => absurd h9 (by decide +kernel), fun h9 => absurd h9 (by decide +kernel), fun h9 => absurd h9 (by decide +kernel), fun _ => ⟨fun c => h0 (decide_eq_false (by simp [c])), fun c => h1 (decide_eq_true (by simp [c]))⟩, fun h9 => absurd h9 (by decide +kernel), fun h9 => absurd h9 (by decide +kernel), fun h9 => absurd h9 (by decide +kernel), fun h9 => absurd h9 (by decide +kernel), fun h9 => absurd h9 (by decide +kernel), fun h9 => absurd h9 (by decide +kernel), fun h9 => absurd h9 (by decide +kernel), fun h9 => absurd h9 (by decide +kernel), fun h9 => absurd h9 (by decide +kernel), fun h9 => absurd h9 (by decide +kernel), fun h9 => absurd h9 (by decide +kernel), fun h9 => absurd h9 (by decide +kernel)⟩, fun h9 => absurd h9 (by decide +kernel)⟩
  | 7, _, h1, h0 => exact ⟨fun _ => ⟨fun h9 => absurd h9 (by decide +kernel), fun h9 => absurd h9 (by decide +kernel), fun h9 => absurd h9 (by decide +kernel), fun h9 => absurd h9 (by decide +kernel), fun h9 => absurd h9 (by decide +kernel), fun h9 => absurd h9 (by decide +kernel), fun h9 => absurd h9 (by decide +kernel), fun h9 => absurd h9 (by decide +kernel), fun _ => h0 (by simp), fun h9 => absurd h9 (by decide +kernel), fun h9 => absurd h9 (by decide +kernel), fun h9 => absurd h9 (by decide +kernel), fun h9 => absurd h9 (by decide +kernel), fun h9 => absurd h9 (by decide +kernel), fun h9 => absurd h9 (by decide +kernel), fun h9 => absurd h9 (by decide +kernel), fun h9 => absurd h9 (by decide +kernel), fun h9 => absurd h9 (by decide +kernel), fun h9 => absurd h9 (by decide +kernel), fun h9 => absurd h9 (by decide +kernel)⟩, fun h9 => absurd h9 (by decide +kernel)⟩
  | 8, _, h1, h0 => exact ⟨fun _ => ⟨fun h9 => absurd h9 (by decide +kernel), fun h9 => absurd h9 (by decide +kernel), fun h9 => absurd h9 (by decide +kernel), fun h9 => absurd h9 (by decide +kernel), fun h9 => absurd h9 (by decide +kernel), fun h9 => absurd h9 (by decide +kernel), fun h9 => absurd h9 (by decide +kernel), fun h9 => absurd h9 (by decide +kernel), fun h9 => absurd h9 (by decide +kernel), fun _ => ⟨fun c => h0 (decide_eq_false (by simp [c])), fun c => h1 (decide_eq_true (by simp [c]))⟩, fun h9 => absurd h9 (by decide +kernel), fun h9 => absurd h9 (by decide +kernel), fun h9 => absurd h9 (by decide +kernel), fun h9 => absurd h9 (by decide +kernel), fun h9 => absurd h9 (by decide +kernel), fun h9 => absurd h9 (by decide +kernel), fun h9 => absurd h9 (by decide +kernel), fun h9 => absurd h9 (by decide +kernel), fun h9 => absurd h9 (by decide +kernel), fun h9 => absurd h9 (by decide +kernel)⟩, fun h9 => absurd h9 (by decide +kernel)⟩
  | 9, _, h1, h0 => exact ⟨fun _ => ⟨fun h9 => absurd h9 (by decide +kernel), fun h9 => absurd h9 (by decide +kernel), fun h9 => absurd h9 (by decide +kernel), fun h9 => absurd h9 (by decide +kernel), fun h9 => absurd h9 (by decide +kernel), fun h9 => absurd h9 (by decide +kernel), fun h9 => absurd h9 (by decide +kernel), fun h9 => absurd h9 (by decide +kernel), fun h9 => absurd h9 (by decide +kernel), fun h9 => absurd h9 (by decide +kernel), fun _ => h0 (by simp), fun h9 => absurd h9 (by decide +kernel), fun h9 => absurd h9 (by decide +kernel), fun h9 => absurd h9 (by decide +kernel), fun h9 => absurd h9 (by decide +kernel), fun h9 => absurd h9 (by decide +kernel), fun h9 => absurd h9 (by decide +kernel), fun h9 => absurd h9 (by decide +kernel), fun h9 => absurd h9 (by decide +kernel), fun h9 => absurd h9 (by decide +kernel)⟩, fun h9 => absurd h9 (by decide +kernel)⟩
  | 10, _, h1, h0 => exact ⟨fun h9 => absurd h9 (by decide +kernel), fun _ => ⟨fun h9 => absurd h9 (by decide +kernel), fun _ => ⟨fun c => h0 (decide_eq_false (by simp [c])), fun c => h1 (decide_eq_true (by simp [c]))⟩⟩⟩
  | 11, _, h1, h0 => exact ⟨fun h9 => absurd h9 (by decide +kernel), fun _ => ⟨fun h9 => absurd h9 (by decide +kernel), fun _ => ⟨fun c => h0 (decide_eq_false (by simp [c])), fun c => h1 (decide_eq_true (by simp [c]))⟩⟩⟩
  | 12, _, h1, h0 => exact ⟨fun h9 => absurd h9 (by decide +kernel), fun _ => ⟨fun h9 => absurd h9 (by decide +kernel), fun _ => ⟨fun c => h0 (decide_eq_false (by simp [c])), fun c => h1 (decide_eq_true (by simp [c]))⟩⟩⟩
  | 13, _, h1, h0 => exact ⟨fun h9 => absurd h9 (by decide +kernel), fun _ => ⟨fun h9 => absurd h9 (by decide +kernel), fun _ => ⟨fun c => h0 (decide_eq_false (by simp [c])), fun c => h1 (decide_eq_true (by simp [c]))⟩⟩⟩
  | 14, _, h1, h0 => exact ⟨fun h9 => absurd h9 (by decide +kernel), fun _ => ⟨fun h9 => absurd h9 (by decide +kernel), fun _ => ⟨fun c => h0 (decide_eq_false (by simp [c])), fun c => h1 (decide_eq_true (by simp [c]))⟩⟩⟩
  | 15, _, h1, h0 => exact ⟨fun h9 => absurd h9 (by decide +kernel), fun _ => ⟨fun h9 => absurd h9 (by decide +kernel), fun _ => ⟨fun c => h0 (decide_eq_false (by simp [c])), fun c => h1 (decide_eq_true (by simp [c]))⟩⟩⟩
  | 16, _, h1, h0 => exact ⟨fun h9 => absurd h9 (by decide +kernel), fun _ => ⟨fun _ => ⟨fun h9 => absurd h9 (by decide +kernel), fun h9 => absurd h9 (by decide +kernel), fun h9 => absurd h9 (by decide +kernel), fun h9 => absurd h9 (by decide +kernel), fun h9 => absurd h9 (by decide +kernel), fun h9 => absurd h9 (by decide +kernel), fun h9 => absurd h9 (by decide +kernel), fun h9 => absurd h9 (by decide +kernel), fun h9 => absurd h9 (by decide +kernel), fun h9 => absurd h9 (by decide +kernel), fun h9 => absurd h9 (by decide +kernel), fun h9 => absurd h9 (by decide +kernel), fun h9 => absurd h9 (by decide +kernel), fun h9 => absurd h9 (by decide +kernel), fun h9 => absurd h9 (by decide +kernel), fun h9 => absurd h9 (by decide +kernel), fun h9 => absurd h9 (by decide +kernel), fun _ => ⟨fun c => h0 (decide_eq_false (by simp [c])), fun c => h1 (decide_eq_true (by simp [c]))⟩, fun h9 => absurd h9 (by decide +kernel), fun h9 => absurd h9 (by decide +kernel)⟩, fun h9 => absurd h9 (by decide +kernel)⟩⟩
  | 17, _, h1, h0 => exact ⟨fun h9 => absurd h9 (by decide +kernel), fun _ => ⟨fun _ => ⟨fun h9 => absurd h9 (by decide +kernel), fun h9 => absurd h9 (by decide +kernel), fun h9 => absurd h9 (by decide +kernel), fun h9 => absurd h9 (by decide +kernel), fun h9 => absurd h9 (by decide +kernel), fun h9 => absurd h9 (by decide +kernel), fun h9 => absurd h9 (by decide +kernel), fun h9 => absurd h9 (by decide +kernel), fun h9 => absurd h9 (by decide +kernel), fun h9 => absurd h9 (by decide +kernel), fun h9 => absurd h9 (by decide +kernel), fun h9 => absurd h9 (by decide +kernel), fun h9 => absurd h9 (by decide +kernel), fun h9 => absurd h9 (by decide +kernel), fun h9 => absurd h9 (by decide +kernel), fun h9 => absurd h9 (by decide +kernel), fun h9 => absurd h9 (by decide +kernel), fun h9 => absurd h9 (by decide +kernel), fun _ => ⟨fun c => h0 (decide_eq_false (by simp [c])), fun c => h1 (decide_eq_true (by simp [c]))⟩, fun h9 => absurd h9 (by decide +kernel)⟩, fun h9 => absurd h9 (by decide +kernel)⟩⟩
  | 18, _, h1, h0 => exact ⟨fun h9 => absurd h9 (by decide +kernel), fun _ => ⟨fun _ => ⟨fun h9 => absurd h9 (by decide +kernel), fun h9 => absurd h9 (by decide +kernel), fun h9 => absurd h9 (by decide +kernel), fun h9 => absurd h9 (by decide +kernel), fun h9 => absurd h9 (by decide +kernel), fun h9 => absurd h9 (by decide +kernel), fun h9 => absurd h9 (by decide +kernel), fun h9 => absurd h9 (by decide +kernel), fun h9 => absurd h9 (by decide +kernel), fun h9 => absurd h9 (by decide +kernel), fun h9 => absurd h9 (by decide +kernel), fun h9 => absurd h9 (by decide +kernel), fun h9 => absurd h9 (by decide +kernel), fun h9 => absurd h9 (by decide +kernel), fun h9 => absurd h9 (by decide +kernel), fun h9 => absurd h9 (by decide +kernel), fun h9 => absurd h9 (by decide +kernel), fun h9 => absurd h9 (by decide +kernel), fun h9 => absurd h9 (by decide +kernel), fun _ => ⟨fun c => h0 (decide_eq_false (by simp [c])), fun c => h1 (decide_eq_true (by simp [c]))⟩⟩, fun h9 => absurd h9 (by decide +kernel)⟩⟩
  | 19, _, h1, h0 => exact ⟨fun h9 => absurd h9 (by decide +kernel), fun _ => ⟨fun _ => ⟨fun _ => h0 (by simp), fun h9 => absurd h9 (by decide +kernel), fun h9 => absurd h9 (by decide +kernel), fun h9 => absurd h9 (by decide +kernel), fun h9 => absurd h9 (by decide +kernel), fun h9 => absurd h9 (by decide +kernel), fun h9 => absurd h9 (by decide +kernel), fun h9 => absurd h9 (by decide +kernel), fun h9 => absurd h9 (by decide +kernel), fun h9 => absurd h9 (by decide +kernel), fun h9 => absurd h9 (by decide +kernel), fun h9 => absurd h9 (by decide +kernel), fun h9 => absurd h9 (by decide +kernel), fun h9 => absurd h9 (by decide +kernel), fun h9 => absurd h9 (by decide +kernel), fun h9 => absurd h9 (by decide +kernel), fun h9 => absurd h9 (by decide +kernel), fun h9 => absurd h9 (by decide +kernel), fun h9 => absurd h9 (by decide +kernel), fun h9 => absurd h9 (by decide +kernel)⟩, fun h9 => absurd h9 (by decide +kernel)⟩⟩
  | w + 20, hw, _, _ => exact absurd hw (by omega)
theorem DR_fu {lf_huts lf_singers lf_villages lf_dams lf_echoes lf_deep lf_slide vf_deeds sf_facts cf_voices cf_step : Int32} {la_heights la_ladders la_minutes la_echoFrom la_echoTo la_homes la_talls la_known va_kinds va_firsts va_seconds sa_heard sa_huts sa_minutes ca_parts ca_heights : Nat → Int32} {h s fh fs : Int32} {td : Nat → Int32} {o w : Nat} (ho : o ≤ 3) (hw : wlo o ≤ w ∧ w < wlo (o + 1)) (hD : DR o lf_huts lf_singers lf_villages lf_dams lf_echoes lf_deep lf_slide la_heights la_ladders la_minutes la_echoFrom la_echoTo la_homes la_talls la_known vf_deeds va_kinds va_firsts va_seconds sf_facts sa_heard sa_huts sa_minutes cf_voices cf_step ca_parts ca_heights h s td fh fs) : decide ((w = 0 ∧ lf_huts = 9) ∨ (w = 6 ∧ lf_echoes = 4) ∨ (w = 8 ∧ lf_singers = 6) ∨ (10 ≤ w ∧ w < 16 ∧ vf_deeds = 40) ∨ (16 ≤ w ∧ w < 18 ∧ sf_facts = 10) ∨ (w = 18 ∧ cf_voices = 9)) = fu w td := by
  unfold fu
  have hc : o = 0 ∨ o = 1 ∨ o = 2 ∨ o = 3 := by omega
  rcases hc with rfl | rfl | rfl | rfl
  · have h1 : w < 10 := hw.2
    have hL := (hD.1 rfl).1
    rw [hL.1, hL.2.1, hL.2.2.2.2.1]
    congr 1
    apply propext
    constructor
    · rintro (h | h | h | h | h | h)
      · exact Or.inl h
      · exact Or.inr (Or.inl h)
      · exact Or.inr (Or.inr (Or.inl h))
      · omega
      · omega
      · omega
    · rintro (h | h | h | h | h | h)
      · exact Or.inl h
      · exact Or.inr (Or.inl h)
      · exact Or.inr (Or.inr (Or.inl h))
      · omega
      · omega
      · omega
  · have h1 : w < 16 := hw.2
    have h2 : 10 ≤ w := hw.1
    rw [(hD.2.1 rfl).1]
    congr 1
    apply propext
    constructor
    · rintro (h | h | h | h | h | h)
      · omega
      · omega
      · omega
      · exact Or.inr (Or.inr (Or.inr (Or.inl h)))
      · omega
      · omega
    · rintro (h | h | h | h | h | h)
      · omega
      · omega
      · omega
      · exact Or.inr (Or.inr (Or.inr (Or.inl h)))
      · omega
      · omega
  · have h1 : w < 18 := hw.2
    have h2 : 16 ≤ w := hw.1
    rw [(hD.2.2.1 rfl).1]
    congr 1
    apply propext
    constructor
    · rintro (h | h | h | h | h | h)
      · omega
      · omega
      · omega
      · omega
      · exact Or.inr (Or.inr (Or.inr (Or.inr (Or.inl h))))
      · omega
    · rintro (h | h | h | h | h | h)
      · omega
      · omega
      · omega
      · omega
      · exact Or.inr (Or.inr (Or.inr (Or.inr (Or.inl h))))
      · omega
  · have h1 : w < 20 := hw.2
    have h2 : 18 ≤ w := hw.1
    rw [(hD.2.2.2 rfl).1]
    congr 1
    apply propext
    constructor
    · rintro (h | h | h | h | h | h)
      · omega
      · omega
      · omega
      · omega
      · omega
      · exact Or.inr (Or.inr (Or.inr (Or.inr (Or.inr h))))
    · rintro (h | h | h | h | h | h)
      · omega
      · omega
      · omega
      · omega
      · omega
      · exact Or.inr (Or.inr (Or.inr (Or.inr (Or.inr h))))
set_option maxRecDepth 20000 in
theorem e_tell {lf_huts lf_singers lf_villages lf_dams lf_echoes lf_deep lf_slide vf_deeds sf_facts cf_voices cf_step : Int32} {la_heights la_ladders la_minutes la_echoFrom la_echoTo la_homes la_talls la_known va_kinds va_firsts va_seconds sa_heard sa_huts sa_minutes ca_parts ca_heights : Nat → Int32} {nums td : Nat → Int32} {h s fh fs a b c : Int32} {o w : Nat} {post : (Int32) → (Int32) → (Int32) → (Int32) → (Int32) → (Int32) → (Int32) → (Nat → Int32) → (Nat → Int32) → (Nat → Int32) → (Nat → Int32) → (Nat → Int32) → (Nat → Int32) → (Nat → Int32) → (Nat → Int32) → (Int32) → (Nat → Int32) → (Nat → Int32) → (Nat → Int32) → (Int32) → (Nat → Int32) → (Nat → Int32) → (Nat → Int32) → (Int32) → (Int32) → (Nat → Int32) → (Nat → Int32) → Int32 → Int32 → Prop} (ho : o ≤ 3) (hw : wlo o ≤ w ∧ w < wlo (o + 1)) (hC : CB o td) (hf : fu w td = false) (n0 : nums 0 = a) (c0 : cW w 0 a a = true) (n1 : 2 ≤ nW w → nums 1 = b) (c1 : 2 ≤ nW w → cW w 1 a b = true) (n2 : 3 ≤ nW w → nums 2 = c) (c2 : 3 ≤ nW w → cW w 2 a c = true) (hD : DR o lf_huts lf_singers lf_villages lf_dams lf_echoes lf_deep lf_slide la_heights la_ladders la_minutes la_echoFrom la_echoTo la_homes la_talls la_known vf_deeds va_kinds va_firsts va_seconds sf_facts sa_heard sa_huts sa_minutes cf_voices cf_step ca_parts ca_heights h s td fh fs) (hp : ∀ (lf_huts' : Int32) (lf_singers' : Int32) (lf_villages' : Int32) (lf_dams' : Int32) (lf_echoes' : Int32) (lf_deep' : Int32) (lf_slide' : Int32) (la_heights' : Nat → Int32) (la_ladders' : Nat → Int32) (la_minutes' : Nat → Int32) (la_echoFrom' : Nat → Int32) (la_echoTo' : Nat → Int32) (la_homes' : Nat → Int32) (la_talls' : Nat → Int32) (la_known' : Nat → Int32) (vf_deeds' : Int32) (va_kinds' : Nat → Int32) (va_firsts' : Nat → Int32) (va_seconds' : Nat → Int32) (sf_facts' : Int32) (sa_heard' : Nat → Int32) (sa_huts' : Nat → Int32) (sa_minutes' : Nat → Int32) (cf_voices' : Int32) (cf_step' : Int32) (ca_parts' : Nat → Int32) (ca_heights' : Nat → Int32) (h' s' : Int32), DR o lf_huts' lf_singers' lf_villages' lf_dams' lf_echoes' lf_deep' lf_slide' la_heights' la_ladders' la_minutes' la_echoFrom' la_echoTo' la_homes' la_talls' la_known' vf_deeds' va_kinds' va_firsts' va_seconds' sf_facts' sa_heard' sa_huts' sa_minutes' cf_voices' cf_step' ca_parts' ca_heights' h' s' (lD w true a b c td) (lH w a b fh) (lS w a fs) → post lf_huts' lf_singers' lf_villages' lf_dams' lf_echoes' lf_deep' lf_slide' la_heights' la_ladders' la_minutes' la_echoFrom' la_echoTo' la_homes' la_talls' la_known' vf_deeds' va_kinds' va_firsts' va_seconds' sf_facts' sa_heard' sa_huts' sa_minutes' cf_voices' cf_step' ca_parts' ca_heights' h' s') : q_wr_X4_tell_0 lf_huts lf_singers lf_villages lf_dams lf_echoes lf_deep lf_slide la_heights la_ladders la_minutes la_echoFrom la_echoTo la_homes la_talls la_known vf_deeds va_kinds va_firsts va_seconds sf_facts sa_heard sa_huts sa_minutes cf_voices cf_step ca_parts ca_heights nums h s (nI w) post := by
  have hc : o = 0 ∨ o = 1 ∨ o = 2 ∨ o = 3 := by omega
  rcases hc with rfl | rfl | rfl | rfl
  · have h1 : w < 10 := hw.2
    have h2 : 0 ≤ w := hw.1
    have hc : w = 0 ∨ w = 1 ∨ w = 2 ∨ w = 3 ∨ w = 4 ∨ w = 5 ∨ w = 6 ∨ w = 7 ∨ w = 8 ∨ w = 9 := by omega
    rcases hc with rfl | rfl | rfl | rfl | rfl | rfl | rfl | rfl | rfl | rfl
    · exact e_tell_0 hC hf n0 c0 hD hp
    · exact e_tell_1 hC hf n0 c0 hD hp
    · exact e_tell_2 hC hf n0 c0 hD hp
    · exact e_tell_3 hC hf n0 c0 hD hp
    · exact e_tell_4 hC hf n0 c0 hD hp
    · exact e_tell_5 hC hf n0 c0 (n1 (by decide)) (c1 (by decide)) (n2 (by decide)) (c2 (by decide)) hD hp
    · exact e_tell_6 hC hf n0 c0 (n1 (by decide)) (c1 (by decide)) hD hp
    · exact e_tell_7 hC hf n0 c0 (n1 (by decide)) (c1 (by decide)) hD hp
    · exact e_tell_8 hC hf n0 c0 (n1 (by decide)) (c1 (by decide)) hD hp
    · exact e_tell_9 hC hf n0 c0 (n1 (by decide)) (c1 (by decide)) hD hp
  · have h1 : w < 16 := hw.2
    have h2 : 10 ≤ w := hw.1
    have hc : w = 10 ∨ w = 11 ∨ w = 12 ∨ w = 13 ∨ w = 14 ∨ w = 15 := by omega
    rcases hc with rfl | rfl | rfl | rfl | rfl | rfl
    · exact e_tell_10 hC hf n0 c0 (n1 (by decide)) (c1 (by decide)) hD hp
    · exact e_tell_11 hC hf n0 c0 (n1 (by decide)) (c1 (by decide)) hD hp
    · exact e_tell_12 hC hf n0 c0 (n1 (by decide)) (c1 (by decide)) hD hp
    · exact e_tell_13 hC hf n0 c0 (n1 (by decide)) (c1 (by decide)) hD hp
    · exact e_tell_14 hC hf n0 c0 hD hp
    · exact e_tell_15 hC hf n0 c0 hD hp
  · have h1 : w < 18 := hw.2
    have h2 : 16 ≤ w := hw.1
    have hc : w = 16 ∨ w = 17 := by omega
    rcases hc with rfl | rfl
    · exact e_tell_16 hC hf n0 c0 (n1 (by decide)) (c1 (by decide)) hD hp
    · exact e_tell_17 hC hf n0 c0 (n1 (by decide)) (c1 (by decide)) hD hp
  · have h1 : w < 20 := hw.2
    have h2 : 18 ≤ w := hw.1
    have hc : w = 18 ∨ w = 19 := by omega
    rcases hc with rfl | rfl
    · exact e_tell_18 hC hf n0 c0 (n1 (by decide)) (c1 (by decide)) hD hp
    · exact e_tell_19 hC hf n0 c0 hD hp
theorem mF_0 {c : Bool} {lf f : Int32} (hf : ¬ f = 0) (h : mF c lf f = 0) : c = true ∧ lf = 0 := by
  unfold mF at h
  by_cases hc : c = true
  · rw [if_pos hc] at h
    exact ⟨hc, h⟩
  · rw [if_neg hc] at h
    by_cases hl : lf = 0
    · rw [if_pos hl] at h; exact absurd h hf
    · rw [if_neg hl] at h; exact absurd h hl
theorem mkF_0 {B : Nat → Int32} {n r w : Nat} {td : Nat → Int32} {fa : Int32} : ∀ k, mkF B n r w td fa k = 0 → fa = 0 ∧ fu w td = false ∧ ∀ j, j < k → cW w j (tV B n (ps B n r 1)) (tV B n (ps B n r (j + 1))) = true
  | 0 => fun h => by
    have := mF_0 (by decide) h
    refine ⟨this.2, ?_, fun j hj => absurd hj (by omega)⟩
    have h1 := this.1
    cases hh : fu w td with
    | false => rfl
    | true => rw [hh] at h1; exact absurd h1 (by decide)
  | k + 1 => fun h => by
    have := mF_0 (by decide) h
    obtain ⟨a, b, c⟩ := mkF_0 k this.2
    refine ⟨a, b, fun j hj => ?_⟩
    by_cases hjk : j = k
    · subst hjk; exact this.1
    · exact c j (by omega)
theorem mark_e {fa pl f p : Int32} {c : Bool} {post : Int32 → Int32 → Prop} (hc : c = false) (h : post (mF c fa f) (mP c fa pl p)) : q_wr_X4_mark_0 fa pl f p post := by
  unfold mF mP at h
  rw [hc] at h
  have hb : ¬ (false = true) := by decide
  rw [if_neg hb, if_neg hb] at h
  refine ⟨fun h9 => ?_, fun h9 => ?_⟩
  · rw [if_neg h9, if_neg h9] at h; exact h
  · rw [if_pos h9, if_pos h9] at h; exact h
theorem mF_t {fa f : Int32} : mF true fa f = fa := rfl
theorem mP_t {fa pl p : Int32} : mP true fa pl p = pl := rfl
theorem mF_n {c : Bool} {fa f : Int32} (h : ¬ fa = 0) : mF c fa f = fa := by
  unfold mF
  by_cases hc : c = true
  · rw [if_pos hc]
  · rw [if_neg hc, if_neg h]
theorem mP_n {c : Bool} {fa pl p : Int32} (h : ¬ fa = 0) : mP c fa pl p = pl := by
  unfold mP
  by_cases hc : c = true
  · rw [if_pos hc]
  · rw [if_neg hc, if_neg h]
theorem fu_any {lf_huts lf_singers lf_echoes vf_deeds sf_facts cf_voices : Int32} {w : Nat} {post : Int32 → Prop} (hw : w < 20) (h1 : post 1) (h0 : post 0) : q_wr_X4_isFull_0 lf_huts lf_singers lf_echoes vf_deeds sf_facts cf_voices (nI w) post := e_isFull hw (fun _ => h1) (fun _ => h0)
set_option maxRecDepth 20000 in
theorem e_readLine {tp B : Nat → Int32} {lf_huts lf_singers lf_villages lf_dams lf_echoes lf_deep lf_slide vf_deeds sf_facts cf_voices cf_step : Int32} {la_heights la_ladders la_minutes la_echoFrom la_echoTo la_homes la_talls la_known va_kinds va_firsts va_seconds sa_heard sa_huts sa_minutes ca_parts ca_heights : Nat → Int32} {nums td : Nat → Int32} {h s fh fs fa pl va : Int32} {n r o : Nat} {post : (Int32) → (Int32) → (Int32) → (Int32) → (Int32) → (Int32) → (Int32) → (Nat → Int32) → (Nat → Int32) → (Nat → Int32) → (Nat → Int32) → (Nat → Int32) → (Nat → Int32) → (Nat → Int32) → (Nat → Int32) → (Int32) → (Nat → Int32) → (Nat → Int32) → (Nat → Int32) → (Int32) → (Nat → Int32) → (Nat → Int32) → (Nat → Int32) → (Int32) → (Int32) → (Nat → Int32) → (Nat → Int32) → Int32 → Int32 → (Nat → Int32) → Int32 → Int32 → Int32 → Int32 → Int32 → Int32 → Prop} (hn : n ≤ 600) (hr : r ≤ n) (ho : o ≤ 3) (hB : ∀ j, j < n → tp j = B j) (hv : tK B n r = 2 → va = tV B n r) (hC : CB o td) (hD : fa = 0 → DR o lf_huts lf_singers lf_villages lf_dams lf_echoes lf_deep lf_slide la_heights la_ladders la_minutes la_echoFrom la_echoTo la_homes la_talls la_known vf_deeds va_kinds va_firsts va_seconds sf_facts sa_heard sa_huts sa_minutes cf_voices cf_step ca_parts ca_heights h s td fh fs) (h0 : ¬ lb B n r o = 9 → ∀ (lf_huts' : Int32) (lf_singers' : Int32) (lf_villages' : Int32) (lf_dams' : Int32) (lf_echoes' : Int32) (lf_deep' : Int32) (lf_slide' : Int32) (la_heights' : Nat → Int32) (la_ladders' : Nat → Int32) (la_minutes' : Nat → Int32) (la_echoFrom' : Nat → Int32) (la_echoTo' : Nat → Int32) (la_homes' : Nat → Int32) (la_talls' : Nat → Int32) (la_known' : Nat → Int32) (vf_deeds' : Int32) (va_kinds' : Nat → Int32) (va_firsts' : Nat → Int32) (va_seconds' : Nat → Int32) (sf_facts' : Int32) (sa_heard' : Nat → Int32) (sa_huts' : Nat → Int32) (sa_minutes' : Nat → Int32) (cf_voices' : Int32) (cf_step' : Int32) (ca_parts' : Nat → Int32) (ca_heights' : Nat → Int32) (nums' : Nat → Int32) (b' k' f' va' h' s' : Int32), post lf_huts' lf_singers' lf_villages' lf_dams' lf_echoes' lf_deep' lf_slide' la_heights' la_ladders' la_minutes' la_echoFrom' la_echoTo' la_homes' la_talls' la_known' vf_deeds' va_kinds' va_firsts' va_seconds' sf_facts' sa_heard' sa_huts' sa_minutes' cf_voices' cf_step' ca_parts' ca_heights' 1 (nI (tF B n (ps B n r (lb B n r o)))) nums' b' k' f' va' h' s') (h1 : lb B n r o = 9 → ∀ (lf_huts' : Int32) (lf_singers' : Int32) (lf_villages' : Int32) (lf_dams' : Int32) (lf_echoes' : Int32) (lf_deep' : Int32) (lf_slide' : Int32) (la_heights' : Nat → Int32) (la_ladders' : Nat → Int32) (la_minutes' : Nat → Int32) (la_echoFrom' : Nat → Int32) (la_echoTo' : Nat → Int32) (la_homes' : Nat → Int32) (la_talls' : Nat → Int32) (la_known' : Nat → Int32) (vf_deeds' : Int32) (va_kinds' : Nat → Int32) (va_firsts' : Nat → Int32) (va_seconds' : Nat → Int32) (sf_facts' : Int32) (sa_heard' : Nat → Int32) (sa_huts' : Nat → Int32) (sa_minutes' : Nat → Int32) (cf_voices' : Int32) (cf_step' : Int32) (ca_parts' : Nat → Int32) (ca_heights' : Nat → Int32) (nums' : Nat → Int32) (va' h' s' : Int32), (mkF B n r (wOf B n r o) td fa (nW (wOf B n r o)) = 0 → DR o lf_huts' lf_singers' lf_villages' lf_dams' lf_echoes' lf_deep' lf_slide' la_heights' la_ladders' la_minutes' la_echoFrom' la_echoTo' la_homes' la_talls' la_known' vf_deeds' va_kinds' va_firsts' va_seconds' sf_facts' sa_heard' sa_huts' sa_minutes' cf_voices' cf_step' ca_parts' ca_heights' h' s' (lD (wOf B n r o) true (tV B n (ps B n r 1)) (tV B n (ps B n r 2)) (tV B n (ps B n r 3)) td) (lH (wOf B n r o) (tV B n (ps B n r 1)) (tV B n (ps B n r 2)) fh) (lS (wOf B n r o) (tV B n (ps B n r 1)) fs)) → (tK B n (ps B n r (nW (wOf B n r o) + 2)) = 2 → va' = tV B n (ps B n r (nW (wOf B n r o) + 2))) → post lf_huts' lf_singers' lf_villages' lf_dams' lf_echoes' lf_deep' lf_slide' la_heights' la_ladders' la_minutes' la_echoFrom' la_echoTo' la_homes' la_talls' la_known' vf_deeds' va_kinds' va_firsts' va_seconds' sf_facts' sa_heard' sa_huts' sa_minutes' cf_voices' cf_step' ca_parts' ca_heights' (mkF B n r (wOf B n r o) td fa (nW (wOf B n r o))) (mkP B n r (wOf B n r o) td fa pl (nW (wOf B n r o))) nums' (nI (tN B n (ps B n r (nW (wOf B n r o) + 2)))) (nI (tK B n (ps B n r (nW (wOf B n r o) + 2)))) (nI (tF B n (ps B n r (nW (wOf B n r o) + 2)))) va' h' s') : q_wr_X4_readLine_0 lf_huts lf_singers lf_villages lf_dams lf_echoes lf_deep lf_slide la_heights la_ladders la_minutes la_echoFrom la_echoTo la_homes la_talls la_known vf_deeds va_kinds va_firsts va_seconds sf_facts sa_heard sa_huts sa_minutes cf_voices cf_step ca_parts ca_heights fa pl nums tp (nI n) (nI (tN B n r)) (nI (tK B n r)) (nI (tF B n r)) va h s (nI o) post := by
  have hwc := wd_cases (B := B) (n := n) (r := r) ho
  refine e_wordOf hn hr ho hB (fun hw => ⟨fun h9 => absurd rfl h9, fun _ => ?_⟩) (fun hw hWP => ⟨fun _ => ?_, fun h9 => absurd h9 (nI_nm1 (by omega))⟩)
  · have hl : lb B n r o = 0 := by unfold lb; rw [if_pos hw]
    have g := h0 (by omega)
    rw [hl] at g
    exact g lf_huts lf_singers lf_villages lf_dams lf_echoes lf_deep lf_slide la_heights la_ladders la_minutes la_echoFrom la_echoTo la_homes la_talls la_known vf_deeds va_kinds va_firsts va_seconds sf_facts sa_heard sa_huts sa_minutes cf_voices cf_step ca_parts ca_heights nums _ _ _ _ _ _
  have hlb : lb B n r o = lbr B n r (nW (wOf B n r o)) 0 := by unfold lb; rw [if_neg (by omega)]
  obtain ⟨w, hwe⟩ : ∃ w, w = wOf B n r o := ⟨_, rfl⟩
  rw [← hwe] at hlb h1 hw hWP ⊢
  obtain ⟨hnt, hn1, hn3⟩ := nW_tb w hw
  have hps := ps_le (B := B) hr
  -- behind the word's mark
  have st : q_wr_X4_readLine_33 lf_huts lf_singers lf_villages lf_dams lf_echoes lf_deep lf_slide la_heights la_ladders la_minutes la_echoFrom la_echoTo la_homes la_talls la_known vf_deeds va_kinds va_firsts va_seconds sf_facts sa_heard sa_huts sa_minutes cf_voices cf_step ca_parts ca_heights (mkF B n r w td fa 0) (mkP B n r w td fa pl 0) nums tp (nI n) (nI (tN B n r)) (nI (tK B n r)) (nI (tF B n r)) va h s (nI w) post := by
    refine e_adv (r := tN B n r) hn (tk_le hr).2.1 hB (fun v1 hv1 => ?_)
    intro P hP
    have loop : ∀ d k v (nums' : Nat → Int32), d + k = nW w → lbr B n r d k = lb B n r o → (∀ j, j < k → nums' j = tV B n (ps B n r (j + 1))) → (tK B n (ps B n r (k + 1)) = 2 → v = tV B n (ps B n r (k + 1))) → P (nI k) (mkF B n r w td fa k) (mkP B n r w td fa pl k) nums' (nI (tN B n (ps B n r (k + 1)))) (nI (tK B n (ps B n r (k + 1)))) (nI (tF B n (ps B n r (k + 1)))) v := by
      intro d
      induction d with
      | zero =>
        intro k v nums' hd hl hj hv2
        have hkn : k = nW w := by omega
        have hk4 := (tk_le (B := B) (hps (k + 1)).2).2.2.2.2
        apply hP
        rw [nI_clamp (n := w) (by omega), hnt]
        refine ⟨vp_in_nI (by omega) (by omega), pk_le (nW w) k (fun _ => ?_) (fun h9 => absurd h9 (by omega))⟩
        refine pk_eq (tK B n (ps B n r (k + 1))) 3 (fun h3 => ?_) (fun h3 => ?_)
        · have hl9 : lb B n r o = 9 := by rw [← hl, lbr, if_pos h3]
          refine ⟨fun hf => ?_, fun hf => ?_⟩
          · refine e_adv (r := ps B n r (k + 2)) hn (hps (k + 2)).2 hB (fun v3 hv3 => ?_)
            have g := h1 hl9 lf_huts lf_singers lf_villages lf_dams lf_echoes lf_deep lf_slide la_heights la_ladders la_minutes la_echoFrom la_echoTo la_homes la_talls la_known vf_deeds va_kinds va_firsts va_seconds sf_facts sa_heard sa_huts sa_minutes cf_voices cf_step ca_parts ca_heights nums' v3 h s (fun h9 => absurd (by rw [hkn]; exact h9) hf)
            rw [hkn] at hv3 ⊢
            exact g hv3
          · obtain ⟨z1, z2, z3⟩ := mkF_0 k hf
            refine e_tell (a := tV B n (ps B n r 1)) (b := tV B n (ps B n r 2)) (c := tV B n (ps B n r 3)) ho ⟨hWP.1, hWP.2.1⟩ hC z2 (hj 0 (by omega)) (z3 0 (by omega)) (fun q => hj 1 (by omega)) (fun q => z3 1 (by omega)) (fun q => hj 2 (by omega)) (fun q => z3 2 (by omega)) (hD z1) ?_
            intro lf_huts' lf_singers' lf_villages' lf_dams' lf_echoes' lf_deep' lf_slide' la_heights' la_ladders' la_minutes' la_echoFrom' la_echoTo' la_homes' la_talls' la_known' vf_deeds' va_kinds' va_firsts' va_seconds' sf_facts' sa_heard' sa_huts' sa_minutes' cf_voices' cf_step' ca_parts' ca_heights' h' s' hD'
            refine e_adv (r := ps B n r (k + 2)) hn (hps (k + 2)).2 hB (fun v3 hv3 => ?_)
            have g := h1 hl9 lf_huts' lf_singers' lf_villages' lf_dams' lf_echoes' lf_deep' lf_slide' la_heights' la_ladders' la_minutes' la_echoFrom' la_echoTo' la_homes' la_talls' la_known' vf_deeds' va_kinds' va_firsts' va_seconds' sf_facts' sa_heard' sa_huts' sa_minutes' cf_voices' cf_step' ca_parts' ca_heights' nums' v3 h' s' (fun _ => hD')
            rw [hkn] at hv3 ⊢
            exact g hv3
        · have hl9 : lb B n r o = k + 1 := by rw [← hl, lbr, if_neg h3]
          have g := h0 (by omega) lf_huts lf_singers lf_villages lf_dams lf_echoes lf_deep lf_slide la_heights la_ladders la_minutes la_echoFrom la_echoTo la_homes la_talls la_known vf_deeds va_kinds va_firsts va_seconds sf_facts sa_heard sa_huts sa_minutes cf_voices cf_step ca_parts ca_heights nums' (nI (tN B n (ps B n r (k + 1)))) (nI (tK B n (ps B n r (k + 1)))) (nI (tF B n (ps B n r (k + 1)))) v h s
          rw [hl9] at g
          exact g
      | succ d ih =>
        intro k v nums' hd hl hj hv2
        have hk4 := (tk_le (B := B) (hps (k + 1)).2).2.2.2.2
        apply hP
        rw [nI_clamp (n := w) (by omega), hnt]
        refine ⟨vp_in_nI (by omega) (by omega), pk_le (nW w) k (fun h9 => absurd h9 (by omega)) (fun _ => ?_)⟩
        refine pk_eq (tK B n (ps B n r (k + 1))) 2 (fun h3 => ⟨vp_in_nI (by omega) (by omega), fun t1 e1 => ?_⟩) (fun h3 => ?_)
        · rw [nI_clamp (by omega), hv2 h3] at e1
          have hj2 : ∀ j, j < k + 1 → t1 j = tV B n (ps B n r (j + 1)) := by
            intro j hj3
            rw [e1]
            by_cases hjk : j = k
            · subst hjk; exact up_s
            · rw [up_n hjk]; exact hj j (by omega)
          have hl2 : lbr B n r d (k + 1) = lb B n r o := by rw [← hl, lbr, if_pos h3]
          have nx : ∀ f p, f = mkF B n r w td fa (k + 1) → p = mkP B n r w td fa pl (k + 1) → q_wr_X4_readLine_89 P lf_huts lf_singers lf_villages lf_dams lf_echoes lf_deep lf_slide la_heights la_ladders la_minutes la_echoFrom la_echoTo la_homes la_talls la_known vf_deeds va_kinds va_firsts va_seconds sf_facts sa_heard sa_huts sa_minutes cf_voices cf_step ca_parts ca_heights f p t1 tp (nI n) (nI (tN B n (ps B n r (k + 1)))) (nI (tK B n (ps B n r (k + 1)))) (nI (tF B n (ps B n r (k + 1)))) v h s (nI w) (nI k) post := by
            intro f p hf hp
            refine e_adv (r := ps B n r (k + 2)) hn (hps (k + 2)).2 hB (fun v3 hv3 v4 e4 => ?_)
            rw [e4, nI_1, hf, hp]
            exact ih (k + 1) v3 t1 (by omega) hl2 hj2 hv3
          refine e_canBe (a := tV B n (ps B n r 1)) hw (by omega) (hj2 0 (by omega)) (by rw [hj2 k (by omega)]; exact tV_iv (hps (k + 1)).2 h3) (fun hc => io ?_) (fun hc => zi ?_)
          · rw [hj2 k (by omega)] at hc
            refine nx _ _ ?_ ?_
            · show _ = mF (cW w k (tV B n (ps B n r 1)) (tV B n (ps B n r (k + 1)))) (mkF B n r w td fa k) 2
              rw [hc, mF_t]
            · show _ = mP (cW w k (tV B n (ps B n r 1)) (tV B n (ps B n r (k + 1)))) (mkF B n r w td fa k) (mkP B n r w td fa pl k) (nI (tF B n (ps B n r (k + 1))))
              rw [hc, mP_t]
          · rw [hj2 k (by omega)] at hc
            exact mark_e hc (nx _ _ rfl rfl)
        · have hl9 : lb B n r o = k + 1 := by rw [← hl, lbr, if_neg h3]
          have g := h0 (by omega) lf_huts lf_singers lf_villages lf_dams lf_echoes lf_deep lf_slide la_heights la_ladders la_minutes la_echoFrom la_echoTo la_homes la_talls la_known vf_deeds va_kinds va_firsts va_seconds sf_facts sa_heard sa_huts sa_minutes cf_voices cf_step ca_parts ca_heights nums' (nI (tN B n (ps B n r (k + 1)))) (nI (tK B n (ps B n r (k + 1)))) (nI (tF B n (ps B n r (k + 1)))) v h s
          rw [hl9] at g
          exact g
    exact loop (nW w) 0 v1 nums (by omega) hlb.symm (fun j hj => absurd hj (by omega)) hv1
  by_cases hfa : fa = 0
  · refine e_isFull hw (fun hc => oi ?_) (fun hc => iz ?_)
    · rw [DR_fu ho ⟨hWP.1, hWP.2.1⟩ (hD hfa)] at hc
      exact mark_e (c := !fu w td) (by rw [hc]; rfl) st
    · rw [DR_fu ho ⟨hWP.1, hWP.2.1⟩ (hD hfa)] at hc
      have e1 : mkF B n r w td fa 0 = fa := by show mF (!fu w td) fa 3 = fa; rw [hc]; rfl
      have e2 : mkP B n r w td fa pl 0 = pl := by show mP (!fu w td) fa pl _ = pl; rw [hc]; rfl
      rw [e1, e2] at st
      exact st
  · have e1 : mkF B n r w td fa 0 = fa := mF_n hfa
    have e2 : mkP B n r w td fa pl 0 = pl := mP_n hfa
    rw [e1, e2] at st
    exact fu_any hw (oi ⟨fun _ => st, fun h9 => absurd h9 hfa⟩) (iz st)
end
