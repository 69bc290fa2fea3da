-- wr_X4_read_23
set_option maxRecDepth 20000 in
theorem s_wr_X4_read_23_78 {lf_huts : Int32} {lf_singers : Int32} {lf_villages : Int32} {lf_dams : Int32} {lf_echoes : Int32} {lf_deep : Int32} {lf_slide : Int32} {la_heights : Nat → Int32} {la_ladders : Nat → Int32} {la_minutes : Nat → Int32} {la_echoFrom : Nat → Int32} {la_echoTo : Nat → Int32} {la_homes : Nat → Int32} {la_talls : Nat → Int32} {la_known : Nat → Int32} {vf_deeds : Int32} {va_kinds : Nat → Int32} {va_firsts : Nat → Int32} {va_seconds : Nat → Int32} {sf_facts : Int32} {sa_heard : Nat → Int32} {sa_huts : Nat → Int32} {sa_minutes : Nat → Int32} {cf_voices : Int32} {cf_step : Int32} {ca_parts : Nat → Int32} {ca_heights : Nat → Int32} {f_fault : Int32} {f_faultPlace : Int32} {a_numbers : Nat → Int32} {a_tape : Nat → Int32} {f_length : Int32} {f_behind : Int32} {f_kind : Int32} {f_first : Int32} {f_value : Int32} {f_hutsToldOf : Int32} {f_singersToldOf : Int32} {z_from : Nat → Int32} {x3 : Int32} {post : (Int32) → (Int32) → (Int32) → (Int32) → (Int32) → (Int32) → (Int32) → (Nat → Int32) → (Nat → Int32) → (Nat → Int32) → (Nat → Int32) → (Nat → Int32) → (Nat → Int32) → (Nat → Int32) → (Nat → Int32) → (Int32) → (Nat → Int32) → (Nat → Int32) → (Nat → Int32) → (Int32) → (Nat → Int32) → (Nat → Int32) → (Nat → Int32) → (Int32) → (Int32) → (Nat → Int32) → (Nat → Int32) → (Int32) → (Int32) → (Nat → Int32) → (Nat → Int32) → (Int32) → (Int32) → (Int32) → (Int32) → (Int32) → (Int32) → (Int32) → Prop} (k_lf_huts : iv 0 9 lf_huts) (k_lf_singers : iv 0 6 lf_singers) (k_lf_villages : iv 0 511 lf_villages) (k_lf_dams : iv 0 511 lf_dams) (k_lf_echoes : iv 0 4 lf_echoes) (k_lf_deep : iv 1 9 lf_deep) (k_lf_slide : iv 0 10 lf_slide) (k_la_heights : ∀ j, iv 0 99 (la_heights j)) (k_la_ladders : ∀ j, iv 0 9 (la_ladders j)) (k_la_minutes : ∀ j, iv 0 9 (la_minutes j)) (k_la_echoFrom : ∀ j, iv 0 8 (la_echoFrom j)) (k_la_echoTo : ∀ j, iv 0 8 (la_echoTo j)) (k_la_homes : ∀ j, iv 0 8 (la_homes j)) (k_la_talls : ∀ j, iv 0 9 (la_talls j)) (k_la_known : ∀ j, iv 0 31 (la_known j)) (k_vf_deeds : iv 0 40 vf_deeds) (k_va_kinds : ∀ j, iv 0 5 (va_kinds j)) (k_va_firsts : ∀ j, iv 0 5 (va_firsts j)) (k_va_seconds : ∀ j, iv (-1) 8 (va_seconds j)) (k_sf_facts : iv 0 10 sf_facts) (k_sa_heard : ∀ j, iv 0 1 (sa_heard j)) (k_sa_huts : ∀ j, iv 0 8 (sa_huts j)) (k_sa_minutes : ∀ j, iv 0 60 (sa_minutes j)) (k_cf_voices : iv 0 9 cf_voices) (k_cf_step : iv 0 9 cf_step) (k_ca_parts : ∀ j, iv 0 3 (ca_parts j)) (k_ca_heights : ∀ j, iv 0 9 (ca_heights j)) (k_f_fault : iv 0 4 f_fault) (k_f_faultPlace : iv (-1) 600 f_faultPlace) (k_a_tape : ∀ j, iv (-128) 127 (a_tape j)) (k_f_length : iv 0 600 f_length) (k_f_behind : iv 0 600 f_behind) (k_f_kind : iv 0 4 f_kind) (k_f_first : iv 0 600 f_first) (k_z_from : ∀ j, iv (-128) 127 (z_from j)) (hx3 : iv 0 3 x3) (hpost : ∀ (lf_huts : Int32) (lf_singers : Int32) (lf_villages : Int32) (lf_dams : Int32) (lf_echoes : Int32) (lf_deep : Int32) (lf_slide : Int32) (la_heights : Nat → Int32) (la_ladders : Nat → Int32) (la_minutes : Nat → Int32) (la_echoFrom : Nat → Int32) (la_echoTo : Nat → Int32) (la_homes : Nat → Int32) (la_talls : Nat → Int32) (la_known : Nat → Int32) (vf_deeds : Int32) (va_kinds : Nat → Int32) (va_firsts : Nat → Int32) (va_seconds : Nat → Int32) (sf_facts : Int32) (sa_heard : Nat → Int32) (sa_huts : Nat → Int32) (sa_minutes : Nat → Int32) (cf_voices : Int32) (cf_step : Int32) (ca_parts : Nat → Int32) (ca_heights : Nat → Int32) (f_fault : Int32) (f_faultPlace : Int32) (a_numbers : Nat → Int32) (a_tape : Nat → Int32) (f_length : Int32) (f_behind : Int32) (f_kind : Int32) (f_first : Int32) (f_value : Int32) (f_hutsToldOf : Int32) (f_singersToldOf : Int32), (iv 0 9 lf_huts) → (iv 0 6 lf_singers) → (iv 0 511 lf_villages) → (iv 0 511 lf_dams) → (iv 0 4 lf_echoes) → (iv 1 9 lf_deep) → (iv 0 10 lf_slide) → (∀ j, iv 0 99 (la_heights j)) → (∀ j, iv 0 9 (la_ladders j)) → (∀ j, iv 0 9 (la_minutes j)) → (∀ j, iv 0 8 (la_echoFrom j)) → (∀ j, iv 0 8 (la_echoTo j)) → (∀ j, iv 0 8 (la_homes j)) → (∀ j, iv 0 9 (la_talls j)) → (∀ j, iv 0 31 (la_known j)) → (iv 0 40 vf_deeds) → (∀ j, iv 0 5 (va_kinds j)) → (∀ j, iv 0 5 (va_firsts j)) → (∀ j, iv (-1) 8 (va_seconds j)) → (iv 0 10 sf_facts) → (∀ j, iv 0 1 (sa_heard j)) → (∀ j, iv 0 8 (sa_huts j)) → (∀ j, iv 0 60 (sa_minutes j)) → (iv 0 9 cf_voices) → (iv 0 9 cf_step) → (∀ j, iv 0 3 (ca_parts j)) → (∀ j, iv 0 9 (ca_heights j)) → (iv 0 4 f_fault) → (iv (-1) 600 f_faultPlace) → (∀ j, iv (-128) 127 (a_tape j)) → (iv 0 600 f_length) → (iv 0 600 f_behind) → (iv 0 4 f_kind) → (iv 0 600 f_first) → post lf_huts lf_singers lf_villages lf_dams lf_echoes lf_deep lf_slide la_heights la_ladders la_minutes la_echoFrom la_echoTo la_homes la_talls la_known vf_deeds va_kinds va_firsts va_seconds sf_facts sa_heard sa_huts sa_minutes cf_voices cf_step ca_parts ca_heights f_fault f_faultPlace a_numbers a_tape f_length f_behind f_kind f_first f_value f_hutsToldOf f_singersToldOf) : q_wr_X4_read_23_78 lf_huts lf_singers lf_villages lf_dams lf_echoes lf_deep lf_slide la_heights la_ladders la_minutes la_echoFrom la_echoTo la_homes la_talls la_known vf_deeds va_kinds va_firsts va_seconds sf_facts sa_heard sa_huts sa_minutes cf_voices cf_step ca_parts ca_heights f_fault f_faultPlace a_numbers a_tape f_length f_behind f_kind f_first f_value f_hutsToldOf f_singersToldOf z_from x3 post := by
  refine ⟨fun c1 => ?_, fun c1 => ?_⟩
  · skip
    exact hpost _ _ _ _ _ _ _ _ _ _ _ _ _ _ _ _ _ _ _ _ _ _ _ _ _ _ _ _ _ _ _ _ _ _ _ _ _ _ k_lf_huts k_lf_singers k_lf_villages k_lf_dams k_lf_echoes k_lf_deep k_lf_slide k_la_heights k_la_ladders k_la_minutes k_la_echoFrom k_la_echoTo k_la_homes k_la_talls k_la_known k_vf_deeds k_va_kinds k_va_firsts k_va_seconds k_sf_facts k_sa_heard k_sa_huts k_sa_minutes k_cf_voices k_cf_step k_ca_parts k_ca_heights (iv_w (iv_ne (l := 1) (h := 4) c1 k_f_fault (iv_lit (l := 0) (h := 0) (by decide)) (by decide)) (by decide)) k_f_faultPlace k_a_tape k_f_length k_f_behind k_f_kind k_f_first
  · skip
    refine ⟨fun c2 => ?_, fun c2 => ?_⟩
    · skip
      exact hpost _ _ _ _ _ _ _ _ _ _ _ _ _ _ _ _ _ _ _ _ _ _ _ _ _ _ _ _ _ _ _ _ _ _ _ _ _ _ k_lf_huts k_lf_singers k_lf_villages k_lf_dams k_lf_echoes k_lf_deep k_lf_slide k_la_heights k_la_ladders k_la_minutes k_la_echoFrom k_la_echoTo k_la_homes k_la_talls k_la_known k_vf_deeds k_va_kinds k_va_firsts k_va_seconds k_sf_facts k_sa_heard k_sa_huts k_sa_minutes k_cf_voices k_cf_step k_ca_parts k_ca_heights (iv_w (iv_eqa (l := 0) (h := 0) c1 k_f_fault (iv_lit (l := 0) (h := 0) (by decide)) (by decide)) (by decide)) k_f_faultPlace k_a_tape k_f_length k_f_behind k_f_kind k_f_first
    · skip
      refine ⟨fun c3 => ?_, fun c3 => ?_⟩
      · skip
        refine ⟨fun c4 => ?_, fun c4 => ?_⟩
        · skip
          exact (iv_emp (iv_eqa (l := 1) (h := 0) c4 (iv_lit (l := 1) (h := 1) (by decide)) (iv_lit (l := 0) (h := 0) (by decide)) (by decide)) (by decide)).elim
        · skip
          refine ⟨fun c5 => ?_, fun c5 => ?_⟩
          · skip
            exact (iv_emp (iv_ne (l := 1) (h := 0) c5 (iv_eqa (l := 0) (h := 0) c1 k_f_fault (iv_lit (l := 0) (h := 0) (by decide)) (by decide)) (iv_lit (l := 0) (h := 0) (by decide)) (by decide)) (by decide)).elim
          · skip
            exact hpost _ _ _ _ _ _ _ _ _ _ _ _ _ _ _ _ _ _ _ _ _ _ _ _ _ _ _ _ _ _ _ _ _ _ _ _ _ _ k_lf_huts k_lf_singers k_lf_villages k_lf_dams k_lf_echoes k_lf_deep k_lf_slide k_la_heights k_la_ladders k_la_minutes k_la_echoFrom k_la_echoTo k_la_homes k_la_talls k_la_known k_vf_deeds k_va_kinds k_va_firsts k_va_seconds k_sf_facts k_sa_heard k_sa_huts k_sa_minutes k_cf_voices k_cf_step k_ca_parts k_ca_heights (iv_w (iv_lit (l := 4) (h := 4) (by decide)) (by decide)) (iv_w k_f_length (by decide)) k_a_tape k_f_length k_f_behind k_f_kind k_f_first
      · skip
        refine ⟨fun c6 => ?_, fun c6 => ?_⟩
        · skip
          refine ⟨fun c7 => ?_, fun c7 => ?_⟩
          · skip
            exact hpost _ _ _ _ _ _ _ _ _ _ _ _ _ _ _ _ _ _ _ _ _ _ _ _ _ _ _ _ _ _ _ _ _ _ _ _ _ _ k_lf_huts k_lf_singers k_lf_villages k_lf_dams k_lf_echoes k_lf_deep k_lf_slide k_la_heights k_la_ladders k_la_minutes k_la_echoFrom k_la_echoTo k_la_homes k_la_talls k_la_known k_vf_deeds k_va_kinds k_va_firsts k_va_seconds k_sf_facts k_sa_heard k_sa_huts k_sa_minutes k_cf_voices k_cf_step k_ca_parts k_ca_heights (iv_w (iv_eqa (l := 0) (h := 0) c1 k_f_fault (iv_lit (l := 0) (h := 0) (by decide)) (by decide)) (by decide)) k_f_faultPlace k_a_tape k_f_length k_f_behind k_f_kind k_f_first
          · skip
            exact (iv_emp (iv_ne (l := 1) (h := 0) c7 (iv_lit (l := 0) (h := 0) (by decide)) (iv_lit (l := 0) (h := 0) (by decide)) (by decide)) (by decide)).elim
        · skip
          refine ⟨fun c8 => ?_, fun c8 => ?_⟩
          · skip
            exact (iv_emp (iv_eqa (l := 1) (h := 0) c8 (iv_lit (l := 1) (h := 1) (by decide)) (iv_lit (l := 0) (h := 0) (by decide)) (by decide)) (by decide)).elim
          · skip
            refine ⟨fun c9 => ?_, fun c9 => ?_⟩
            · skip
              exact (iv_emp (iv_ne (l := 1) (h := 0) c9 (iv_eqa (l := 0) (h := 0) c1 k_f_fault (iv_lit (l := 0) (h := 0) (by decide)) (by decide)) (iv_lit (l := 0) (h := 0) (by decide)) (by decide)) (by decide)).elim
            · skip
              exact hpost _ _ _ _ _ _ _ _ _ _ _ _ _ _ _ _ _ _ _ _ _ _ _ _ _ _ _ _ _ _ _ _ _ _ _ _ _ _ k_lf_huts k_lf_singers k_lf_villages k_lf_dams k_lf_echoes k_lf_deep k_lf_slide k_la_heights k_la_ladders k_la_minutes k_la_echoFrom k_la_echoTo k_la_homes k_la_talls k_la_known k_vf_deeds k_va_kinds k_va_firsts k_va_seconds k_sf_facts k_sa_heard k_sa_huts k_sa_minutes k_cf_voices k_cf_step k_ca_parts k_ca_heights (iv_w (iv_lit (l := 4) (h := 4) (by decide)) (by decide)) (iv_w k_f_length (by decide)) k_a_tape k_f_length k_f_behind k_f_kind k_f_first
set_option maxRecDepth 20000 in
theorem s_wr_X4_read_23_43 {lf_huts : Int32} {lf_singers : Int32} {lf_villages : Int32} {lf_dams : Int32} {lf_echoes : Int32} {lf_deep : Int32} {lf_slide : Int32} {la_heights : Nat → Int32} {la_ladders : Nat → Int32} {la_minutes : Nat → Int32} {la_echoFrom : Nat → Int32} {la_echoTo : Nat → Int32} {la_homes : Nat → Int32} {la_talls : Nat → Int32} {la_known : Nat → Int32} {vf_deeds : Int32} {va_kinds : Nat → Int32} {va_firsts : Nat → Int32} {va_seconds : Nat → Int32} {sf_facts : Int32} {sa_heard : Nat → Int32} {sa_huts : Nat → Int32} {sa_minutes : Nat → Int32} {cf_voices : Int32} {cf_step : Int32} {ca_parts : Nat → Int32} {ca_heights : Nat → Int32} {f_fault : Int32} {f_faultPlace : Int32} {a_numbers : Nat → Int32} {a_tape : Nat → Int32} {f_length : Int32} {f_behind : Int32} {f_kind : Int32} {f_first : Int32} {f_value : Int32} {f_hutsToldOf : Int32} {f_singersToldOf : Int32} {z_from : Nat → Int32} {x3 : Int32} {x4 : Int32} {post : (Int32) → (Int32) → (Int32) → (Int32) → (Int32) → (Int32) → (Int32) → (Nat → Int32) → (Nat → Int32) → (Nat → Int32) → (Nat → Int32) → (Nat → Int32) → (Nat → Int32) → (Nat → Int32) → (Nat → Int32) → (Int32) → (Nat → Int32) → (Nat → Int32) → (Nat → Int32) → (Int32) → (Nat → Int32) → (Nat → Int32) → (Nat → Int32) → (Int32) → (Int32) → (Nat → Int32) → (Nat → Int32) → (Int32) → (Int32) → (Nat → Int32) → (Nat → Int32) → (Int32) → (Int32) → (Int32) → (Int32) → (Int32) → (Int32) → (Int32) → Prop} (k_lf_huts : iv 0 9 lf_huts) (k_lf_singers : iv 0 6 lf_singers) (k_lf_villages : iv 0 511 lf_villages) (k_lf_dams : iv 0 511 lf_dams) (k_lf_echoes : iv 0 4 lf_echoes) (k_lf_deep : iv 1 9 lf_deep) (k_lf_slide : iv 0 10 lf_slide) (k_la_heights : ∀ j, iv 0 99 (la_heights j)) (k_la_ladders : ∀ j, iv 0 9 (la_ladders j)) (k_la_minutes : ∀ j, iv 0 9 (la_minutes j)) (k_la_echoFrom : ∀ j, iv 0 8 (la_echoFrom j)) (k_la_echoTo : ∀ j, iv 0 8 (la_echoTo j)) (k_la_homes : ∀ j, iv 0 8 (la_homes j)) (k_la_talls : ∀ j, iv 0 9 (la_talls j)) (k_la_known : ∀ j, iv 0 31 (la_known j)) (k_vf_deeds : iv 0 40 vf_deeds) (k_va_kinds : ∀ j, iv 0 5 (va_kinds j)) (k_va_firsts : ∀ j, iv 0 5 (va_firsts j)) (k_va_seconds : ∀ j, iv (-1) 8 (va_seconds j)) (k_sf_facts : iv 0 10 sf_facts) (k_sa_heard : ∀ j, iv 0 1 (sa_heard j)) (k_sa_huts : ∀ j, iv 0 8 (sa_huts j)) (k_sa_minutes : ∀ j, iv 0 60 (sa_minutes j)) (k_cf_voices : iv 0 9 cf_voices) (k_cf_step : iv 0 9 cf_step) (k_ca_parts : ∀ j, iv 0 3 (ca_parts j)) (k_ca_heights : ∀ j, iv 0 9 (ca_heights j)) (k_f_fault : iv 0 4 f_fault) (k_f_faultPlace : iv (-1) 600 f_faultPlace) (k_a_tape : ∀ j, iv (-128) 127 (a_tape j)) (k_f_length : iv 0 600 f_length) (k_f_behind : iv 0 600 f_behind) (k_f_kind : iv 0 4 f_kind) (k_f_first : iv 0 600 f_first) (k_z_from : ∀ j, iv (-128) 127 (z_from j)) (hx3 : iv 0 3 x3) (hx4 : iv 0 600 x4) (hpost : ∀ (lf_huts : Int32) (lf_singers : Int32) (lf_villages : Int32) (lf_dams : Int32) (lf_echoes : Int32) (lf_deep : Int32) (lf_slide : Int32) (la_heights : Nat → Int32) (la_ladders : Nat → Int32) (la_minutes : Nat → Int32) (la_echoFrom : Nat → Int32) (la_echoTo : Nat → Int32) (la_homes : Nat → Int32) (la_talls : Nat → Int32) (la_known : Nat → Int32) (vf_deeds : Int32) (va_kinds : Nat → Int32) (va_firsts : Nat → Int32) (va_seconds : Nat → Int32) (sf_facts : Int32) (sa_heard : Nat → Int32) (sa_huts : Nat → Int32) (sa_minutes : Nat → Int32) (cf_voices : Int32) (cf_step : Int32) (ca_parts : Nat → Int32) (ca_heights : Nat → Int32) (f_fault : Int32) (f_faultPlace : Int32) (a_numbers : Nat → Int32) (a_tape : Nat → Int32) (f_length : Int32) (f_behind : Int32) (f_kind : Int32) (f_first : Int32) (f_value : Int32) (f_hutsToldOf : Int32) (f_singersToldOf : Int32), (iv 0 9 lf_huts) → (iv 0 6 lf_singers) → (iv 0 511 lf_villages) → (iv 0 511 lf_dams) → (iv 0 4 lf_echoes) → (iv 1 9 lf_deep) → (iv 0 10 lf_slide) → (∀ j, iv 0 99 (la_heights j)) → (∀ j, iv 0 9 (la_ladders j)) → (∀ j, iv 0 9 (la_minutes j)) → (∀ j, iv 0 8 (la_echoFrom j)) → (∀ j, iv 0 8 (la_echoTo j)) → (∀ j, iv 0 8 (la_homes j)) → (∀ j, iv 0 9 (la_talls j)) → (∀ j, iv 0 31 (la_known j)) → (iv 0 40 vf_deeds) → (∀ j, iv 0 5 (va_kinds j)) → (∀ j, iv 0 5 (va_firsts j)) → (∀ j, iv (-1) 8 (va_seconds j)) → (iv 0 10 sf_facts) → (∀ j, iv 0 1 (sa_heard j)) → (∀ j, iv 0 8 (sa_huts j)) → (∀ j, iv 0 60 (sa_minutes j)) → (iv 0 9 cf_voices) → (iv 0 9 cf_step) → (∀ j, iv 0 3 (ca_parts j)) → (∀ j, iv 0 9 (ca_heights j)) → (iv 0 4 f_fault) → (iv (-1) 600 f_faultPlace) → (∀ j, iv (-128) 127 (a_tape j)) → (iv 0 600 f_length) → (iv 0 600 f_behind) → (iv 0 4 f_kind) → (iv 0 600 f_first) → post lf_huts lf_singers lf_villages lf_dams lf_echoes lf_deep lf_slide la_heights la_ladders la_minutes la_echoFrom la_echoTo la_homes la_talls la_known vf_deeds va_kinds va_firsts va_seconds sf_facts sa_heard sa_huts sa_minutes cf_voices cf_step ca_parts ca_heights f_fault f_faultPlace a_numbers a_tape f_length f_behind f_kind f_first f_value f_hutsToldOf f_singersToldOf) : q_wr_X4_read_23_43 lf_huts lf_singers lf_villages lf_dams lf_echoes lf_deep lf_slide la_heights la_ladders la_minutes la_echoFrom la_echoTo la_homes la_talls la_known vf_deeds va_kinds va_firsts va_seconds sf_facts sa_heard sa_huts sa_minutes cf_voices cf_step ca_parts ca_heights f_fault f_faultPlace a_numbers a_tape f_length f_behind f_kind f_first f_value f_hutsToldOf f_singersToldOf z_from x3 x4 post := by
  intro P hP
  have loop : ∀ (n : Nat) (x4 : Int32) (lf_huts : Int32) (lf_singers : Int32) (lf_villages : Int32) (lf_dams : Int32) (lf_echoes : Int32) (lf_deep : Int32) (lf_slide : Int32) (la_heights : Nat → Int32) (la_ladders : Nat → Int32) (la_minutes : Nat → Int32) (la_echoFrom : Nat → Int32) (la_echoTo : Nat → Int32) (la_homes : Nat → Int32) (la_talls : Nat → Int32) (la_known : Nat → Int32) (vf_deeds : Int32) (va_kinds : Nat → Int32) (va_firsts : Nat → Int32) (va_seconds : Nat → Int32) (sf_facts : Int32) (sa_heard : Nat → Int32) (sa_huts : Nat → Int32) (sa_minutes : Nat → Int32) (cf_voices : Int32) (cf_step : Int32) (ca_parts : Nat → Int32) (ca_heights : Nat → Int32) (f_fault : Int32) (f_faultPlace : Int32) (a_numbers : Nat → Int32) (f_behind : Int32) (f_kind : Int32) (f_first : Int32) (f_value : Int32) (f_hutsToldOf : Int32) (f_singersToldOf : Int32), (600 - x4.toInt < (n : Int)) → (iv 0 600 x4) → (iv 0 9 lf_huts) → (iv 0 6 lf_singers) → (iv 0 511 lf_villages) → (iv 0 511 lf_dams) → (iv 0 4 lf_echoes) → (iv 1 9 lf_deep) → (iv 0 10 lf_slide) → (∀ j, iv 0 99 (la_heights j)) → (∀ j, iv 0 9 (la_ladders j)) → (∀ j, iv 0 9 (la_minutes j)) → (∀ j, iv 0 8 (la_echoFrom j)) → (∀ j, iv 0 8 (la_echoTo j)) → (∀ j, iv 0 8 (la_homes j)) → (∀ j, iv 0 9 (la_talls j)) → (∀ j, iv 0 31 (la_known j)) → (iv 0 40 vf_deeds) → (∀ j, iv 0 5 (va_kinds j)) → (∀ j, iv 0 5 (va_firsts j)) → (∀ j, iv (-1) 8 (va_seconds j)) → (iv 0 10 sf_facts) → (∀ j, iv 0 1 (sa_heard j)) → (∀ j, iv 0 8 (sa_huts j)) → (∀ j, iv 0 60 (sa_minutes j)) → (iv 0 9 cf_voices) → (iv 0 9 cf_step) → (∀ j, iv 0 3 (ca_parts j)) → (∀ j, iv 0 9 (ca_heights j)) → (iv 0 4 f_fault) → (iv (-1) 600 f_faultPlace) → (iv 0 600 f_behind) → (iv 0 4 f_kind) → (iv 0 600 f_first) → P x4 lf_huts lf_singers lf_villages lf_dams lf_echoes lf_deep lf_slide la_heights la_ladders la_minutes la_echoFrom la_echoTo la_homes la_talls la_known vf_deeds va_kinds va_firsts va_seconds sf_facts sa_heard sa_huts sa_minutes cf_voices cf_step ca_parts ca_heights f_fault f_faultPlace a_numbers f_behind f_kind f_first f_value f_hutsToldOf f_singersToldOf := by
    intro n
    induction n with
    | zero => intro x4 lf_huts lf_singers lf_villages lf_dams lf_echoes lf_deep lf_slide la_heights la_ladders la_minutes la_echoFrom la_echoTo la_homes la_talls la_known vf_deeds va_kinds va_firsts va_seconds sf_facts sa_heard sa_huts sa_minutes cf_voices cf_step ca_parts ca_heights f_fault f_faultPlace a_numbers f_behind f_kind f_first f_value f_hutsToldOf f_singersToldOf hm hx4 k_lf_huts k_lf_singers k_lf_villages k_lf_dams k_lf_echoes k_lf_deep k_lf_slide k_la_heights k_la_ladders k_la_minutes k_la_echoFrom k_la_echoTo k_la_homes k_la_talls k_la_known k_vf_deeds k_va_kinds k_va_firsts k_va_seconds k_sf_facts k_sa_heard k_sa_huts k_sa_minutes k_cf_voices k_cf_step k_ca_parts k_ca_heights k_f_fault k_f_faultPlace k_f_behind k_f_kind k_f_first; exact (ms0_up hm hx4).elim
    | succ n ih =>
      intro x4 lf_huts lf_singers lf_villages lf_dams lf_echoes lf_deep lf_slide la_heights la_ladders la_minutes la_echoFrom la_echoTo la_homes la_talls la_known vf_deeds va_kinds va_firsts va_seconds sf_facts sa_heard sa_huts sa_minutes cf_voices cf_step ca_parts ca_heights f_fault f_faultPlace a_numbers f_behind f_kind f_first f_value f_hutsToldOf f_singersToldOf hm hx4 k_lf_huts k_lf_singers k_lf_villages k_lf_dams k_lf_echoes k_lf_deep k_lf_slide k_la_heights k_la_ladders k_la_minutes k_la_echoFrom k_la_echoTo k_la_homes k_la_talls k_la_known k_vf_deeds k_va_kinds k_va_firsts k_va_seconds k_sf_facts k_sa_heard k_sa_huts k_sa_minutes k_cf_voices k_cf_step k_ca_parts k_ca_heights k_f_fault k_f_faultPlace k_f_behind k_f_kind k_f_first
      apply hP
      refine ⟨fun c1 => ?_, fun c1 => ?_⟩
      · skip
        exact s_wr_X4_read_23_78 k_lf_huts k_lf_singers k_lf_villages k_lf_dams k_lf_echoes k_lf_deep k_lf_slide k_la_heights k_la_ladders k_la_minutes k_la_echoFrom k_la_echoTo k_la_homes k_la_talls k_la_known k_vf_deeds k_va_kinds k_va_firsts k_va_seconds k_sf_facts k_sa_heard k_sa_huts k_sa_minutes k_cf_voices k_cf_step k_ca_parts k_ca_heights k_f_fault k_f_faultPlace k_a_tape k_f_length k_f_behind k_f_kind k_f_first k_z_from hx3 hpost
      · skip
        refine ⟨fun c2 => ?_, fun c2 => ?_⟩
        · skip
          exact s_wr_X4_read_23_78 k_lf_huts k_lf_singers k_lf_villages k_lf_dams k_lf_echoes k_lf_deep k_lf_slide k_la_heights k_la_ladders k_la_minutes k_la_echoFrom k_la_echoTo k_la_homes k_la_talls k_la_known k_vf_deeds k_va_kinds k_va_firsts k_va_seconds k_sf_facts k_sa_heard k_sa_huts k_sa_minutes k_cf_voices k_cf_step k_ca_parts k_ca_heights k_f_fault k_f_faultPlace k_a_tape (iv_w (iv_ltb (l := 1) (h := 600) (r_nle c1) hx4 k_f_length (by decide)) (by decide)) k_f_behind (iv_w (iv_eqa (l := 0) (h := 0) c2 k_f_kind (iv_lit (l := 0) (h := 0) (by decide)) (by decide)) (by decide)) k_f_first k_z_from hx3 hpost
        · skip
          refine ⟨fun c3 => ?_, fun c3 => ?_⟩
          · skip
            exact s_wr_X4_read_23_78 k_lf_huts k_lf_singers k_lf_villages k_lf_dams k_lf_echoes k_lf_deep k_lf_slide k_la_heights k_la_ladders k_la_minutes k_la_echoFrom k_la_echoTo k_la_homes k_la_talls k_la_known k_vf_deeds k_va_kinds k_va_firsts k_va_seconds k_sf_facts k_sa_heard k_sa_huts k_sa_minutes k_cf_voices k_cf_step k_ca_parts k_ca_heights (iv_w (iv_eqa (l := 1) (h := 1) c3 k_f_fault (iv_lit (l := 1) (h := 1) (by decide)) (by decide)) (by decide)) k_f_faultPlace k_a_tape (iv_w (iv_ltb (l := 1) (h := 600) (r_nle c1) hx4 k_f_length (by decide)) (by decide)) k_f_behind (iv_w (iv_ne (l := 1) (h := 4) c2 k_f_kind (iv_lit (l := 0) (h := 0) (by decide)) (by decide)) (by decide)) k_f_first k_z_from hx3 hpost
          · skip
            refine s_wr_X4_readLine_0 k_lf_huts k_lf_singers k_lf_villages k_lf_dams k_lf_echoes k_lf_deep k_lf_slide k_la_heights k_la_ladders k_la_minutes k_la_echoFrom k_la_echoTo k_la_homes k_la_talls k_la_known k_vf_deeds k_va_kinds k_va_firsts k_va_seconds k_sf_facts k_sa_heard k_sa_huts k_sa_minutes k_cf_voices k_cf_step k_ca_parts k_ca_heights k_f_fault k_f_faultPlace k_a_tape (iv_w (iv_ltb (l := 1) (h := 600) (r_nle c1) hx4 k_f_length (by decide)) (by decide)) k_f_behind (iv_w (iv_ne (l := 1) (h := 4) c2 k_f_kind (iv_lit (l := 0) (h := 0) (by decide)) (by decide)) (by decide)) k_f_first hx3 (fun o4 o5 o6 o7 o8 o9 o10 o11 o12 o13 o14 o15 o16 o17 o18 o19 o20 o21 o22 o23 o24 o25 o26 o27 o28 o29 o30 o31 o32 o33 o34 o35 o36 o37 o38 o39 k_o4 k_o5 k_o6 k_o7 k_o8 k_o9 k_o10 k_o11 k_o12 k_o13 k_o14 k_o15 k_o16 k_o17 k_o18 k_o19 k_o20 k_o21 k_o22 k_o23 k_o24 k_o25 k_o26 k_o27 k_o28 k_o29 k_o30 k_o31 k_o32 k_o34 k_o35 k_o36 => ?_)
            intro w40 ew40
            have hw40 := iv_eq ew40 (iv_add (l := 1) (h := 600) (iv_lta (l := 0) (h := 599) (r_nle c1) hx4 k_f_length (by decide)) (iv_lit (l := 1) (h := 1) (by decide)) (by decide))
            exact ih _ _ _ _ _ _ _ _ _ _ _ _ _ _ _ _ _ _ _ _ _ _ _ _ _ _ _ _ _ _ _ _ _ _ _ _ _ (ms_up hm (inc_lt ew40 (iv_lta (l := 0) (h := 599) (r_nle c1) hx4 k_f_length (by decide)) (by decide))) (iv_w hw40 (by decide)) k_o4 k_o5 k_o6 k_o7 k_o8 k_o9 k_o10 k_o11 k_o12 k_o13 k_o14 k_o15 k_o16 k_o17 k_o18 k_o19 k_o20 k_o21 k_o22 k_o23 k_o24 k_o25 k_o26 k_o27 k_o28 k_o29 k_o30 k_o31 k_o32 k_o34 k_o35 k_o36
  exact loop _ _ _ _ _ _ _ _ _ _ _ _ _ _ _ _ _ _ _ _ _ _ _ _ _ _ _ _ _ _ _ _ _ _ _ _ _ _ (ms_init_up _ _) hx4 k_lf_huts k_lf_singers k_lf_villages k_lf_dams k_lf_echoes k_lf_deep k_lf_slide k_la_heights k_la_ladders k_la_minutes k_la_echoFrom k_la_echoTo k_la_homes k_la_talls k_la_known k_vf_deeds k_va_kinds k_va_firsts k_va_seconds k_sf_facts k_sa_heard k_sa_huts k_sa_minutes k_cf_voices k_cf_step k_ca_parts k_ca_heights k_f_fault k_f_faultPlace k_f_behind k_f_kind k_f_first
set_option maxRecDepth 20000 in
theorem s_wr_X4_read_23_0 {lf_huts : Int32} {lf_singers : Int32} {lf_villages : Int32} {lf_dams : Int32} {lf_echoes : Int32} {lf_deep : Int32} {lf_slide : Int32} {la_heights : Nat → Int32} {la_ladders : Nat → Int32} {la_minutes : Nat → Int32} {la_echoFrom : Nat → Int32} {la_echoTo : Nat → Int32} {la_homes : Nat → Int32} {la_talls : Nat → Int32} {la_known : Nat → Int32} {vf_deeds : Int32} {va_kinds : Nat → Int32} {va_firsts : Nat → Int32} {va_seconds : Nat → Int32} {sf_facts : Int32} {sa_heard : Nat → Int32} {sa_huts : Nat → Int32} {sa_minutes : Nat → Int32} {cf_voices : Int32} {cf_step : Int32} {ca_parts : Nat → Int32} {ca_heights : Nat → Int32} {f_fault : Int32} {f_faultPlace : Int32} {a_numbers : Nat → Int32} {a_tape : Nat → Int32} {f_length : Int32} {f_behind : Int32} {f_kind : Int32} {f_first : Int32} {f_value : Int32} {f_hutsToldOf : Int32} {f_singersToldOf : Int32} {z_from : Nat → Int32} {x2 : Int32} {x3 : Int32} {post : (Int32) → (Int32) → (Int32) → (Int32) → (Int32) → (Int32) → (Int32) → (Nat → Int32) → (Nat → Int32) → (Nat → Int32) → (Nat → Int32) → (Nat → Int32) → (Nat → Int32) → (Nat → Int32) → (Nat → Int32) → (Int32) → (Nat → Int32) → (Nat → Int32) → (Nat → Int32) → (Int32) → (Nat → Int32) → (Nat → Int32) → (Nat → Int32) → (Int32) → (Int32) → (Nat → Int32) → (Nat → Int32) → (Int32) → (Int32) → (Nat → Int32) → (Nat → Int32) → (Int32) → (Int32) → (Int32) → (Int32) → (Int32) → (Int32) → (Int32) → Prop} (k_lf_huts : iv 0 9 lf_huts) (k_lf_singers : iv 0 6 lf_singers) (k_lf_villages : iv 0 511 lf_villages) (k_lf_dams : iv 0 511 lf_dams) (k_lf_echoes : iv 0 4 lf_echoes) (k_lf_deep : iv 1 9 lf_deep) (k_lf_slide : iv 0 10 lf_slide) (k_la_heights : ∀ j, iv 0 99 (la_heights j)) (k_la_ladders : ∀ j, iv 0 9 (la_ladders j)) (k_la_minutes : ∀ j, iv 0 9 (la_minutes j)) (k_la_echoFrom : ∀ j, iv 0 8 (la_echoFrom j)) (k_la_echoTo : ∀ j, iv 0 8 (la_echoTo j)) (k_la_homes : ∀ j, iv 0 8 (la_homes j)) (k_la_talls : ∀ j, iv 0 9 (la_talls j)) (k_la_known : ∀ j, iv 0 31 (la_known j)) (k_vf_deeds : iv 0 40 vf_deeds) (k_va_kinds : ∀ j, iv 0 5 (va_kinds j)) (k_va_firsts : ∀ j, iv 0 5 (va_firsts j)) (k_va_seconds : ∀ j, iv (-1) 8 (va_seconds j)) (k_sf_facts : iv 0 10 sf_facts) (k_sa_heard : ∀ j, iv 0 1 (sa_heard j)) (k_sa_huts : ∀ j, iv 0 8 (sa_huts j)) (k_sa_minutes : ∀ j, iv 0 60 (sa_minutes j)) (k_cf_voices : iv 0 9 cf_voices) (k_cf_step : iv 0 9 cf_step) (k_ca_parts : ∀ j, iv 0 3 (ca_parts j)) (k_ca_heights : ∀ j, iv 0 9 (ca_heights j)) (k_f_fault : iv 0 4 f_fault) (k_f_faultPlace : iv (-1) 600 f_faultPlace) (k_a_tape : ∀ j, iv (-128) 127 (a_tape j)) (k_f_length : iv 0 600 f_length) (k_f_behind : iv 0 600 f_behind) (k_f_kind : iv 0 4 f_kind) (k_f_first : iv 0 600 f_first) (k_z_from : ∀ j, iv (-128) 127 (z_from j)) (hx2 : iv 0 600 x2) (hx3 : iv 0 3 x3) (hpost : ∀ (lf_huts : Int32) (lf_singers : Int32) (lf_villages : Int32) (lf_dams : Int32) (lf_echoes : Int32) (lf_deep : Int32) (lf_slide : Int32) (la_heights : Nat → Int32) (la_ladders : Nat → Int32) (la_minutes : Nat → Int32) (la_echoFrom : Nat → Int32) (la_echoTo : Nat → Int32) (la_homes : Nat → Int32) (la_talls : Nat → Int32) (la_known : Nat → Int32) (vf_deeds : Int32) (va_kinds : Nat → Int32) (va_firsts : Nat → Int32) (va_seconds : Nat → Int32) (sf_facts : Int32) (sa_heard : Nat → Int32) (sa_huts : Nat → Int32) (sa_minutes : Nat → Int32) (cf_voices : Int32) (cf_step : Int32) (ca_parts : Nat → Int32) (ca_heights : Nat → Int32) (f_fault : Int32) (f_faultPlace : Int32) (a_numbers : Nat → Int32) (a_tape : Nat → Int32) (f_length : Int32) (f_behind : Int32) (f_kind : Int32) (f_first : Int32) (f_value : Int32) (f_hutsToldOf : Int32) (f_singersToldOf : Int32), (iv 0 9 lf_huts) → (iv 0 6 lf_singers) → (iv 0 511 lf_villages) → (iv 0 511 lf_dams) → (iv 0 4 lf_echoes) → (iv 1 9 lf_deep) → (iv 0 10 lf_slide) → (∀ j, iv 0 99 (la_heights j)) → (∀ j, iv 0 9 (la_ladders j)) → (∀ j, iv 0 9 (la_minutes j)) → (∀ j, iv 0 8 (la_echoFrom j)) → (∀ j, iv 0 8 (la_echoTo j)) → (∀ j, iv 0 8 (la_homes j)) → (∀ j, iv 0 9 (la_talls j)) → (∀ j, iv 0 31 (la_known j)) → (iv 0 40 vf_deeds) → (∀ j, iv 0 5 (va_kinds j)) → (∀ j, iv 0 5 (va_firsts j)) → (∀ j, iv (-1) 8 (va_seconds j)) → (iv 0 10 sf_facts) → (∀ j, iv 0 1 (sa_heard j)) → (∀ j, iv 0 8 (sa_huts j)) → (∀ j, iv 0 60 (sa_minutes j)) → (iv 0 9 cf_voices) → (iv 0 9 cf_step) → (∀ j, iv 0 3 (ca_parts j)) → (∀ j, iv 0 9 (ca_heights j)) → (iv 0 4 f_fault) → (iv (-1) 600 f_faultPlace) → (∀ j, iv (-128) 127 (a_tape j)) → (iv 0 600 f_length) → (iv 0 600 f_behind) → (iv 0 4 f_kind) → (iv 0 600 f_first) → post lf_huts lf_singers lf_villages lf_dams lf_echoes lf_deep lf_slide la_heights la_ladders la_minutes la_echoFrom la_echoTo la_homes la_talls la_known vf_deeds va_kinds va_firsts va_seconds sf_facts sa_heard sa_huts sa_minutes cf_voices cf_step ca_parts ca_heights f_fault f_faultPlace a_numbers a_tape f_length f_behind f_kind f_first f_value f_hutsToldOf f_singersToldOf) : q_wr_X4_read_23_0 lf_huts lf_singers lf_villages lf_dams lf_echoes lf_deep lf_slide la_heights la_ladders la_minutes la_echoFrom la_echoTo la_homes la_talls la_known vf_deeds va_kinds va_firsts va_seconds sf_facts sa_heard sa_huts sa_minutes cf_voices cf_step ca_parts ca_heights f_fault f_faultPlace a_numbers a_tape f_length f_behind f_kind f_first f_value f_hutsToldOf f_singersToldOf z_from x2 x3 post := by
  refine ⟨iv_nn hx2 (by decide), ?_⟩
  refine ⟨iv_len (iv_lit (l := 0) (h := 0) (by decide)) hx2 (by decide), ?_⟩
  refine ⟨iv_len (iv_lit (l := 0) (h := 0) (by decide)) hx2 (by decide), ?_⟩
  refine ⟨fun i _ => iv_fitB (k_z_from _), ?_⟩
  intro a1 ea1
  have k_a1 := iv_cpy ea1 k_z_from k_a_tape
  refine s_wr_X4_clearDraft_0 k_lf_huts k_lf_singers k_lf_villages k_lf_dams k_lf_echoes k_lf_deep k_lf_slide k_la_ladders k_la_minutes k_la_known k_vf_deeds k_sf_facts k_cf_voices k_cf_step hx3 (fun o2 o3 o4 o5 o6 o7 o8 o9 o10 o11 o12 o13 o14 o15 o16 o17 k_o2 k_o3 k_o4 k_o5 k_o6 k_o7 k_o8 k_o9 k_o10 k_o11 k_o12 k_o13 k_o14 k_o15 => ?_)
  refine s_wr_X4_advance_0 k_a1 hx2 (iv_w (iv_lit (l := 0) (h := 0) (by decide)) (by decide)) k_f_kind k_f_first (fun o18 o19 o20 o21 k_o18 k_o19 k_o20 => ?_)
  exact s_wr_X4_read_23_43 k_o2 k_o3 k_o4 k_o5 k_o6 k_o7 k_o8 k_la_heights k_o9 k_o10 k_la_echoFrom k_la_echoTo k_la_homes k_la_talls k_o11 k_o12 k_va_kinds k_va_firsts k_va_seconds k_o13 k_sa_heard k_sa_huts k_sa_minutes k_o14 k_o15 k_ca_parts k_ca_heights (iv_w (iv_lit (l := 0) (h := 0) (by decide)) (by decide)) (iv_w (iv_lit (l := (-1)) (h := (-1)) (by decide)) (by decide)) k_a1 hx2 k_o18 k_o19 k_o20 k_z_from hx3 (iv_w (iv_lit (l := 0) (h := 0) (by decide)) (by decide)) hpost
-- wk0_X5_measure_3
set_option maxRecDepth 20000 in
theorem s_wk0_X5_measure_3_69 {P2 : Int32 → (Nat → Int32) → (Nat → Int32) → Prop} {P19 : Int32 → (Nat → Int32) → (Nat → Int32) → Prop} {a_gaps : Nat → Int32} {a_behind : Nat → Int32} {cf_voices : Int32} {cf_step : Int32} {ca_parts : Nat → Int32} {ca_heights : Nat → Int32} {x2 : Int32} {x3 : Int32} {post : (Nat → Int32) → (Nat → Int32) → Prop} (k_a_behind : ∀ j, iv 0 511 (a_behind j)) (k_cf_voices : iv 1 9 cf_voices) (k_cf_step : iv 0 9 cf_step) (k_ca_parts : ∀ j, iv 0 3 (ca_parts j)) (k_ca_heights : ∀ j, iv 0 9 (ca_heights j)) (hx2 : iv 0 8 x2) (hx3 : iv 0 8 x3) (m2 : Int) (hm2 : m2 ≤ x2.toInt) (hP2 : ∀ (x2 : Int32) (a_gaps : Nat → Int32) (a_behind : Nat → Int32), m2 < x2.toInt → iv 0 9 x2 → (∀ j, iv 0 511 (a_behind j)) → P2 x2 a_gaps a_behind) (m19 : Int) (hm19 : m19 ≤ x3.toInt) (hP19 : ∀ (x3 : Int32) (a_gaps : Nat → Int32) (a_behind : Nat → Int32), m19 < x3.toInt → iv 0 9 x3 → (∀ j, iv 0 511 (a_behind j)) → P19 x3 a_gaps a_behind) (hpost : ∀ (a_gaps : Nat → Int32) (a_behind : Nat → Int32), (∀ j, iv 0 511 (a_behind j)) → post a_gaps a_behind) : q_wk0_X5_measure_3_69 P2 P19 a_gaps a_behind cf_voices cf_step ca_parts ca_heights x2 x3 post := by
  intro w1 ew1
  have hw1 := iv_eq ew1 (iv_add (l := 1) (h := 9) hx3 (iv_lit (l := 1) (h := 1) (by decide)) (by decide))
  exact hP19 _ _ _ (ml_up hm19 (inc_lt ew1 hx3 (by decide))) (iv_w hw1 (by decide)) k_a_behind
set_option maxRecDepth 20000 in
theorem s_wk0_X5_measure_3_19 {P2 : Int32 → (Nat → Int32) → (Nat → Int32) → Prop} {a_gaps : Nat → Int32} {a_behind : Nat → Int32} {cf_voices : Int32} {cf_step : Int32} {ca_parts : Nat → Int32} {ca_heights : Nat → Int32} {x2 : Int32} {x3 : Int32} {post : (Nat → Int32) → (Nat → Int32) → Prop} (k_a_behind : ∀ j, iv 0 511 (a_behind j)) (k_cf_voices : iv 1 9 cf_voices) (k_cf_step : iv 0 9 cf_step) (k_ca_parts : ∀ j, iv 0 3 (ca_parts j)) (k_ca_heights : ∀ j, iv 0 9 (ca_heights j)) (hx2 : iv 0 8 x2) (hx3 : iv 0 9 x3) (m2 : Int) (hm2 : m2 ≤ x2.toInt) (hP2 : ∀ (x2 : Int32) (a_gaps : Nat → Int32) (a_behind : Nat → Int32), m2 < x2.toInt → iv 0 9 x2 → (∀ j, iv 0 511 (a_behind j)) → P2 x2 a_gaps a_behind) (hpost : ∀ (a_gaps : Nat → Int32) (a_behind : Nat → Int32), (∀ j, iv 0 511 (a_behind j)) → post a_gaps a_behind) : q_wk0_X5_measure_3_19 P2 a_gaps a_behind cf_voices cf_step ca_parts ca_heights x2 x3 post := by
  intro P hP
  have loop : ∀ (n : Nat) (x3 : Int32) (a_gaps : Nat → Int32) (a_behind : Nat → Int32), (9 - x3.toInt < (n : Int)) → (iv 0 9 x3) → (∀ j, iv 0 511 (a_behind j)) → P x3 a_gaps a_behind := by
    intro n
    induction n with
    | zero => intro x3 a_gaps a_behind hm hx3 k_a_behind; exact (ms0_up hm hx3).elim
    | succ n ih =>
      intro x3 a_gaps a_behind hm hx3 k_a_behind
      apply hP
      refine ⟨fun c1 => ?_, fun c1 => ?_⟩
      · skip
        intro w2 ew2
        have hw2 := iv_eq ew2 (iv_add (l := 1) (h := 9) hx2 (iv_lit (l := 1) (h := 1) (by decide)) (by decide))
        exact hP2 _ _ _ (ml_up hm2 (inc_lt ew2 hx2 (by decide))) (iv_w hw2 (by decide)) k_a_behind
      · skip
        refine ⟨iv_in hx2 (by decide), ?_⟩
        refine ⟨iv_in (iv_lta (l := 0) (h := 8) (r_nle c1) hx3 k_cf_voices (by decide)) (by decide), ?_⟩
        refine ⟨fun c3 => ?_, fun c3 => ?_⟩
        · skip
          refine ⟨iv_in (iv_lta (l := 0) (h := 8) (r_nle c1) hx3 k_cf_voices (by decide)) (by decide), ?_⟩
          refine ⟨iv_in hx2 (by decide), ?_⟩
          refine ⟨iv_in (iv_add (l := 0) (h := 80) (iv_mul (l := 0) (h := 72) hx2 (iv_lit (l := 9) (h := 9) (by decide)) (by decide)) (iv_lta (l := 0) (h := 8) (r_nle c1) hx3 k_cf_voices (by decide)) (by decide)) (by decide), ?_⟩
          intro a4 ea4
          refine ⟨fun c5 => ?_, fun c5 => ?_⟩
          · skip
            exact s_wk0_X5_measure_3_69 k_a_behind k_cf_voices (iv_w (iv_lta (l := 0) (h := 8) (r_lt c5) k_cf_step (iv_max (l := 0) (h := 9) (iv_lit (l := 0) (h := 0) (by decide)) (iv_sub (l := (-9)) (h := 9) (k_ca_heights _) (k_ca_heights _) (by decide)) (by decide)) (by decide)) (by decide)) k_ca_parts k_ca_heights hx2 (iv_lta (l := 0) (h := 8) (r_nle c1) hx3 k_cf_voices (by decide)) m2 hm2 hP2 x3.toInt (Int.le_refl _) (fun u0 u1 u2 hq g0 g1 => ih u0 u1 u2 (ms_up hm hq) g0 g1) hpost
          · skip
            refine ⟨iv_in hx2 (by decide), ?_⟩
            intro w6 ew6
            have hw6 := iv_eq ew6 (iv_or 9 (l := 0) (h := 511) (k_a_behind _) (iv_shl1 (l := 1) (h := 256) (iv_lit (l := 1) (h := 1) (by decide)) (iv_lta (l := 0) (h := 8) (r_nle c1) hx3 k_cf_voices (by decide)) (by decide)) (by decide))
            refine ⟨iv_in hx2 (by decide), ?_⟩
            intro a7 ea7
            have k_a7 := iv_upd ea7 k_a_behind hw6
            exact s_wk0_X5_measure_3_69 k_a7 k_cf_voices k_cf_step k_ca_parts k_ca_heights hx2 (iv_lta (l := 0) (h := 8) (r_nle c1) hx3 k_cf_voices (by decide)) m2 hm2 hP2 x3.toInt (Int.le_refl _) (fun u0 u1 u2 hq g0 g1 => ih u0 u1 u2 (ms_up hm hq) g0 g1) hpost
        · skip
          refine ⟨iv_in (iv_add (l := 0) (h := 80) (iv_mul (l := 0) (h := 72) hx2 (iv_lit (l := 9) (h := 9) (by decide)) (by decide)) (iv_lta (l := 0) (h := 8) (r_nle c1) hx3 k_cf_voices (by decide)) (by decide)) (by decide), ?_⟩
          intro a8 ea8
          refine ⟨fun c9 => ?_, fun c9 => ?_⟩
          · skip
            exact s_wk0_X5_measure_3_69 k_a_behind k_cf_voices k_cf_step k_ca_parts k_ca_heights hx2 (iv_lta (l := 0) (h := 8) (r_nle c1) hx3 k_cf_voices (by decide)) m2 hm2 hP2 x3.toInt (Int.le_refl _) (fun u0 u1 u2 hq g0 g1 => ih u0 u1 u2 (ms_up hm hq) g0 g1) hpost
          · skip
            exact (iv_emp (iv_lea (l := 1000) (h := 9) (r_nlt c9) (iv_lit (l := 1000) (h := 1000) (by decide)) k_cf_step (by decide)) (by decide)).elim
  exact loop _ _ _ _ (ms_init_up _ _) hx3 k_a_behind
set_option maxRecDepth 20000 in
theorem s_wk0_X5_measure_3_2 {a_gaps : Nat → Int32} {a_behind : Nat → Int32} {cf_voices : Int32} {cf_step : Int32} {ca_parts : Nat → Int32} {ca_heights : Nat → Int32} {x2 : Int32} {post : (Nat → Int32) → (Nat → Int32) → Prop} (k_a_behind : ∀ j, iv 0 511 (a_behind j)) (k_cf_voices : iv 0 9 cf_voices) (k_cf_step : iv 0 9 cf_step) (k_ca_parts : ∀ j, iv 0 3 (ca_parts j)) (k_ca_heights : ∀ j, iv 0 9 (ca_heights j)) (hx2 : iv 0 9 x2) (hpost : ∀ (a_gaps : Nat → Int32) (a_behind : Nat → Int32), (∀ j, iv 0 511 (a_behind j)) → post a_gaps a_behind) : q_wk0_X5_measure_3_2 a_gaps a_behind cf_voices cf_step ca_parts ca_heights x2 post := by
  intro P hP
  have loop : ∀ (n : Nat) (x2 : Int32) (a_gaps : Nat → Int32) (a_behind : Nat → Int32), (9 - x2.toInt < (n : Int)) → (iv 0 9 x2) → (∀ j, iv 0 511 (a_behind j)) → P x2 a_gaps a_behind := by
    intro n
    induction n with
    | zero => intro x2 a_gaps a_behind hm hx2 k_a_behind; exact (ms0_up hm hx2).elim
    | succ n ih =>
      intro x2 a_gaps a_behind hm hx2 k_a_behind
      apply hP
      refine ⟨fun c1 => ?_, fun c1 => ?_⟩
      · skip
        exact hpost _ _ k_a_behind
      · skip
        refine ⟨iv_in (iv_lta (l := 0) (h := 8) (r_nle c1) hx2 k_cf_voices (by decide)) (by decide), ?_⟩
        intro a2 ea2
        have k_a2 := iv_upd ea2 k_a_behind (iv_w (iv_lit (l := 0) (h := 0) (by decide)) (by decide))
        exact s_wk0_X5_measure_3_19 k_a2 (iv_ltb (l := 1) (h := 9) (r_nle c1) hx2 k_cf_voices (by decide)) k_cf_step k_ca_parts k_ca_heights (iv_lta (l := 0) (h := 8) (r_nle c1) hx2 k_cf_voices (by decide)) (iv_w (iv_lit (l := 0) (h := 0) (by decide)) (by decide)) x2.toInt (Int.le_refl _) (fun u0 u1 u2 hq g0 g1 => ih u0 u1 u2 (ms_up hm hq) g0 g1) hpost
  exact loop _ _ _ _ (ms_init_up _ _) hx2 k_a_behind
set_option maxRecDepth 20000 in
theorem s_wk0_X5_measure_3_0 {a_gaps : Nat → Int32} {a_behind : Nat → Int32} {cf_voices : Int32} {cf_step : Int32} {ca_parts : Nat → Int32} {ca_heights : Nat → Int32} {post : (Nat → Int32) → (Nat → Int32) → Prop} (k_a_behind : ∀ j, iv 0 511 (a_behind j)) (k_cf_voices : iv 0 9 cf_voices) (k_cf_step : iv 0 9 cf_step) (k_ca_parts : ∀ j, iv 0 3 (ca_parts j)) (k_ca_heights : ∀ j, iv 0 9 (ca_heights j)) (hpost : ∀ (a_gaps : Nat → Int32) (a_behind : Nat → Int32), (∀ j, iv 0 511 (a_behind j)) → post a_gaps a_behind) : q_wk0_X5_measure_3_0 a_gaps a_behind cf_voices cf_step ca_parts ca_heights post := by
  exact s_wk0_X5_measure_3_2 k_a_behind k_cf_voices k_cf_step k_ca_parts k_ca_heights (iv_w (iv_lit (l := 0) (h := 0) (by decide)) (by decide)) hpost
-- wk_X5_measure_3
set_option maxRecDepth 20000 in
theorem s_wk_X5_measure_3_69 {P2 : Int32 → (Nat → Int32) → (Nat → Int32) → Prop} {P19 : Int32 → (Nat → Int32) → (Nat → Int32) → Prop} {a_gaps : Nat → Int32} {a_behind : Nat → Int32} {cf_voices : Int32} {cf_step : Int32} {ca_parts : Nat → Int32} {ca_heights : Nat → Int32} {x2 : Int32} {x3 : Int32} {post : (Nat → Int32) → (Nat → Int32) → Prop} (k_a_behind : ∀ j, iv 0 511 (a_behind j)) (k_cf_voices : iv 1 9 cf_voices) (k_cf_step : iv 0 9 cf_step) (k_ca_parts : ∀ j, iv 0 3 (ca_parts j)) (k_ca_heights : ∀ j, iv 0 9 (ca_heights j)) (hx2 : iv 0 8 x2) (hx3 : iv 0 8 x3) (m2 : Int) (hm2 : m2 ≤ x2.toInt) (hP2 : ∀ (x2 : Int32) (a_gaps : Nat → Int32) (a_behind : Nat → Int32), m2 < x2.toInt → iv 0 9 x2 → (∀ j, iv 0 511 (a_behind j)) → P2 x2 a_gaps a_behind) (m19 : Int) (hm19 : m19 ≤ x3.toInt) (hP19 : ∀ (x3 : Int32) (a_gaps : Nat → Int32) (a_behind : Nat → Int32), m19 < x3.toInt → iv 0 9 x3 → (∀ j, iv 0 511 (a_behind j)) → P19 x3 a_gaps a_behind) (hpost : ∀ (a_gaps : Nat → Int32) (a_behind : Nat → Int32), (∀ j, iv 0 511 (a_behind j)) → post a_gaps a_behind) : q_wk_X5_measure_3_69 P2 P19 a_gaps a_behind cf_voices cf_step ca_parts ca_heights x2 x3 post := by
  intro w1 ew1
  have hw1 := iv_eq ew1 (iv_add (l := 1) (h := 9) hx3 (iv_lit (l := 1) (h := 1) (by decide)) (by decide))
  exact hP19 _ _ _ (ml_up hm19 (inc_lt ew1 hx3 (by decide))) (iv_w hw1 (by decide)) k_a_behind
set_option maxRecDepth 20000 in
theorem s_wk_X5_measure_3_19 {P2 : Int32 → (Nat → Int32) → (Nat → Int32) → Prop} {a_gaps : Nat → Int32} {a_behind : Nat → Int32} {cf_voices : Int32} {cf_step : Int32} {ca_parts : Nat → Int32} {ca_heights : Nat → Int32} {x2 : Int32} {x3 : Int32} {post : (Nat → Int32) → (Nat → Int32) → Prop} (k_a_behind : ∀ j, iv 0 511 (a_behind j)) (k_cf_voices : iv 1 9 cf_voices) (k_cf_step : iv 0 9 cf_step) (k_ca_parts : ∀ j, iv 0 3 (ca_parts j)) (k_ca_heights : ∀ j, iv 0 9 (ca_heights j)) (hx2 : iv 0 8 x2) (hx3 : iv 0 9 x3) (m2 : Int) (hm2 : m2 ≤ x2.toInt) (hP2 : ∀ (x2 : Int32) (a_gaps : Nat → Int32) (a_behind : Nat → Int32), m2 < x2.toInt → iv 0 9 x2 → (∀ j, iv 0 511 (a_behind j)) → P2 x2 a_gaps a_behind) (hpost : ∀ (a_gaps : Nat → Int32) (a_behind : Nat → Int32), (∀ j, iv 0 511 (a_behind j)) → post a_gaps a_behind) : q_wk_X5_measure_3_19 P2 a_gaps a_behind cf_voices cf_step ca_parts ca_heights x2 x3 post := by
  intro P hP
  have loop : ∀ (n : Nat) (x3 : Int32) (a_gaps : Nat → Int32) (a_behind : Nat → Int32), (9 - x3.toInt < (n : Int)) → (iv 0 9 x3) → (∀ j, iv 0 511 (a_behind j)) → P x3 a_gaps a_behind := by
    intro n
    induction n with
    | zero => intro x3 a_gaps a_behind hm hx3 k_a_behind; exact (ms0_up hm hx3).elim
    | succ n ih =>
      intro x3 a_gaps a_behind hm hx3 k_a_behind
      apply hP
      refine ⟨fun c1 => ?_, fun c1 => ?_⟩
      · skip
        intro w2 ew2
        have hw2 := iv_eq ew2 (iv_add (l := 1) (h := 9) hx2 (iv_lit (l := 1) (h := 1) (by decide)) (by decide))
        exact hP2 _ _ _ (ml_up hm2 (inc_lt ew2 hx2 (by decide))) (iv_w hw2 (by decide)) k_a_behind
      · skip
        refine ⟨iv_in hx2 (by decide), ?_⟩
        refine ⟨iv_in (iv_lta (l := 0) (h := 8) (r_nle c1) hx3 k_cf_voices (by decide)) (by decide), ?_⟩
        refine ⟨fun c3 => ?_, fun c3 => ?_⟩
        · skip
          refine ⟨iv_in (iv_lta (l := 0) (h := 8) (r_nle c1) hx3 k_cf_voices (by decide)) (by decide), ?_⟩
          refine ⟨iv_in hx2 (by decide), ?_⟩
          refine ⟨iv_in (iv_add (l := 0) (h := 80) (iv_mul (l := 0) (h := 72) hx2 (iv_lit (l := 9) (h := 9) (by decide)) (by decide)) (iv_lta (l := 0) (h := 8) (r_nle c1) hx3 k_cf_voices (by decide)) (by decide)) (by decide), ?_⟩
          intro a4 ea4
          refine ⟨fun c5 => ?_, fun c5 => ?_⟩
          · skip
            exact s_wk_X5_measure_3_69 k_a_behind k_cf_voices (iv_w (iv_lta (l := 0) (h := 8) (r_lt c5) k_cf_step (iv_max (l := 0) (h := 9) (iv_lit (l := 0) (h := 0) (by decide)) (iv_sub (l := (-9)) (h := 9) (k_ca_heights _) (k_ca_heights _) (by decide)) (by decide)) (by decide)) (by decide)) k_ca_parts k_ca_heights hx2 (iv_lta (l := 0) (h := 8) (r_nle c1) hx3 k_cf_voices (by decide)) m2 hm2 hP2 x3.toInt (Int.le_refl _) (fun u0 u1 u2 hq g0 g1 => ih u0 u1 u2 (ms_up hm hq) g0 g1) hpost
          · skip
            refine ⟨iv_in hx2 (by decide), ?_⟩
            intro w6 ew6
            have hw6 := iv_eq ew6 (iv_or 9 (l := 0) (h := 511) (k_a_behind _) (iv_shl1 (l := 1) (h := 256) (iv_lit (l := 1) (h := 1) (by decide)) (iv_lta (l := 0) (h := 8) (r_nle c1) hx3 k_cf_voices (by decide)) (by decide)) (by decide))
            refine ⟨iv_in hx2 (by decide), ?_⟩
            intro a7 ea7
            have k_a7 := iv_upd ea7 k_a_behind hw6
            exact s_wk_X5_measure_3_69 k_a7 k_cf_voices k_cf_step k_ca_parts k_ca_heights hx2 (iv_lta (l := 0) (h := 8) (r_nle c1) hx3 k_cf_voices (by decide)) m2 hm2 hP2 x3.toInt (Int.le_refl _) (fun u0 u1 u2 hq g0 g1 => ih u0 u1 u2 (ms_up hm hq) g0 g1) hpost
        · skip
          refine ⟨iv_in (iv_add (l := 0) (h := 80) (iv_mul (l := 0) (h := 72) hx2 (iv_lit (l := 9) (h := 9) (by decide)) (by decide)) (iv_lta (l := 0) (h := 8) (r_nle c1) hx3 k_cf_voices (by decide)) (by decide)) (by decide), ?_⟩
          intro a8 ea8
          refine ⟨fun c9 => ?_, fun c9 => ?_⟩
          · skip
            exact s_wk_X5_measure_3_69 k_a_behind k_cf_voices k_cf_step k_ca_parts k_ca_heights hx2 (iv_lta (l := 0) (h := 8) (r_nle c1) hx3 k_cf_voices (by decide)) m2 hm2 hP2 x3.toInt (Int.le_refl _) (fun u0 u1 u2 hq g0 g1 => ih u0 u1 u2 (ms_up hm hq) g0 g1) hpost
          · skip
            exact (iv_emp (iv_lea (l := 1000) (h := 9) (r_nlt c9) (iv_lit (l := 1000) (h := 1000) (by decide)) k_cf_step (by decide)) (by decide)).elim
  exact loop _ _ _ _ (ms_init_up _ _) hx3 k_a_behind
set_option maxRecDepth 20000 in
theorem s_wk_X5_measure_3_2 {a_gaps : Nat → Int32} {a_behind : Nat → Int32} {cf_voices : Int32} {cf_step : Int32} {ca_parts : Nat → Int32} {ca_heights : Nat → Int32} {x2 : Int32} {post : (Nat → Int32) → (Nat → Int32) → Prop} (k_a_behind : ∀ j, iv 0 511 (a_behind j)) (k_cf_voices : iv 0 9 cf_voices) (k_cf_step : iv 0 9 cf_step) (k_ca_parts : ∀ j, iv 0 3 (ca_parts j)) (k_ca_heights : ∀ j, iv 0 9 (ca_heights j)) (hx2 : iv 0 9 x2) (hpost : ∀ (a_gaps : Nat → Int32) (a_behind : Nat → Int32), (∀ j, iv 0 511 (a_behind j)) → post a_gaps a_behind) : q_wk_X5_measure_3_2 a_gaps a_behind cf_voices cf_step ca_parts ca_heights x2 post := by
  intro P hP
  have loop : ∀ (n : Nat) (x2 : Int32) (a_gaps : Nat → Int32) (a_behind : Nat → Int32), (9 - x2.toInt < (n : Int)) → (iv 0 9 x2) → (∀ j, iv 0 511 (a_behind j)) → P x2 a_gaps a_behind := by
    intro n
    induction n with
    | zero => intro x2 a_gaps a_behind hm hx2 k_a_behind; exact (ms0_up hm hx2).elim
    | succ n ih =>
      intro x2 a_gaps a_behind hm hx2 k_a_behind
      apply hP
      refine ⟨fun c1 => ?_, fun c1 => ?_⟩
      · skip
        exact hpost _ _ k_a_behind
      · skip
        refine ⟨iv_in (iv_lta (l := 0) (h := 8) (r_nle c1) hx2 k_cf_voices (by decide)) (by decide), ?_⟩
        intro a2 ea2
        have k_a2 := iv_upd ea2 k_a_behind (iv_w (iv_lit (l := 0) (h := 0) (by decide)) (by decide))
        exact s_wk_X5_measure_3_19 k_a2 (iv_ltb (l := 1) (h := 9) (r_nle c1) hx2 k_cf_voices (by decide)) k_cf_step k_ca_parts k_ca_heights (iv_lta (l := 0) (h := 8) (r_nle c1) hx2 k_cf_voices (by decide)) (iv_w (iv_lit (l := 0) (h := 0) (by decide)) (by decide)) x2.toInt (Int.le_refl _) (fun u0 u1 u2 hq g0 g1 => ih u0 u1 u2 (ms_up hm hq) g0 g1) hpost
  exact loop _ _ _ _ (ms_init_up _ _) hx2 k_a_behind
set_option maxRecDepth 20000 in
theorem s_wk_X5_measure_3_0 {a_gaps : Nat → Int32} {a_behind : Nat → Int32} {cf_voices : Int32} {cf_step : Int32} {ca_parts : Nat → Int32} {ca_heights : Nat → Int32} {post : (Nat → Int32) → (Nat → Int32) → Prop} (k_a_behind : ∀ j, iv 0 511 (a_behind j)) (k_cf_voices : iv 0 9 cf_voices) (k_cf_step : iv 0 9 cf_step) (k_ca_parts : ∀ j, iv 0 3 (ca_parts j)) (k_ca_heights : ∀ j, iv 0 9 (ca_heights j)) (hpost : ∀ (a_gaps : Nat → Int32) (a_behind : Nat → Int32), (∀ j, iv 0 511 (a_behind j)) → post a_gaps a_behind) : q_wk_X5_measure_3_0 a_gaps a_behind cf_voices cf_step ca_parts ca_heights post := by
  exact s_wk_X5_measure_3_2 k_a_behind k_cf_voices k_cf_step k_ca_parts k_ca_heights (iv_w (iv_lit (l := 0) (h := 0) (by decide)) (by decide)) hpost
-- wk_X5_waysOn_6
set_option maxRecDepth 20000 in
theorem s_wk_X5_waysOn_6_45 {P5 : Int32 → Int32 → Prop} {z_tab : Nat → Int32} {x1 : Int32} {x2 : Int32} {x3 : Int32} {x4 : Int32} {post : Int32 → Prop} (hx1 : iv 1 511 x1) (hx2 : iv 0 511 x2) (hx4 : iv 0 8 x4) (m5 : Int) (hm5 : m5 ≤ x4.toInt) (hP5 : ∀ (x3 : Int32) (x4 : Int32), m5 < x4.toInt → iv 0 9 x4 → P5 x3 x4) (hpost : ∀ (r : Int32), post r) : q_wk_X5_waysOn_6_45 P5 z_tab x1 x2 x3 x4 post := by
  intro w1 ew1
  have hw1 := iv_eq ew1 (iv_add (l := 1) (h := 9) hx4 (iv_lit (l := 1) (h := 1) (by decide)) (by decide))
  exact hP5 _ _ (ml_up hm5 (inc_lt ew1 hx4 (by decide))) (iv_w hw1 (by decide))
set_option maxRecDepth 20000 in
theorem s_wk_X5_waysOn_6_5 {z_tab : Nat → Int32} {x1 : Int32} {x2 : Int32} {x3 : Int32} {x4 : Int32} {post : Int32 → Prop} (hx1 : iv 1 511 x1) (hx2 : iv 0 511 x2) (hx4 : iv 0 9 x4) (hpost : ∀ (r : Int32), post r) : q_wk_X5_waysOn_6_5 z_tab x1 x2 x3 x4 post := by
  intro P hP
  have loop : ∀ (n : Nat) (x3 : Int32) (x4 : Int32), (9 - x4.toInt < (n : Int)) → (iv 0 9 x4) → P x3 x4 := by
    intro n
    induction n with
    | zero => intro x3 x4 hm hx4; exact (ms0_up hm hx4).elim
    | succ n ih =>
      intro x3 x4 hm hx4
      apply hP
      refine ⟨fun c1 => ?_, fun c1 => ?_⟩
      · skip
        exact hpost _
      · skip
        refine ⟨fun c2 => ?_, fun c2 => ?_⟩
        · skip
          exact hpost _
        · skip
          refine ⟨fun c3 => ?_, fun c3 => ?_⟩
          · skip
            refine ⟨fun c4 => ?_, fun c4 => ?_⟩
            · skip
              exact s_wk_X5_waysOn_6_45 hx1 hx2 (iv_lta (l := 0) (h := 8) (r_nle c1) hx4 (iv_lit (l := 9) (h := 9) (by decide)) (by decide)) x4.toInt (Int.le_refl _) (fun u0 u1 hq g0 => ih u0 u1 (ms_up hm hq) g0) hpost
            · skip
              exact (iv_emp (iv_ne (l := 1) (h := 0) c4 (iv_lit (l := 0) (h := 0) (by decide)) (iv_lit (l := 0) (h := 0) (by decide)) (by decide)) (by decide)).elim
          · skip
            refine ⟨fun c5 => ?_, fun c5 => ?_⟩
            · skip
              exact (iv_emp (iv_eqa (l := 1) (h := 0) c5 (iv_lit (l := 1) (h := 1) (by decide)) (iv_lit (l := 0) (h := 0) (by decide)) (by decide)) (by decide)).elim
            · skip
              refine ⟨iv_in (iv_add (l := 0) (h := 4607) (iv_mul (l := 0) (h := 4599) (iv_or 9 (l := 0) (h := 511) hx1 (iv_shl1 (l := 1) (h := 256) (iv_lit (l := 1) (h := 1) (by decide)) (iv_lta (l := 0) (h := 8) (r_nle c1) hx4 (iv_lit (l := 9) (h := 9) (by decide)) (by decide)) (by decide)) (by decide)) (iv_lit (l := 9) (h := 9) (by decide)) (by decide)) (iv_lta (l := 0) (h := 8) (r_nle c1) hx4 (iv_lit (l := 9) (h := 9) (by decide)) (by decide)) (by decide)) (by decide), ?_⟩
              intro w6 ew6
              exact s_wk_X5_waysOn_6_45 hx1 hx2 (iv_lta (l := 0) (h := 8) (r_nle c1) hx4 (iv_lit (l := 9) (h := 9) (by decide)) (by decide)) x4.toInt (Int.le_refl _) (fun u0 u1 hq g0 => ih u0 u1 (ms_up hm hq) g0) hpost
  exact loop _ _ _ (ms_init_up _ _) hx4
set_option maxRecDepth 20000 in
theorem s_wk_X5_waysOn_6_0 {z_tab : Nat → Int32} {x1 : Int32} {x2 : Int32} {post : Int32 → Prop} (hx1 : iv 1 511 x1) (hx2 : iv 0 511 x2) (hpost : ∀ (r : Int32), post r) : q_wk_X5_waysOn_6_0 z_tab x1 x2 post := by
  exact s_wk_X5_waysOn_6_5 hx1 hx2 (iv_w (iv_lit (l := 0) (h := 0) (by decide)) (by decide)) hpost
-- wk_X5_fill_3
set_option maxRecDepth 20000 in
theorem s_wk_X5_fill_3_87 {P22 : Int32 → (Nat → Int32) → Prop} {P30 : Int32 → (Nat → Int32) → Prop} {a_gaps : Nat → Int32} {a_behind : Nat → Int32} {cf_voices : Int32} {cf_step : Int32} {ca_parts : Nat → Int32} {ca_heights : Nat → Int32} {z_tab : Nat → Int32} {x3 : Int32} {x4 : Int32} {x5 : Int32} {post : (Nat → Int32) → (Nat → Int32) → (Nat → Int32) → Prop} (k_a_behind : ∀ j, iv 0 511 (a_behind j)) (k_cf_voices : iv 1 9 cf_voices) (k_cf_step : iv 0 9 cf_step) (k_ca_parts : ∀ j, iv 0 3 (ca_parts j)) (k_ca_heights : ∀ j, iv 0 9 (ca_heights j)) (hx3 : iv 0 511 x3) (hx4 : iv 1 511 x4) (hx5 : iv 0 8 x5) (m22 : Int) (hm22 : x4.toInt ≤ m22) (hP22 : ∀ (x4 : Int32) (z_tab : Nat → Int32), x4.toInt < m22 → iv 0 511 x4 → P22 x4 z_tab) (m30 : Int) (hm30 : m30 ≤ x5.toInt) (hP30 : ∀ (x5 : Int32) (z_tab : Nat → Int32), m30 < x5.toInt → iv 0 9 x5 → P30 x5 z_tab) (hpost : ∀ (a_gaps : Nat → Int32) (a_behind : Nat → Int32) (z_tab : Nat → Int32), (∀ j, iv 0 511 (a_behind j)) → post a_gaps a_behind z_tab) : q_wk_X5_fill_3_87 P22 P30 a_gaps a_behind cf_voices cf_step ca_parts ca_heights z_tab x3 x4 x5 post := by
  intro w1 ew1
  have hw1 := iv_eq ew1 (iv_add (l := 1) (h := 9) hx5 (iv_lit (l := 1) (h := 1) (by decide)) (by decide))
  exact hP30 _ _ (ml_up hm30 (inc_lt ew1 hx5 (by decide))) (iv_w hw1 (by decide))
set_option maxRecDepth 20000 in
theorem s_wk_X5_fill_3_86 {P22 : Int32 → (Nat → Int32) → Prop} {P30 : Int32 → (Nat → Int32) → Prop} {a_gaps : Nat → Int32} {a_behind : Nat → Int32} {cf_voices : Int32} {cf_step : Int32} {ca_parts : Nat → Int32} {ca_heights : Nat → Int32} {z_tab : Nat → Int32} {x3 : Int32} {x4 : Int32} {x5 : Int32} {y0 : Int32} {y1 : Int32} {post : (Nat → Int32) → (Nat → Int32) → (Nat → Int32) → Prop} (k_a_behind : ∀ j, iv 0 511 (a_behind j)) (k_cf_voices : iv 1 9 cf_voices) (k_cf_step : iv 0 9 cf_step) (k_ca_parts : ∀ j, iv 0 3 (ca_parts j)) (k_ca_heights : ∀ j, iv 0 9 (ca_heights j)) (hx3 : iv 0 511 x3) (hx4 : iv 1 511 x4) (hx5 : iv 0 8 x5) (hy0 : iv 9 4607 y0) (m22 : Int) (hm22 : x4.toInt ≤ m22) (hP22 : ∀ (x4 : Int32) (z_tab : Nat → Int32), x4.toInt < m22 → iv 0 511 x4 → P22 x4 z_tab) (m30 : Int) (hm30 : m30 ≤ x5.toInt) (hP30 : ∀ (x5 : Int32) (z_tab : Nat → Int32), m30 < x5.toInt → iv 0 9 x5 → P30 x5 z_tab) (hpost : ∀ (a_gaps : Nat → Int32) (a_behind : Nat → Int32) (z_tab : Nat → Int32), (∀ j, iv 0 511 (a_behind j)) → post a_gaps a_behind z_tab) : q_wk_X5_fill_3_86 P22 P30 a_gaps a_behind cf_voices cf_step ca_parts ca_heights z_tab x3 x4 x5 y0 y1 post := by
  refine ⟨iv_in hy0 (by decide), ?_⟩
  intro a1 ea1
  exact s_wk_X5_fill_3_87 k_a_behind k_cf_voices k_cf_step k_ca_parts k_ca_heights hx3 hx4 hx5 m22 hm22 hP22 m30 hm30 hP30 hpost
set_option maxRecDepth 20000 in
theorem s_wk_X5_fill_3_30 {P22 : Int32 → (Nat → Int32) → Prop} {a_gaps : Nat → Int32} {a_behind : Nat → Int32} {cf_voices : Int32} {cf_step : Int32} {ca_parts : Nat → Int32} {ca_heights : Nat → Int32} {z_tab : Nat → Int32} {x3 : Int32} {x4 : Int32} {x5 : Int32} {post : (Nat → Int32) → (Nat → Int32) → (Nat → Int32) → Prop} (k_a_behind : ∀ j, iv 0 511 (a_behind j)) (k_cf_voices : iv 0 9 cf_voices) (k_cf_step : iv 0 9 cf_step) (k_ca_parts : ∀ j, iv 0 3 (ca_parts j)) (k_ca_heights : ∀ j, iv 0 9 (ca_heights j)) (hx3 : iv 0 511 x3) (hx4 : iv 1 511 x4) (hx5 : iv 0 9 x5) (m22 : Int) (hm22 : x4.toInt ≤ m22) (hP22 : ∀ (x4 : Int32) (z_tab : Nat → Int32), x4.toInt < m22 → iv 0 511 x4 → P22 x4 z_tab) (hpost : ∀ (a_gaps : Nat → Int32) (a_behind : Nat → Int32) (z_tab : Nat → Int32), (∀ j, iv 0 511 (a_behind j)) → post a_gaps a_behind z_tab) : q_wk_X5_fill_3_30 P22 a_gaps a_behind cf_voices cf_step ca_parts ca_heights z_tab x3 x4 x5 post := by
  intro P hP
  have loop : ∀ (n : Nat) (x5 : Int32) (z_tab : Nat → Int32), (9 - x5.toInt < (n : Int)) → (iv 0 9 x5) → P x5 z_tab := by
    intro n
    induction n with
    | zero => intro x5 z_tab hm hx5; exact (ms0_up hm hx5).elim
    | succ n ih =>
      intro x5 z_tab hm hx5
      apply hP
      refine ⟨fun c1 => ?_, fun c1 => ?_⟩
      · skip
        intro w2 ew2
        have hw2 := iv_eq ew2 (iv_add (l := 0) (h := 510) hx4 (iv_lit (l := (-1)) (h := (-1)) (by decide)) (by decide))
        exact hP22 _ _ (ml_dn hm22 (dec_lt ew2 hx4 (by decide))) (iv_w hw2 (by decide))
      · skip
        refine ⟨fun c3 => ?_, fun c3 => ?_⟩
        · skip
          refine ⟨fun c4 => ?_, fun c4 => ?_⟩
          · skip
            exact s_wk_X5_fill_3_87 k_a_behind (iv_ltb (l := 1) (h := 9) (r_nle c1) hx5 k_cf_voices (by decide)) k_cf_step k_ca_parts k_ca_heights hx3 hx4 (iv_lta (l := 0) (h := 8) (r_nle c1) hx5 k_cf_voices (by decide)) m22 hm22 hP22 x5.toInt (Int.le_refl _) (fun u0 u1 hq g0 => ih u0 u1 (ms_up hm hq) g0) hpost
          · skip
            exact (iv_emp (iv_ne (l := 1) (h := 0) c4 (iv_lit (l := 0) (h := 0) (by decide)) (iv_lit (l := 0) (h := 0) (by decide)) (by decide)) (by decide)).elim
        · skip
          refine ⟨fun c5 => ?_, fun c5 => ?_⟩
          · skip
            exact (iv_emp (iv_eqa (l := 1) (h := 0) c5 (iv_lit (l := 1) (h := 1) (by decide)) (iv_lit (l := 0) (h := 0) (by decide)) (by decide)) (by decide)).elim
          · skip
            refine ⟨fun c6 => ?_, fun c6 => ?_⟩
            · skip
              refine ⟨iv_in (iv_lta (l := 0) (h := 8) (r_nle c1) hx5 k_cf_voices (by decide)) (by decide), ?_⟩
              refine s_wk_X5_waysOn_6_0 hx4 (iv_andl (l := 0) (h := 511) (k_a_behind _) (by decide)) (fun r7 => ?_)
              exact s_wk_X5_fill_3_86 k_a_behind (iv_ltb (l := 1) (h := 9) (r_nle c1) hx5 k_cf_voices (by decide)) k_cf_step k_ca_parts k_ca_heights hx3 hx4 (iv_lta (l := 0) (h := 8) (r_nle c1) hx5 k_cf_voices (by decide)) (iv_add (l := 9) (h := 4607) (iv_mul (l := 9) (h := 4599) hx4 (iv_lit (l := 9) (h := 9) (by decide)) (by decide)) (iv_lta (l := 0) (h := 8) (r_nle c1) hx5 k_cf_voices (by decide)) (by decide)) m22 hm22 hP22 x5.toInt (Int.le_refl _) (fun u0 u1 hq g0 => ih u0 u1 (ms_up hm hq) g0) hpost
            · skip
              exact s_wk_X5_fill_3_86 k_a_behind (iv_ltb (l := 1) (h := 9) (r_nle c1) hx5 k_cf_voices (by decide)) k_cf_step k_ca_parts k_ca_heights (iv_w (iv_eqb (l := 1) (h := 511) c6 hx4 hx3 (by decide)) (by decide)) hx4 (iv_lta (l := 0) (h := 8) (r_nle c1) hx5 k_cf_voices (by decide)) (iv_add (l := 9) (h := 4607) (iv_mul (l := 9) (h := 4599) hx4 (iv_lit (l := 9) (h := 9) (by decide)) (by decide)) (iv_lta (l := 0) (h := 8) (r_nle c1) hx5 k_cf_voices (by decide)) (by decide)) m22 hm22 hP22 x5.toInt (Int.le_refl _) (fun u0 u1 hq g0 => ih u0 u1 (ms_up hm hq) g0) hpost
  exact loop _ _ _ (ms_init_up _ _) hx5
set_option maxRecDepth 20000 in
theorem s_wk_X5_fill_3_22 {a_gaps : Nat → Int32} {a_behind : Nat → Int32} {cf_voices : Int32} {cf_step : Int32} {ca_parts : Nat → Int32} {ca_heights : Nat → Int32} {z_tab : Nat → Int32} {x3 : Int32} {x4 : Int32} {post : (Nat → Int32) → (Nat → Int32) → (Nat → Int32) → Prop} (k_a_behind : ∀ j, iv 0 511 (a_behind j)) (k_cf_voices : iv 0 9 cf_voices) (k_cf_step : iv 0 9 cf_step) (k_ca_parts : ∀ j, iv 0 3 (ca_parts j)) (k_ca_heights : ∀ j, iv 0 9 (ca_heights j)) (hx3 : iv 0 511 x3) (hx4 : iv 0 511 x4) (hpost : ∀ (a_gaps : Nat → Int32) (a_behind : Nat → Int32) (z_tab : Nat → Int32), (∀ j, iv 0 511 (a_behind j)) → post a_gaps a_behind z_tab) : q_wk_X5_fill_3_22 a_gaps a_behind cf_voices cf_step ca_parts ca_heights z_tab x3 x4 post := by
  intro P hP
  have loop : ∀ (n : Nat) (x4 : Int32) (z_tab : Nat → Int32), (x4.toInt - 0 < (n : Int)) → (iv 0 511 x4) → P x4 z_tab := by
    intro n
    induction n with
    | zero => intro x4 z_tab hm hx4; exact (ms0_dn hm hx4).elim
    | succ n ih =>
      intro x4 z_tab hm hx4
      apply hP
      refine ⟨fun c1 => ?_, fun c1 => ?_⟩
      · skip
        exact hpost _ _ _ k_a_behind
      · skip
        exact s_wk_X5_fill_3_30 k_a_behind k_cf_voices k_cf_step k_ca_parts k_ca_heights hx3 (iv_ltb (l := 1) (h := 511) (r_nle c1) (iv_lit (l := 0) (h := 0) (by decide)) hx4 (by decide)) (iv_w (iv_lit (l := 0) (h := 0) (by decide)) (by decide)) x4.toInt (Int.le_refl _) (fun u0 u1 hq g0 => ih u0 u1 (ms_dn hm hq) g0) hpost
  exact loop _ _ _ (ms_init_dn _ _) hx4
set_option maxRecDepth 20000 in
theorem s_wk_X5_fill_3_10 {a_gaps : Nat → Int32} {a_behind : Nat → Int32} {cf_voices : Int32} {cf_step : Int32} {ca_parts : Nat → Int32} {ca_heights : Nat → Int32} {z_tab : Nat → Int32} {post : (Nat → Int32) → (Nat → Int32) → (Nat → Int32) → Prop} (k_a_behind : ∀ j, iv 0 511 (a_behind j)) (k_cf_voices : iv 0 9 cf_voices) (k_cf_step : iv 0 9 cf_step) (k_ca_parts : ∀ j, iv 0 3 (ca_parts j)) (k_ca_heights : ∀ j, iv 0 9 (ca_heights j)) (hpost : ∀ (a_gaps : Nat → Int32) (a_behind : Nat → Int32) (z_tab : Nat → Int32), (∀ j, iv 0 511 (a_behind j)) → post a_gaps a_behind z_tab) : q_wk_X5_fill_3_10 a_gaps a_behind cf_voices cf_step ca_parts ca_heights z_tab post := by
  intro w1 ew1
  have hw1 := iv_eq ew1 (iv_sub (l := 0) (h := 511) (iv_shl1 (l := 1) (h := 512) (iv_lit (l := 1) (h := 1) (by decide)) k_cf_voices (by decide)) (iv_lit (l := 1) (h := 1) (by decide)) (by decide))
  exact s_wk_X5_fill_3_22 k_a_behind k_cf_voices k_cf_step k_ca_parts k_ca_heights hw1 hw1 hpost
set_option maxRecDepth 20000 in
theorem s_wk_X5_fill_3_0 {a_gaps : Nat → Int32} {a_behind : Nat → Int32} {cf_voices : Int32} {cf_step : Int32} {ca_parts : Nat → Int32} {ca_heights : Nat → Int32} {z_tab : Nat → Int32} {post : (Nat → Int32) → (Nat → Int32) → (Nat → Int32) → Prop} (k_a_behind : ∀ j, iv 0 511 (a_behind j)) (k_cf_voices : iv 0 9 cf_voices) (k_cf_step : iv 0 9 cf_step) (k_ca_parts : ∀ j, iv 0 3 (ca_parts j)) (k_ca_heights : ∀ j, iv 0 9 (ca_heights j)) (hpost : ∀ (a_gaps : Nat → Int32) (a_behind : Nat → Int32) (z_tab : Nat → Int32), (∀ j, iv 0 511 (a_behind j)) → post a_gaps a_behind z_tab) : q_wk_X5_fill_3_0 a_gaps a_behind cf_voices cf_step ca_parts ca_heights z_tab post := by
  refine s_wk_X5_measure_3_0 k_a_behind k_cf_voices k_cf_step k_ca_parts k_ca_heights (fun o1 o2 k_o2 => ?_)
  refine ⟨fun h => absurd h (by decide), fun h0 => ?_⟩
  exact s_wk_X5_fill_3_10 k_o2 k_cf_voices k_cf_step k_ca_parts k_ca_heights hpost
-- wk_X5_total_3
set_option maxRecDepth 20000 in
theorem s_wk_X5_total_3_19 {cf_voices : Int32} {z_tab : Nat → Int32} {x3 : Int32} {x4 : Int32} {post : Int32 → Prop} (k_cf_voices : iv 1 9 cf_voices) (hx4 : iv 0 9 x4) (hpost : ∀ (r : Int32), post r) : q_wk_X5_total_3_19 cf_voices z_tab x3 x4 post := by
  intro P hP
  have loop : ∀ (n : Nat) (x3 : Int32) (x4 : Int32), (9 - x4.toInt < (n : Int)) → (iv 0 9 x4) → P x3 x4 := by
    intro n
    induction n with
    | zero => intro x3 x4 hm hx4; exact (ms0_up hm hx4).elim
    | succ n ih =>
      intro x3 x4 hm hx4
      apply hP
      refine ⟨fun c1 => ?_, fun c1 => ?_⟩
      · skip
        exact hpost _
      · skip
        refine ⟨iv_in (iv_add (l := 9) (h := 2312) (iv_mul (l := 9) (h := 2304) (iv_shl1 (l := 1) (h := 256) (iv_lit (l := 1) (h := 1) (by decide)) (iv_lta (l := 0) (h := 8) (r_nle c1) hx4 k_cf_voices (by decide)) (by decide)) (iv_lit (l := 9) (h := 9) (by decide)) (by decide)) (iv_lta (l := 0) (h := 8) (r_nle c1) hx4 k_cf_voices (by decide)) (by decide)) (by decide), ?_⟩
        intro w2 ew2
        intro w3 ew3
        have hw3 := iv_eq ew3 (iv_add (l := 1) (h := 9) (iv_lta (l := 0) (h := 8) (r_nle c1) hx4 k_cf_voices (by decide)) (iv_lit (l := 1) (h := 1) (by decide)) (by decide))
        exact ih _ _ (ms_up hm (inc_lt ew3 (iv_lta (l := 0) (h := 8) (r_nle c1) hx4 k_cf_voices (by decide)) (by decide))) (iv_w hw3 (by decide))
  exact loop _ _ _ (ms_init_up _ _) hx4
set_option maxRecDepth 20000 in
theorem s_wk_X5_total_3_0 {cf_voices : Int32} {z_tab : Nat → Int32} {post : Int32 → Prop} (k_cf_voices : iv 0 9 cf_voices) (hpost : ∀ (r : Int32), post r) : q_wk_X5_total_3_0 cf_voices z_tab post := by
  refine ⟨fun c1 => ?_, fun c1 => ?_⟩
  · skip
    refine ⟨fun h => absurd h (by decide), fun h0 => ?_⟩
    exact s_wk_X5_total_3_19 (iv_ne (l := 1) (h := 9) c1 k_cf_voices (iv_lit (l := 0) (h := 0) (by decide)) (by decide)) (iv_w (iv_lit (l := 0) (h := 0) (by decide)) (by decide)) hpost
  · skip
    exact hpost _
-- wk_X5_firstOf
set_option maxRecDepth 20000 in
theorem s_wk_X5_firstOf_44 {P8 : Int32 → Prop} {z_tab : Nat → Int32} {x1 : Int32} {x2 : Int32} {x4 : Int32} {post : Int32 → Prop} (hx1 : iv 0 511 x1) (hx2 : iv 0 511 x2) (hx4 : iv 0 8 x4) (m8 : Int) (hm8 : m8 ≤ x4.toInt) (hP8 : ∀ (x4 : Int32), m8 < x4.toInt → iv 0 9 x4 → P8 x4) (hpost : ∀ (r : Int32), iv (-1) 8 r → post r) : q_wk_X5_firstOf_44 P8 z_tab x1 x2 x4 post := by
  intro w1 ew1
  have hw1 := iv_eq ew1 (iv_add (l := 1) (h := 9) hx4 (iv_lit (l := 1) (h := 1) (by decide)) (by decide))
  exact hP8 _ (ml_up hm8 (inc_lt ew1 hx4 (by decide))) (iv_w hw1 (by decide))
set_option maxRecDepth 20000 in
theorem s_wk_X5_firstOf_8 {z_tab : Nat → Int32} {x1 : Int32} {x2 : Int32} {x4 : Int32} {post : Int32 → Prop} (hx1 : iv 0 511 x1) (hx2 : iv 0 511 x2) (hx4 : iv 0 9 x4) (hpost : ∀ (r : Int32), iv (-1) 8 r → post r) : q_wk_X5_firstOf_8 z_tab x1 x2 x4 post := by
  intro P hP
  have loop : ∀ (n : Nat) (x4 : Int32), (9 - x4.toInt < (n : Int)) → (iv 0 9 x4) → P x4 := by
    intro n
    induction n with
    | zero => intro x4 hm hx4; exact (ms0_up hm hx4).elim
    | succ n ih =>
      intro x4 hm hx4
      apply hP
      refine ⟨fun c1 => ?_, fun c1 => ?_⟩
      · skip
        exact hpost _ (iv_w (iv_lit (l := (-1)) (h := (-1)) (by decide)) (by decide))
      · skip
        refine ⟨fun c2 => ?_, fun c2 => ?_⟩
        · skip
          refine ⟨fun c3 => ?_, fun c3 => ?_⟩
          · skip
            exact s_wk_X5_firstOf_44 hx1 hx2 (iv_lta (l := 0) (h := 8) (r_nle c1) hx4 (iv_lit (l := 9) (h := 9) (by decide)) (by decide)) x4.toInt (Int.le_refl _) (fun u0 hq g0 => ih u0 (ms_up hm hq) g0) hpost
          · skip
            exact (iv_emp (iv_ne (l := 1) (h := 0) c3 (iv_lit (l := 0) (h := 0) (by decide)) (iv_lit (l := 0) (h := 0) (by decide)) (by decide)) (by decide)).elim
        · skip
          refine ⟨fun c4 => ?_, fun c4 => ?_⟩
          · skip
            exact (iv_emp (iv_eqa (l := 1) (h := 0) c4 (iv_lit (l := 1) (h := 1) (by decide)) (iv_lit (l := 0) (h := 0) (by decide)) (by decide)) (by decide)).elim
          · skip
            refine ⟨iv_in (iv_add (l := 0) (h := 4607) (iv_mul (l := 0) (h := 4599) (iv_or 9 (l := 0) (h := 511) hx1 (iv_shl1 (l := 1) (h := 256) (iv_lit (l := 1) (h := 1) (by decide)) (iv_lta (l := 0) (h := 8) (r_nle c1) hx4 (iv_lit (l := 9) (h := 9) (by decide)) (by decide)) (by decide)) (by decide)) (iv_lit (l := 9) (h := 9) (by decide)) (by decide)) (iv_lta (l := 0) (h := 8) (r_nle c1) hx4 (iv_lit (l := 9) (h := 9) (by decide)) (by decide)) (by decide)) (by decide), ?_⟩
            refine ⟨fun c5 => ?_, fun c5 => ?_⟩
            · skip
              exact s_wk_X5_firstOf_44 hx1 hx2 (iv_lta (l := 0) (h := 8) (r_nle c1) hx4 (iv_lit (l := 9) (h := 9) (by decide)) (by decide)) x4.toInt (Int.le_refl _) (fun u0 hq g0 => ih u0 (ms_up hm hq) g0) hpost
            · skip
              exact hpost _ (iv_w (iv_lta (l := 0) (h := 8) (r_nle c1) hx4 (iv_lit (l := 9) (h := 9) (by decide)) (by decide)) (by decide))
  exact loop _ _ (ms_init_up _ _) hx4
set_option maxRecDepth 20000 in
theorem s_wk_X5_firstOf_0 {z_tab : Nat → Int32} {x1 : Int32} {x2 : Int32} {post : Int32 → Prop} (hx1 : iv 0 511 x1) (hx2 : iv 0 511 x2) (hpost : ∀ (r : Int32), iv (-1) 8 r → post r) : q_wk_X5_firstOf_0 z_tab x1 x2 post := by
  refine ⟨fun h => absurd h (by decide), fun h0 => ?_⟩
  exact s_wk_X5_firstOf_8 hx1 hx2 (iv_w (iv_lit (l := 0) (h := 0) (by decide)) (by decide)) hpost
-- wk_X5_voiceAt_3
set_option maxRecDepth 20000 in
theorem s_wk_X5_voiceAt_3_18 {a_behind : Nat → Int32} {cf_voices : Int32} {z_tab : Nat → Int32} {x2 : Int32} {x3 : Int32} {x4 : Int32} {x5 : Int32} {x6 : Int32} {post : Int32 → Prop} (k_a_behind : ∀ j, iv 0 511 (a_behind j)) (k_cf_voices : iv 1 9 cf_voices) (hx2 : iv 0 8 x2) (hx3 : iv 0 511 x3) (hx4 : iv 0 511 x4) (hx5 : iv (-1) 8 x5) (hx6 : iv 0 9 x6) (hpost : ∀ (r : Int32), iv (-1) 8 r → post r) : q_wk_X5_voiceAt_3_18 a_behind cf_voices z_tab x2 x3 x4 x5 x6 post := by
  intro P hP
  have loop : ∀ (n : Nat) (x3 : Int32) (x4 : Int32) (x5 : Int32) (x6 : Int32), (9 - x6.toInt < (n : Int)) → (iv 0 511 x3) → (iv 0 511 x4) → (iv (-1) 8 x5) → (iv 0 9 x6) → P x3 x4 x5 x6 := by
    intro n
    induction n with
    | zero => intro x3 x4 x5 x6 hm hx3 hx4 hx5 hx6; exact (ms0_up hm hx6).elim
    | succ n ih =>
      intro x3 x4 x5 x6 hm hx3 hx4 hx5 hx6
      apply hP
      refine ⟨fun c1 => ?_, fun c1 => ?_⟩
      · skip
        exact hpost _ hx5
      · skip
        refine s_wk_X5_firstOf_0 hx3 hx4 (fun r2 hr2 => ?_)
        refine ⟨fun c3 => ?_, fun c3 => ?_⟩
        · skip
          intro w4 ew4
          have hw4 := iv_eq ew4 (iv_or 9 (l := 0) (h := 511) hx3 (iv_shl1 (l := 1) (h := 256) (iv_lit (l := 1) (h := 1) (by decide)) (iv_ne (l := 0) (h := 8) c3 hr2 (iv_lit (l := (-1)) (h := (-1)) (by decide)) (by decide)) (by decide)) (by decide))
          refine ⟨iv_in (iv_ne (l := 0) (h := 8) c3 hr2 (iv_lit (l := (-1)) (h := (-1)) (by decide)) (by decide)) (by decide), ?_⟩
          intro w5 ew5
          have hw5 := iv_eq ew5 (iv_andl (l := 0) (h := 511) (k_a_behind _) (by decide))
          intro w6 ew6
          have hw6 := iv_eq ew6 (iv_add (l := 1) (h := 9) (iv_lea (l := 0) (h := 8) (r_nlt c1) hx6 hx2 (by decide)) (iv_lit (l := 1) (h := 1) (by decide)) (by decide))
          exact ih _ _ _ _ (ms_up hm (inc_lt ew6 (iv_lea (l := 0) (h := 8) (r_nlt c1) hx6 hx2 (by decide)) (by decide))) hw4 hw5 (iv_w (iv_ne (l := 0) (h := 8) c3 hr2 (iv_lit (l := (-1)) (h := (-1)) (by decide)) (by decide)) (by decide)) (iv_w hw6 (by decide))
        · skip
          exact hpost _ (iv_w (iv_lit (l := (-1)) (h := (-1)) (by decide)) (by decide))
  exact loop _ _ _ _ _ (ms_init_up _ _) hx3 hx4 hx5 hx6
set_option maxRecDepth 20000 in
theorem s_wk_X5_voiceAt_3_0 {a_behind : Nat → Int32} {cf_voices : Int32} {z_tab : Nat → Int32} {x2 : Int32} {post : Int32 → Prop} (k_a_behind : ∀ j, iv 0 511 (a_behind j)) (k_cf_voices : iv 1 9 cf_voices) (hx2 : iv 0 8 x2) (hpost : ∀ (r : Int32), iv (-1) 8 r → post r) : q_wk_X5_voiceAt_3_0 a_behind cf_voices z_tab x2 post := by
  intro w1 ew1
  have hw1 := iv_eq ew1 (iv_sub (l := 0) (h := 511) (iv_shl1 (l := 1) (h := 512) (iv_lit (l := 1) (h := 1) (by decide)) k_cf_voices (by decide)) (iv_lit (l := 1) (h := 1) (by decide)) (by decide))
  exact s_wk_X5_voiceAt_3_18 k_a_behind k_cf_voices hx2 (iv_w (iv_lit (l := 0) (h := 0) (by decide)) (by decide)) hw1 (iv_w (iv_lit (l := (-1)) (h := (-1)) (by decide)) (by decide)) (iv_w (iv_lit (l := 0) (h := 0) (by decide)) (by decide)) hpost
-- wk_X5_stepOn_6
set_option maxRecDepth 20000 in
theorem s_wk_X5_stepOn_6_79 {P8 : Int32 → Int32 → Prop} {a_gaps : Nat → Int32} {z_tab : Nat → Int32} {x2 : Int32} {x3 : Int32} {x4 : Int32} {x5 : Int32} {x6 : Int32} {post : Int32 → Prop} (hx2 : iv 1 511 x2) (hx3 : iv 0 511 x3) (hx4 : iv 0 8 x4) (hx5 : iv (-2147483648) 1000 x5) (hx6 : iv 0 8 x6) (m8 : Int) (hm8 : m8 ≤ x6.toInt) (hP8 : ∀ (x5 : Int32) (x6 : Int32), m8 < x6.toInt → iv (-2147483648) 1000 x5 → iv 0 9 x6 → P8 x5 x6) (hpost : ∀ (r : Int32), iv (-2147483648) 1000 r → post r) : q_wk_X5_stepOn_6_79 P8 a_gaps z_tab x2 x3 x4 x5 x6 post := by
  intro w1 ew1
  have hw1 := iv_eq ew1 (iv_add (l := 1) (h := 9) hx6 (iv_lit (l := 1) (h := 1) (by decide)) (by decide))
  exact hP8 _ _ (ml_up hm8 (inc_lt ew1 hx6 (by decide))) hx5 (iv_w hw1 (by decide))
set_option maxRecDepth 20000 in
theorem s_wk_X5_stepOn_6_8 {a_gaps : Nat → Int32} {z_tab : Nat → Int32} {x2 : Int32} {x3 : Int32} {x4 : Int32} {x5 : Int32} {x6 : Int32} {post : Int32 → Prop} (hx2 : iv 1 511 x2) (hx3 : iv 0 511 x3) (hx4 : iv 0 8 x4) (hx5 : iv (-2147483648) 1000 x5) (hx6 : iv 0 9 x6) (hpost : ∀ (r : Int32), iv (-2147483648) 1000 r → post r) : q_wk_X5_stepOn_6_8 a_gaps z_tab x2 x3 x4 x5 x6 post := by
  intro P hP
  have loop : ∀ (n : Nat) (x5 : Int32) (x6 : Int32), (9 - x6.toInt < (n : Int)) → (iv (-2147483648) 1000 x5) → (iv 0 9 x6) → P x5 x6 := by
    intro n
    induction n with
    | zero => intro x5 x6 hm hx5 hx6; exact (ms0_up hm hx6).elim
    | succ n ih =>
      intro x5 x6 hm hx5 hx6
      apply hP
      refine ⟨fun c1 => ?_, fun c1 => ?_⟩
      · skip
        exact hpost _ hx5
      · skip
        refine ⟨fun c2 => ?_, fun c2 => ?_⟩
        · skip
          exact hpost _ hx5
        · skip
          refine ⟨iv_in (iv_add (l := 0) (h := 80) (iv_mul (l := 0) (h := 72) hx4 (iv_lit (l := 9) (h := 9) (by decide)) (by decide)) (iv_lta (l := 0) (h := 8) (r_nle c1) hx6 (iv_lit (l := 9) (h := 9) (by decide)) (by decide)) (by decide)) (by decide), ?_⟩
          intro w3 ew3
          refine ⟨fun c4 => ?_, fun c4 => ?_⟩
          · skip
            refine ⟨fun c5 => ?_, fun c5 => ?_⟩
            · skip
              exact s_wk_X5_stepOn_6_79 hx2 hx3 hx4 hx5 (iv_lta (l := 0) (h := 8) (r_nle c1) hx6 (iv_lit (l := 9) (h := 9) (by decide)) (by decide)) x6.toInt (Int.le_refl _) (fun u0 u1 hq g0 g1 => ih u0 u1 (ms_up hm hq) g0 g1) hpost
            · skip
              exact (iv_emp (iv_ne (l := 1) (h := 0) c5 (iv_lit (l := 0) (h := 0) (by decide)) (iv_lit (l := 0) (h := 0) (by decide)) (by decide)) (by decide)).elim
          · skip
            refine ⟨fun c6 => ?_, fun c6 => ?_⟩
            · skip
              exact (iv_emp (iv_eqa (l := 1) (h := 0) c6 (iv_lit (l := 1) (h := 1) (by decide)) (iv_lit (l := 0) (h := 0) (by decide)) (by decide)) (by decide)).elim
            · skip
              refine ⟨fun c7 => ?_, fun c7 => ?_⟩
              · skip
                exact s_wk_X5_stepOn_6_79 hx2 hx3 hx4 hx5 (iv_lta (l := 0) (h := 8) (r_nle c1) hx6 (iv_lit (l := 9) (h := 9) (by decide)) (by decide)) x6.toInt (Int.le_refl _) (fun u0 u1 hq g0 g1 => ih u0 u1 (ms_up hm hq) g0 g1) hpost
              · skip
                refine ⟨iv_in (iv_add (l := 0) (h := 4607) (iv_mul (l := 0) (h := 4599) (iv_or 9 (l := 0) (h := 511) hx2 (iv_shl1 (l := 1) (h := 256) (iv_lit (l := 1) (h := 1) (by decide)) (iv_lta (l := 0) (h := 8) (r_nle c1) hx6 (iv_lit (l := 9) (h := 9) (by decide)) (by decide)) (by decide)) (by decide)) (iv_lit (l := 9) (h := 9) (by decide)) (by decide)) (iv_lta (l := 0) (h := 8) (r_nle c1) hx6 (iv_lit (l := 9) (h := 9) (by decide)) (by decide)) (by decide)) (by decide), ?_⟩
                intro w8 ew8
                have hw8 := iv_eq ew8 (iv_min (l := (-2147483648)) (h := 1000) (iv_ltb (l := (-2147483647)) (h := 1000) (r_nle c7) (iv_top w3) hx5 (by decide)) (iv_max (l := (-2147483648)) (h := 2147483647) (iv_lta (l := (-2147483648)) (h := 999) (r_nle c7) (iv_top w3) hx5 (by decide)) (iv_top _) (by decide)) (by decide))
                exact s_wk_X5_stepOn_6_79 hx2 hx3 hx4 hw8 (iv_lta (l := 0) (h := 8) (r_nle c1) hx6 (iv_lit (l := 9) (h := 9) (by decide)) (by decide)) x6.toInt (Int.le_refl _) (fun u0 u1 hq g0 g1 => ih u0 u1 (ms_up hm hq) g0 g1) hpost
  exact loop _ _ _ (ms_init_up _ _) hx5 hx6
set_option maxRecDepth 20000 in
theorem s_wk_X5_stepOn_6_0 {a_gaps : Nat → Int32} {z_tab : Nat → Int32} {x2 : Int32} {x3 : Int32} {x4 : Int32} {post : Int32 → Prop} (hx2 : iv 1 511 x2) (hx3 : iv 0 511 x3) (hx4 : iv 0 8 x4) (hpost : ∀ (r : Int32), iv (-2147483648) 1000 r → post r) : q_wk_X5_stepOn_6_0 a_gaps z_tab x2 x3 x4 post := by
  exact s_wk_X5_stepOn_6_8 hx2 hx3 hx4 (iv_w (iv_lit (l := 1000) (h := 1000) (by decide)) (by decide)) (iv_w (iv_lit (l := 0) (h := 0) (by decide)) (by decide)) hpost
-- wk_X5_leastStep_3
set_option maxRecDepth 20000 in
theorem s_wk_X5_leastStep_3_113 {a_gaps : Nat → Int32} {a_behind : Nat → Int32} {cf_voices : Int32} {cf_step : Int32} {ca_parts : Nat → Int32} {ca_heights : Nat → Int32} {z_tab : Nat → Int32} {x4 : Int32} {x5 : Int32} {post : Int32 → (Nat → Int32) → (Nat → Int32) → (Nat → Int32) → Prop} (k_a_behind : ∀ j, iv 0 511 (a_behind j)) (k_cf_voices : iv 1 9 cf_voices) (k_cf_step : iv 0 9 cf_step) (k_ca_parts : ∀ j, iv 0 3 (ca_parts j)) (k_ca_heights : ∀ j, iv 0 9 (ca_heights j)) (hx4 : iv (-2147483648) 1000 x4) (hx5 : iv 0 9 x5) (hpost : ∀ (r : Int32) (a_gaps : Nat → Int32) (a_behind : Nat → Int32) (z_tab : Nat → Int32), iv (-2147483648) 999 r → (∀ j, iv 0 511 (a_behind j)) → post r a_gaps a_behind z_tab) : q_wk_X5_leastStep_3_113 a_gaps a_behind cf_voices cf_step ca_parts ca_heights z_tab x4 x5 post := by
  intro P hP
  have loop : ∀ (n : Nat) (x4 : Int32) (x5 : Int32), (9 - x5.toInt < (n : Int)) → (iv (-2147483648) 1000 x4) → (iv 0 9 x5) → P x4 x5 := by
    intro n
    induction n with
    | zero => intro x4 x5 hm hx4 hx5; exact (ms0_up hm hx5).elim
    | succ n ih =>
      intro x4 x5 hm hx4 hx5
      apply hP
      refine ⟨fun c1 => ?_, fun c1 => ?_⟩
      · skip
        refine ⟨fun c2 => ?_, fun c2 => ?_⟩
        · skip
          exact hpost _ _ _ _ (iv_w (iv_lit (l := (-1)) (h := (-1)) (by decide)) (by decide)) k_a_behind
        · skip
          exact hpost _ _ _ _ (iv_lta (l := (-2147483648)) (h := 999) (r_nle c2) hx4 (iv_lit (l := 1000) (h := 1000) (by decide)) (by decide)) k_a_behind
      · skip
        refine ⟨iv_in (iv_add (l := 9) (h := 2312) (iv_mul (l := 9) (h := 2304) (iv_shl1 (l := 1) (h := 256) (iv_lit (l := 1) (h := 1) (by decide)) (iv_lta (l := 0) (h := 8) (r_nle c1) hx5 k_cf_voices (by decide)) (by decide)) (iv_lit (l := 9) (h := 9) (by decide)) (by decide)) (iv_lta (l := 0) (h := 8) (r_nle c1) hx5 k_cf_voices (by decide)) (by decide)) (by decide), ?_⟩
        intro w3 ew3
        have hw3 := iv_eq ew3 (iv_min (l := (-2147483648)) (h := 1000) hx4 (iv_top _) (by decide))
        intro w4 ew4
        have hw4 := iv_eq ew4 (iv_add (l := 1) (h := 9) (iv_lta (l := 0) (h := 8) (r_nle c1) hx5 k_cf_voices (by decide)) (iv_lit (l := 1) (h := 1) (by decide)) (by decide))
        exact ih _ _ (ms_up hm (inc_lt ew4 (iv_lta (l := 0) (h := 8) (r_nle c1) hx5 k_cf_voices (by decide)) (by decide))) hw3 (iv_w hw4 (by decide))
  exact loop _ _ _ (ms_init_up _ _) hx4 hx5
set_option maxRecDepth 20000 in
theorem s_wk_X5_leastStep_3_93 {P31 : Int32 → (Nat → Int32) → Prop} {P39 : Int32 → (Nat → Int32) → Prop} {a_gaps : Nat → Int32} {a_behind : Nat → Int32} {cf_voices : Int32} {cf_step : Int32} {ca_parts : Nat → Int32} {ca_heights : Nat → Int32} {z_tab : Nat → Int32} {x3 : Int32} {x4 : Int32} {x5 : Int32} {post : Int32 → (Nat → Int32) → (Nat → Int32) → (Nat → Int32) → Prop} (k_a_behind : ∀ j, iv 0 511 (a_behind j)) (k_cf_voices : iv 1 9 cf_voices) (k_cf_step : iv 0 9 cf_step) (k_ca_parts : ∀ j, iv 0 3 (ca_parts j)) (k_ca_heights : ∀ j, iv 0 9 (ca_heights j)) (hx3 : iv 0 511 x3) (hx4 : iv 1 511 x4) (hx5 : iv 0 8 x5) (m31 : Int) (hm31 : x4.toInt ≤ m31) (hP31 : ∀ (x4 : Int32) (z_tab : Nat → Int32), x4.toInt < m31 → iv 0 511 x4 → P31 x4 z_tab) (m39 : Int) (hm39 : m39 ≤ x5.toInt) (hP39 : ∀ (x5 : Int32) (z_tab : Nat → Int32), m39 < x5.toInt → iv 0 9 x5 → P39 x5 z_tab) (hpost : ∀ (r : Int32) (a_gaps : Nat → Int32) (a_behind : Nat → Int32) (z_tab : Nat → Int32), iv (-2147483648) 999 r → (∀ j, iv 0 511 (a_behind j)) → post r a_gaps a_behind z_tab) : q_wk_X5_leastStep_3_93 P31 P39 a_gaps a_behind cf_voices cf_step ca_parts ca_heights z_tab x3 x4 x5 post := by
  intro w1 ew1
  have hw1 := iv_eq ew1 (iv_add (l := 1) (h := 9) hx5 (iv_lit (l := 1) (h := 1) (by decide)) (by decide))
  exact hP39 _ _ (ml_up hm39 (inc_lt ew1 hx5 (by decide))) (iv_w hw1 (by decide))
set_option maxRecDepth 20000 in
theorem s_wk_X5_leastStep_3_92 {P31 : Int32 → (Nat → Int32) → Prop} {P39 : Int32 → (Nat → Int32) → Prop} {a_gaps : Nat → Int32} {a_behind : Nat → Int32} {cf_voices : Int32} {cf_step : Int32} {ca_parts : Nat → Int32} {ca_heights : Nat → Int32} {z_tab : Nat → Int32} {x3 : Int32} {x4 : Int32} {x5 : Int32} {y0 : Int32} {y1 : Int32} {post : Int32 → (Nat → Int32) → (Nat → Int32) → (Nat → Int32) → Prop} (k_a_behind : ∀ j, iv 0 511 (a_behind j)) (k_cf_voices : iv 1 9 cf_voices) (k_cf_step : iv 0 9 cf_step) (k_ca_parts : ∀ j, iv 0 3 (ca_parts j)) (k_ca_heights : ∀ j, iv 0 9 (ca_heights j)) (hx3 : iv 0 511 x3) (hx4 : iv 1 511 x4) (hx5 : iv 0 8 x5) (hy0 : iv 9 4607 y0) (hy1 : iv (-2147483648) 1000 y1) (m31 : Int) (hm31 : x4.toInt ≤ m31) (hP31 : ∀ (x4 : Int32) (z_tab : Nat → Int32), x4.toInt < m31 → iv 0 511 x4 → P31 x4 z_tab) (m39 : Int) (hm39 : m39 ≤ x5.toInt) (hP39 : ∀ (x5 : Int32) (z_tab : Nat → Int32), m39 < x5.toInt → iv 0 9 x5 → P39 x5 z_tab) (hpost : ∀ (r : Int32) (a_gaps : Nat → Int32) (a_behind : Nat → Int32) (z_tab : Nat → Int32), iv (-2147483648) 999 r → (∀ j, iv 0 511 (a_behind j)) → post r a_gaps a_behind z_tab) : q_wk_X5_leastStep_3_92 P31 P39 a_gaps a_behind cf_voices cf_step ca_parts ca_heights z_tab x3 x4 x5 y0 y1 post := by
  refine ⟨iv_in hy0 (by decide), ?_⟩
  intro a1 ea1
  exact s_wk_X5_leastStep_3_93 k_a_behind k_cf_voices k_cf_step k_ca_parts k_ca_heights hx3 hx4 hx5 m31 hm31 hP31 m39 hm39 hP39 hpost
set_option maxRecDepth 20000 in
theorem s_wk_X5_leastStep_3_39 {P31 : Int32 → (Nat → Int32) → Prop} {a_gaps : Nat → Int32} {a_behind : Nat → Int32} {cf_voices : Int32} {cf_step : Int32} {ca_parts : Nat → Int32} {ca_heights : Nat → Int32} {z_tab : Nat → Int32} {x3 : Int32} {x4 : Int32} {x5 : Int32} {post : Int32 → (Nat → Int32) → (Nat → Int32) → (Nat → Int32) → Prop} (k_a_behind : ∀ j, iv 0 511 (a_behind j)) (k_cf_voices : iv 1 9 cf_voices) (k_cf_step : iv 0 9 cf_step) (k_ca_parts : ∀ j, iv 0 3 (ca_parts j)) (k_ca_heights : ∀ j, iv 0 9 (ca_heights j)) (hx3 : iv 0 511 x3) (hx4 : iv 1 511 x4) (hx5 : iv 0 9 x5) (m31 : Int) (hm31 : x4.toInt ≤ m31) (hP31 : ∀ (x4 : Int32) (z_tab : Nat → Int32), x4.toInt < m31 → iv 0 511 x4 → P31 x4 z_tab) (hpost : ∀ (r : Int32) (a_gaps : Nat → Int32) (a_behind : Nat → Int32) (z_tab : Nat → Int32), iv (-2147483648) 999 r → (∀ j, iv 0 511 (a_behind j)) → post r a_gaps a_behind z_tab) : q_wk_X5_leastStep_3_39 P31 a_gaps a_behind cf_voices cf_step ca_parts ca_heights z_tab x3 x4 x5 post := by
  intro P hP
  have loop : ∀ (n : Nat) (x5 : Int32) (z_tab : Nat → Int32), (9 - x5.toInt < (n : Int)) → (iv 0 9 x5) → P x5 z_tab := by
    intro n
    induction n with
    | zero => intro x5 z_tab hm hx5; exact (ms0_up hm hx5).elim
    | succ n ih =>
      intro x5 z_tab hm hx5
      apply hP
      refine ⟨fun c1 => ?_, fun c1 => ?_⟩
      · skip
        intro w2 ew2
        have hw2 := iv_eq ew2 (iv_add (l := 0) (h := 510) hx4 (iv_lit (l := (-1)) (h := (-1)) (by decide)) (by decide))
        exact hP31 _ _ (ml_dn hm31 (dec_lt ew2 hx4 (by decide))) (iv_w hw2 (by decide))
      · skip
        refine ⟨fun c3 => ?_, fun c3 => ?_⟩
        · skip
          refine ⟨fun c4 => ?_, fun c4 => ?_⟩
          · skip
            exact s_wk_X5_leastStep_3_93 k_a_behind k_cf_voices k_cf_step k_ca_parts k_ca_heights hx3 hx4 (iv_lta (l := 0) (h := 8) (r_nle c1) hx5 k_cf_voices (by decide)) m31 hm31 hP31 x5.toInt (Int.le_refl _) (fun u0 u1 hq g0 => ih u0 u1 (ms_up hm hq) g0) hpost
          · skip
            exact (iv_emp (iv_ne (l := 1) (h := 0) c4 (iv_lit (l := 0) (h := 0) (by decide)) (iv_lit (l := 0) (h := 0) (by decide)) (by decide)) (by decide)).elim
        · skip
          refine ⟨fun c5 => ?_, fun c5 => ?_⟩
          · skip
            exact (iv_emp (iv_eqa (l := 1) (h := 0) c5 (iv_lit (l := 1) (h := 1) (by decide)) (iv_lit (l := 0) (h := 0) (by decide)) (by decide)) (by decide)).elim
          · skip
            refine ⟨fun c6 => ?_, fun c6 => ?_⟩
            · skip
              refine s_wk_X5_stepOn_6_0 hx4 (iv_andl (l := 0) (h := 511) hx3 (by decide)) (iv_lta (l := 0) (h := 8) (r_nle c1) hx5 k_cf_voices (by decide)) (fun r7 hr7 => ?_)
              exact s_wk_X5_leastStep_3_92 k_a_behind k_cf_voices k_cf_step k_ca_parts k_ca_heights hx3 hx4 (iv_lta (l := 0) (h := 8) (r_nle c1) hx5 k_cf_voices (by decide)) (iv_add (l := 9) (h := 4607) (iv_mul (l := 9) (h := 4599) hx4 (iv_lit (l := 9) (h := 9) (by decide)) (by decide)) (iv_lta (l := 0) (h := 8) (r_nle c1) hx5 k_cf_voices (by decide)) (by decide)) hr7 m31 hm31 hP31 x5.toInt (Int.le_refl _) (fun u0 u1 hq g0 => ih u0 u1 (ms_up hm hq) g0) hpost
            · skip
              exact s_wk_X5_leastStep_3_92 k_a_behind k_cf_voices k_cf_step k_ca_parts k_ca_heights (iv_w (iv_eqb (l := 1) (h := 511) c6 hx4 hx3 (by decide)) (by decide)) hx4 (iv_lta (l := 0) (h := 8) (r_nle c1) hx5 k_cf_voices (by decide)) (iv_add (l := 9) (h := 4607) (iv_mul (l := 9) (h := 4599) hx4 (iv_lit (l := 9) (h := 9) (by decide)) (by decide)) (iv_lta (l := 0) (h := 8) (r_nle c1) hx5 k_cf_voices (by decide)) (by decide)) (iv_w (iv_lit (l := 0) (h := 0) (by decide)) (by decide)) m31 hm31 hP31 x5.toInt (Int.le_refl _) (fun u0 u1 hq g0 => ih u0 u1 (ms_up hm hq) g0) hpost
  exact loop _ _ _ (ms_init_up _ _) hx5
set_option maxRecDepth 20000 in
theorem s_wk_X5_leastStep_3_31 {a_gaps : Nat → Int32} {a_behind : Nat → Int32} {cf_voices : Int32} {cf_step : Int32} {ca_parts : Nat → Int32} {ca_heights : Nat → Int32} {z_tab : Nat → Int32} {x3 : Int32} {x4 : Int32} {post : Int32 → (Nat → Int32) → (Nat → Int32) → (Nat → Int32) → Prop} (k_a_behind : ∀ j, iv 0 511 (a_behind j)) (k_cf_voices : iv 1 9 cf_voices) (k_cf_step : iv 0 9 cf_step) (k_ca_parts : ∀ j, iv 0 3 (ca_parts j)) (k_ca_heights : ∀ j, iv 0 9 (ca_heights j)) (hx3 : iv 0 511 x3) (hx4 : iv 0 511 x4) (hpost : ∀ (r : Int32) (a_gaps : Nat → Int32) (a_behind : Nat → Int32) (z_tab : Nat → Int32), iv (-2147483648) 999 r → (∀ j, iv 0 511 (a_behind j)) → post r a_gaps a_behind z_tab) : q_wk_X5_leastStep_3_31 a_gaps a_behind cf_voices cf_step ca_parts ca_heights z_tab x3 x4 post := by
  intro P hP
  have loop : ∀ (n : Nat) (x4 : Int32) (z_tab : Nat → Int32), (x4.toInt - 0 < (n : Int)) → (iv 0 511 x4) → P x4 z_tab := by
    intro n
    induction n with
    | zero => intro x4 z_tab hm hx4; exact (ms0_dn hm hx4).elim
    | succ n ih =>
      intro x4 z_tab hm hx4
      apply hP
      refine ⟨fun c1 => ?_, fun c1 => ?_⟩
      · skip
        exact s_wk_X5_leastStep_3_113 k_a_behind k_cf_voices k_cf_step k_ca_parts k_ca_heights (iv_w (iv_lit (l := 1000) (h := 1000) (by decide)) (by decide)) (iv_w (iv_lit (l := 0) (h := 0) (by decide)) (by decide)) hpost
      · skip
        exact s_wk_X5_leastStep_3_39 k_a_behind k_cf_voices k_cf_step k_ca_parts k_ca_heights hx3 (iv_ltb (l := 1) (h := 511) (r_nle c1) (iv_lit (l := 0) (h := 0) (by decide)) hx4 (by decide)) (iv_w (iv_lit (l := 0) (h := 0) (by decide)) (by decide)) x4.toInt (Int.le_refl _) (fun u0 u1 hq g0 => ih u0 u1 (ms_dn hm hq) g0) hpost
  exact loop _ _ _ (ms_init_dn _ _) hx4
set_option maxRecDepth 20000 in
theorem s_wk_X5_leastStep_3_19 {a_gaps : Nat → Int32} {a_behind : Nat → Int32} {cf_voices : Int32} {cf_step : Int32} {ca_parts : Nat → Int32} {ca_heights : Nat → Int32} {z_tab : Nat → Int32} {post : Int32 → (Nat → Int32) → (Nat → Int32) → (Nat → Int32) → Prop} (k_a_behind : ∀ j, iv 0 511 (a_behind j)) (k_cf_voices : iv 1 9 cf_voices) (k_cf_step : iv 0 9 cf_step) (k_ca_parts : ∀ j, iv 0 3 (ca_parts j)) (k_ca_heights : ∀ j, iv 0 9 (ca_heights j)) (hpost : ∀ (r : Int32) (a_gaps : Nat → Int32) (a_behind : Nat → Int32) (z_tab : Nat → Int32), iv (-2147483648) 999 r → (∀ j, iv 0 511 (a_behind j)) → post r a_gaps a_behind z_tab) : q_wk_X5_leastStep_3_19 a_gaps a_behind cf_voices cf_step ca_parts ca_heights z_tab post := by
  intro w1 ew1
  have hw1 := iv_eq ew1 (iv_sub (l := 0) (h := 511) (iv_shl1 (l := 1) (h := 512) (iv_lit (l := 1) (h := 1) (by decide)) k_cf_voices (by decide)) (iv_lit (l := 1) (h := 1) (by decide)) (by decide))
  exact s_wk_X5_leastStep_3_31 k_a_behind k_cf_voices k_cf_step k_ca_parts k_ca_heights hw1 hw1 hpost
set_option maxRecDepth 20000 in
theorem s_wk_X5_leastStep_3_0 {a_gaps : Nat → Int32} {a_behind : Nat → Int32} {cf_voices : Int32} {cf_step : Int32} {ca_parts : Nat → Int32} {ca_heights : Nat → Int32} {z_tab : Nat → Int32} {post : Int32 → (Nat → Int32) → (Nat → Int32) → (Nat → Int32) → Prop} (k_a_behind : ∀ j, iv 0 511 (a_behind j)) (k_cf_voices : iv 0 9 cf_voices) (k_cf_step : iv 0 9 cf_step) (k_ca_parts : ∀ j, iv 0 3 (ca_parts j)) (k_ca_heights : ∀ j, iv 0 9 (ca_heights j)) (hpost : ∀ (r : Int32) (a_gaps : Nat → Int32) (a_behind : Nat → Int32) (z_tab : Nat → Int32), iv (-2147483648) 999 r → (∀ j, iv 0 511 (a_behind j)) → post r a_gaps a_behind z_tab) : q_wk_X5_leastStep_3_0 a_gaps a_behind cf_voices cf_step ca_parts ca_heights z_tab post := by
  refine ⟨fun c1 => ?_, fun c1 => ?_⟩
  · skip
    refine s_wk_X5_measure_3_0 k_a_behind (iv_w (iv_ne (l := 1) (h := 9) c1 k_cf_voices (iv_lit (l := 0) (h := 0) (by decide)) (by decide)) (by decide)) k_cf_step k_ca_parts k_ca_heights (fun o2 o3 k_o3 => ?_)
    refine ⟨fun h => absurd h (by decide), fun h0 => ?_⟩
    exact s_wk_X5_leastStep_3_19 k_o3 (iv_ne (l := 1) (h := 9) c1 k_cf_voices (iv_lit (l := 0) (h := 0) (by decide)) (by decide)) k_cf_step k_ca_parts k_ca_heights hpost
  · skip
    exact hpost _ _ _ _ (iv_w (iv_lit (l := 0) (h := 0) (by decide)) (by decide)) k_a_behind
