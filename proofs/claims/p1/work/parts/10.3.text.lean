theorem sp_fill3 {f : Nat → Int32} {x : Int32} {post : (Nat → Int32) → Prop} (h : ∀ f', post f') : q_wr_J7_fill_53178_3_0 f x post := by
  intro P hP
  have loop : ∀ (n k : Nat) (f : Nat → Int32), n + k = 9 → P (nI k) f := by
    intro n
    induction n with
    | zero =>
      intro k f hk
      apply hP
      exact ⟨fun _ => h f, fun h2 => absurd (nI_le (a := 9) (by omega) (by omega)) h2⟩
    | succ n ih =>
      intro k f hk
      apply hP
      refine ⟨fun h2 => absurd h2 (nI_ge (b := 9) (by omega) (by omega)), fun _ => ⟨vp_in_nI (by omega) (by omega), fun f1 _ v1 e2 => ?_⟩⟩
      rw [e2, nI_1]
      exact ih (k + 1) f1 (by omega)
  exact loop 9 0 f rfl
theorem sp_fill4 {f : Nat → Int32} {x : Int32} {post : (Nat → Int32) → Prop} (h : ∀ f', post f') : q_wr_J7_fill_53178_4_0 f x post := by
  intro P hP
  have loop : ∀ (n k : Nat) (f : Nat → Int32), n + k = 81 → P (nI k) f := by
    intro n
    induction n with
    | zero =>
      intro k f hk
      apply hP
      exact ⟨fun _ => h f, fun h2 => absurd (nI_le (a := 81) (by omega) (by omega)) h2⟩
    | succ n ih =>
      intro k f hk
      apply hP
      refine ⟨fun h2 => absurd h2 (nI_ge (b := 81) (by omega) (by omega)), fun _ => ⟨vp_in_nI (by omega) (by omega), fun f1 _ v1 e2 => ?_⟩⟩
      rw [e2, nI_1]
      exact ih (k + 1) f1 (by omega)
  exact loop 81 0 f rfl
theorem sp_fill9 {f : Nat → Int32} {x : Int32} {post : (Nat → Int32) → Prop} (h : ∀ f', post f') : q_wr_J7_fill_53178_9_0 f x post := by
  intro P hP
  have loop : ∀ (n k : Nat) (f : Nat → Int32), n + k = 6 → P (nI k) f := by
    intro n
    induction n with
    | zero =>
      intro k f hk
      apply hP
      exact ⟨fun _ => h f, fun h2 => absurd (nI_le (a := 6) (by omega) (by omega)) h2⟩
    | succ n ih =>
      intro k f hk
      apply hP
      refine ⟨fun h2 => absurd h2 (nI_ge (b := 6) (by omega) (by omega)), fun _ => ⟨vp_in_nI (by omega) (by omega), fun f1 _ v1 e2 => ?_⟩⟩
      rw [e2, nI_1]
      exact ih (k + 1) f1 (by omega)
  exact loop 6 0 f rfl
theorem sp_clear {f g k : Nat → Int32} {s : Int32} {post : Int32 → Int32 → Int32 → Int32 → Int32 → Int32 → Int32 → (Nat → Int32) → (Nat → Int32) → (Nat → Int32) → Int32 → Int32 → Int32 → Int32 → Int32 → Int32 → Prop} (h : ∀ f' g' k', post 0 0 0 0 0 2 5 f' g' k' 0 0 0 0 0 0) : q_wr_X4_clearDraft_0 0 0 0 0 0 2 5 f g k 0 0 0 0 0 0 s post :=
  ⟨fun _ => ⟨fun _ => ⟨fun _ => h _ _ _, fun _ => h _ _ _⟩, fun _ => h _ _ _⟩, fun _ => sp_fill3 (fun _ => sp_fill4 (fun _ => sp_fill9 (fun _ => h _ _ _)))⟩
theorem sp_advance {t : Nat → Int32} {kd fi : Int32} {post : Int32 → Int32 → Int32 → Prop} (h : post 0 0 0) : q_wr_X4_advance_0 t 0 0 kd fi post := by
  intro P hP
  apply hP
  exact ⟨fun _ => ⟨fun h2 => absurd h2 (by decide), fun _ => h⟩, fun h2 => absurd (by decide) h2⟩
theorem sp_tells {post : Int32 → Prop} (h : post 0) : q_wr_X4_tellsOfMissing_0 0 0 0 0 post := ⟨fun h2 => absurd (by decide) h2, fun _ => ⟨fun _ => h, fun h2 => absurd (by decide) h2⟩⟩
theorem sp_read {f g k t z : Nat → Int32} {a b c d e i s : Int32} {post : Int32 → Int32 → Int32 → Int32 → Int32 → Int32 → Int32 → (Nat → Int32) → (Nat → Int32) → (Nat → Int32) → Int32 → Int32 → Int32 → Int32 → Int32 → Int32 → (Nat → Int32) → Int32 → Int32 → Int32 → Int32 → Int32 → Int32 → Prop} (h : ∀ f' g' k' t', post 0 0 0 0 0 2 5 f' g' k' 0 0 0 0 0 (-1) t' 0 0 0 0 0 0) : q_wr_X4_read_23_0 0 0 0 0 0 2 5 f g k 0 0 0 0 a b t c d e i 0 0 z 0 s post := by
  refine ⟨by decide, by decide, by decide, fun i hi => absurd hi (Nat.not_lt_zero i), fun t1 _ => sp_clear (fun f' g' k' => sp_advance ?_)⟩
  refine ⟨fun _ => ?_, fun h2 => absurd (by decide) h2⟩
  exact ⟨fun h2 => absurd rfl h2, fun _ => ⟨fun _ => h _ _ _ _, fun _ => sp_tells (iz (h _ _ _ _))⟩⟩
theorem sp_cc {a b st : Int32} {p h p' h' : Nat → Int32} {post : Int32 → Int32 → (Nat → Int32) → (Nat → Int32) → Prop} (hh : ∀ x y, post 0 st x y) : q_wcc_X0_copyFrom_3_0 a b p h 0 st p' h' post := ⟨by decide, by decide, by decide, fun _ _ => ⟨by decide, by decide, by decide, fun _ _ => hh _ _⟩⟩
theorem sp_vv {a : Int32} {p h q p' h' q' : Nat → Int32} {post : Int32 → (Nat → Int32) → (Nat → Int32) → (Nat → Int32) → Prop} (hh : ∀ x y z, post 0 x y z) : q_wvv_X1_copyFrom_4_0 a p h q 0 p' h' q' post := ⟨by decide, by decide, by decide, fun _ _ => ⟨by decide, by decide, by decide, fun _ _ => ⟨by decide, by decide, by decide, fun _ _ => hh _ _ _⟩⟩⟩
theorem sp_ss {a : Int32} {p h q p' h' q' : Nat → Int32} {post : Int32 → (Nat → Int32) → (Nat → Int32) → (Nat → Int32) → Prop} (hh : ∀ x y z, post 0 x y z) : q_wss_X6_copyFrom_4_0 a p h q 0 p' h' q' post := ⟨by decide, by decide, by decide, fun _ _ => ⟨by decide, by decide, by decide, fun _ _ => ⟨by decide, by decide, by decide, fun _ _ => hh _ _ _⟩⟩⟩
theorem sp_numberFor0 {s a : Int32} {post : Int32 → Prop} (h1 : (0 ≤ s ∧ s ≤ 3) ∧ a = -1 → post 0) (h0 : ¬ ((0 ≤ s ∧ s ≤ 3) ∧ a = -1) → post (-2)) : q_wx_X10_numberFor_0 (fun _ => 0) s a post := by
  refine ⟨fun h => h0 (fun h2 => absurd h (Int32.not_lt.mpr h2.1.1)), fun h => ⟨fun h2 => ⟨sp_vin (Int32.not_lt.mp h) (sp_lt (a := 3) h2 (by decide)) (by decide), fun v e => ?_⟩, fun h2 => h0 (fun h3 => absurd h3.1.2 (sp_nle (Int32.not_lt.mp h2) (by decide)))⟩⟩
  have e0 : v = 0 := e
  subst e0
  exact ⟨fun hn => ⟨fun _ => h0 (fun h3 => hn h3.2), fun h4 => ⟨fun _ => h0 (fun h3 => hn h3.2), fun h5 => absurd (Int32.not_lt.mp h4) h5⟩⟩, fun hm => ⟨fun h5 => absurd h5 (by decide), fun _ => h1 ⟨⟨Int32.not_lt.mp h, sp_lt h2 (by decide)⟩, hm⟩⟩⟩
theorem sp_see {t : Nat → Int32} {post : Int32 → Prop} (h : post (-1)) : q_m_see_0 t 0 0 post := ⟨fun _ => h, fun h2 => absurd (by decide) h2⟩
theorem sp_token {t : Nat → Int32} {b s v : Int32} {w : Int64} {post : Int32 → Int32 → Int32 → Int32 → Int64 → Prop} (h : post 0 0 0 v 0) : q_m_token_0 t 0 0 b s v w post := by
  intro P hP
  apply hP
  exact sp_see ⟨fun h => absurd h (by decide), fun _ => sp_see ⟨fun _ => sp_see ⟨fun h => absurd h (by decide), fun _ => h⟩, fun h => absurd h (by decide)⟩⟩
theorem sp_lines {b g x : Int32} {w : Int64} {post : Int32 → Int32 → Prop} (h : post 1 g) : q_m_lines_0 b 0 w g x post := oi ⟨fun _ => ⟨rfl, h⟩, fun h => absurd rfl h⟩
theorem sp_readText {tp fa fp told : Nat → Int32} {re be so va wr lf lp fh fs gd x : Int32} {wd : Int64} {post : Int32 → (Nat → Int32) → (Nat → Int32) → Int32 → Int32 → Int32 → Int32 → Int64 → Int32 → (Nat → Int32) → Int32 → Int32 → Int32 → Prop} (ht : ∀ j, told j = 0) (h : ∀ fa fp a b c d w e t f g i, post 1 fa fp a b c d w e t f g i) : q_m_readText_0 tp fa fp re 0 be so va wd wr lf lp told fh fs gd x post := by
  intro P hP
  have k121 : ∀ (re be so va : Int32) (wd : Int64) (told : Nat → Int32) (gd : Int32), q_m_readText_121 tp fa fp re 0 be so va wd wr 0 lp told (-1) (-1) gd 1 post := by
    intro re be so va wd told gd
    refine oi ⟨by unfold vp_in; decide, fun fa1 e1 => io ⟨fun _ => ?_, fun h => absurd (by decide) h⟩⟩
    refine ⟨by unfold vp_in; decide, fun fp1 _ => ⟨fun h => absurd (by rw [e1]; simp [upd]) h, fun _ => h _ _ _ _ _ _ _ _ _ _ _ _⟩⟩
  have fin_ : ∀ told : Nat → Int32, told 0 = 0 → told 1 = 0 → q_m_readText_41 tp fa fp re 0 be so va wd wr lf lp told fh fs gd x post := by
    intro told h0 h1
    refine sp_token (sp_lines (oi ⟨fun _ => k121 _ _ _ _ _ _ _, fun _ => ⟨fun h => absurd rfl h, fun _ => ⟨fun h2 => ?_, fun _ => ⟨fun _ => k121 _ _ _ _ _ _ _, fun h2 => ?_⟩⟩⟩⟩))
    · have h3 : told 0 ≤ -1 := h2
      rw [h0] at h3
      exact absurd h3 (by decide)
    · have h3 : ¬ -1 < told 1 := h2
      rw [h1] at h3
      exact absurd (by decide) h3
  have e5 : Int32.toNatClampNeg 5 = 5 := rfl
  have e6 : Int32.toNatClampNeg 6 = 6 := rfl
  have loop : ∀ (n k : Nat) (told : Nat → Int32), n + k = 132 → (∀ j, told j = 0) → P (nI k) told := by
    intro n
    induction n with
    | zero =>
      intro k told hk ht
      apply hP
      refine ⟨fun _ => ⟨fun _ => fin_ told (ht 0) (ht 1), fun _ t1 e1 t2 e2 => fin_ t2 ?_ ?_⟩, fun h2 => absurd (nI_le (a := 132) (by omega) (by omega)) h2⟩
      · rw [e2, e1, e5, e6]; simp [upd, ht]
      · rw [e2, e1, e5, e6]; simp [upd, ht]
    | succ n ih =>
      intro k told hk ht
      apply hP
      refine ⟨fun h2 => absurd h2 (nI_ge (b := 132) (by omega) (by omega)), fun _ => ⟨vp_in_nI (by omega) (by omega), fun t1 e1 v1 e2 => ?_⟩⟩
      rw [e2, nI_1]
      refine ih (k + 1) t1 (by omega) (fun j => ?_)
      rw [e1]
      unfold upd
      split
      · rfl
      · exact ht j
  exact loop 132 0 told rfl ht
theorem sp_store6 {a told : Nat → Int32} {post : (Nat → Int32) → Prop} (h : ∀ a', post a') : q_m_store_6_0 a told 132 0 post := by
  intro P hP
  have e0 : (132 : Int32) * 0 = nI 0 := by decide
  have loop : ∀ (n k : Nat) (a : Nat → Int32), n + k = 132 → P (nI k) a := by
    intro n
    induction n with
    | zero =>
      intro k a hk
      apply hP
      exact ⟨fun _ => h a, fun h2 => absurd (nI_le (a := 132) (by omega) (by omega)) h2⟩
    | succ n ih =>
      intro k a hk
      apply hP
      refine ⟨fun h2 => absurd h2 (nI_ge (b := 132) (by omega) (by omega)), fun _ => ⟨vp_in_nI (by omega) (by omega), fun v1 _ => ?_⟩⟩
      rw [e0, nI_add]
      refine ⟨vp_in_nI (by omega) (by omega), fun a1 _ v2 e2 => ?_⟩
      rw [e2, nI_1]
      exact ih (k + 1) a1 (by omega)
  exact loop 132 0 a rfl
theorem sp_store7 {a told : Nat → Int32} {post : (Nat → Int32) → Prop} (h : ∀ a', post a') : q_m_store_7_0 a told 121 0 post := by
  intro P hP
  have e0 : (121 : Int32) * 0 = nI 0 := by decide
  have loop : ∀ (n k : Nat) (a : Nat → Int32), n + k = 121 → P (nI k) a := by
    intro n
    induction n with
    | zero =>
      intro k a hk
      apply hP
      exact ⟨fun _ => h a, fun h2 => absurd (nI_le (a := 121) (by omega) (by omega)) h2⟩
    | succ n ih =>
      intro k a hk
      apply hP
      refine ⟨fun h2 => absurd h2 (nI_ge (b := 121) (by omega) (by omega)), fun _ => ⟨vp_in_nI (by omega) (by omega), fun v1 _ => ?_⟩⟩
      rw [e0, nI_add]
      refine ⟨vp_in_nI (by omega) (by omega), fun a1 _ v2 e2 => ?_⟩
      rw [e2, nI_1]
      exact ih (k + 1) a1 (by omega)
  exact loop 121 0 a rfl
theorem sp_store8 {a told : Nat → Int32} {post : (Nat → Int32) → Prop} (h : ∀ a', post a') : q_m_store_8_0 a told 31 0 post := by
  intro P hP
  have e0 : (31 : Int32) * 0 = nI 0 := by decide
  have loop : ∀ (n k : Nat) (a : Nat → Int32), n + k = 31 → P (nI k) a := by
    intro n
    induction n with
    | zero =>
      intro k a hk
      apply hP
      exact ⟨fun _ => h a, fun h2 => absurd (nI_le (a := 31) (by omega) (by omega)) h2⟩
    | succ n ih =>
      intro k a hk
      apply hP
      refine ⟨fun h2 => absurd h2 (nI_ge (b := 31) (by omega) (by omega)), fun _ => ⟨vp_in_nI (by omega) (by omega), fun v1 _ => ?_⟩⟩
      rw [e0, nI_add]
      refine ⟨vp_in_nI (by omega) (by omega), fun a1 _ v2 e2 => ?_⟩
      rw [e2, nI_1]
      exact ih (k + 1) a1 (by omega)
  exact loop 31 0 a rfl
theorem sp_store9 {a told : Nat → Int32} {post : (Nat → Int32) → Prop} (h : ∀ a', post a') : q_m_store_9_0 a told 20 0 post := by
  intro P hP
  have e0 : (20 : Int32) * 0 = nI 0 := by decide
  have loop : ∀ (n k : Nat) (a : Nat → Int32), n + k = 20 → P (nI k) a := by
    intro n
    induction n with
    | zero =>
      intro k a hk
      apply hP
      exact ⟨fun _ => h a, fun h2 => absurd (nI_le (a := 20) (by omega) (by omega)) h2⟩
    | succ n ih =>
      intro k a hk
      apply hP
      refine ⟨fun h2 => absurd h2 (nI_ge (b := 20) (by omega) (by omega)), fun _ => ⟨vp_in_nI (by omega) (by omega), fun v1 _ => ?_⟩⟩
      rw [e0, nI_add]
      refine ⟨vp_in_nI (by omega) (by omega), fun a1 _ v2 e2 => ?_⟩
      rw [e2, nI_1]
      exact ih (k + 1) a1 (by omega)
  exact loop 20 0 a rfl
theorem sp_storeAll {l e s c told : Nat → Int32} {x : Int32} {post : (Nat → Int32) → (Nat → Int32) → (Nat → Int32) → (Nat → Int32) → Prop} (h : ∀ l e s c, post l e s c) : q_m_storeAll_0 l e s c told x 0 post :=
  ⟨fun _ => sp_store9 (fun _ => h _ _ _ _), fun _ => sp_store6 (fun _ => h _ _ _ _), fun _ => sp_store7 (fun _ => h _ _ _ _), fun _ => sp_store8 (fun _ => h _ _ _ _)⟩
theorem sp_mtext {p1 p2 r1 : Int32} (h1 : (0 ≤ p1 ∧ p1 ≤ 3) ∧ p2 = -1 → r1 = 0) (h0 : ¬ ((0 ≤ p1 ∧ p1 ≤ 3) ∧ p2 = -1) → r1 = -2) : q_m_text_0 0 (fun _ => 0) (fun _ => 0) (fun _ => 0) (upd (fun _ => 0) (Int32.toNatClampNeg 0) (-1)) (fun _ => 0) (fun _ => 0) (fun _ => 0) (fun _ => 0) (fun _ => 0) 0 0 0 0 0 0 0 0 0 (fun _ => 0) 0 0 0 p1 p2 (fun r2 Vf_code Va_size Va_fault Va_faultPlace Va_many Va_lands Va_evenings Va_sights Va_choirs Vf_reached Vf_length Vf_begins Vf_sort Vf_value Vf_word Vf_laterFault Va_told Vf_farHut Vf_farSinger Vf_good => r1 = r2 ∧ True) := by
  intro vl el z ez fa ef fp ep
  have hl : vl = 0 := el
  subst hl
  refine sp_in (fun h => iz ⟨h0 (fun h2 => h h2.1), trivial⟩) (fun a1 a2 => oi ⟨fun hn => ?_, fun hm => ?_⟩)
  · exact sp_is0 (sp_vin a1 a2 (by decide)) (zi ⟨h0 (fun h2 => hn h2.2), trivial⟩)
  · refine ⟨sp_vin a1 a2 (by decide), fun _ => ?_, fun h => absurd (show (0 : Int32) = 2 from h) (by decide)⟩
    refine sp_readText (fun _ => rfl) (fun fa fp a b c d w e t f g i => io ⟨fun h => absurd hm h, fun _ => ⟨sp_vin a1 a2 (by decide), ?_⟩⟩)
    have k118 : ∀ y : Int32, q_m_text_118 0 (fun _ => 0) z fa fp (fun _ => 0) (fun _ => 0) (fun _ => 0) (fun _ => 0) (fun _ => 0) a 0 b c d w 0 e 0 t f g i p1 0 p1 0 y (fun r2 Vf_code Va_size Va_fault Va_faultPlace Va_many Va_lands Va_evenings Va_sights Va_choirs Vf_reached Vf_length Vf_begins Vf_sort Vf_value Vf_word Vf_laterFault Va_told Vf_farHut Vf_farSinger Vf_good => r1 = r2 ∧ True) := fun y v1 _ => ⟨sp_vin a1 a2 (by decide), fun m1 _ => sp_storeAll (fun _ _ _ _ => ⟨h1 ⟨⟨a1, a2⟩, hm⟩, trivial⟩)⟩
    exact ⟨sp_vin a1 a2 (by decide), fun h => absurd hm h, fun _ => k118 _⟩
theorem pf_2 (p1 : Int32) (p2 : Int32) : q_wx_X10_text_0 (fun _ => 0) 0 0 (-1) (fun _ => 0) 0 0 0 0 0 2 5 (fun _ => 0) (fun _ => 0) (fun _ => 0) (fun _ => 0) (fun _ => 0) (fun _ => 0) (fun _ => 0) (fun _ => 0) 0 0 0 0 0 2 5 (fun _ => 0) (fun _ => 0) (fun _ => 0) (fun _ => 0) (fun _ => 0) (fun _ => 0) (fun _ => 0) (fun _ => 0) 0 (fun _ => 0) (fun _ => 0) (fun _ => 0) 0 (fun _ => 0) (fun _ => 0) (fun _ => 0) 0 (fun _ => 0) (fun _ => 0) (fun _ => 0) 0 (fun _ => 0) (fun _ => 0) (fun _ => 0) 0 0 (fun _ => 0) (fun _ => 0) 0 0 (fun _ => 0) (fun _ => 0) 0 0 0 0 0 2 5 (fun _ => 0) (fun _ => 0) (fun _ => 0) (fun _ => 0) (fun _ => 0) (fun _ => 0) (fun _ => 0) (fun _ => 0) 0 (fun _ => 0) (fun _ => 0) (fun _ => 0) 0 (fun _ => 0) (fun _ => 0) (fun _ => 0) 0 0 (fun _ => 0) (fun _ => 0) 0 (-1) (fun _ => 0) 0 0 0 0 0 0 p1 p2 (fun r1 Utf_length Utf_fault Utf_place Uta_counts Utl0f_huts Utl0f_singers Utl0f_villages Utl0f_dams Utl0f_echoes Utl0f_deep Utl0f_slide Utl0a_heights Utl0a_ladders Utl0a_minutes Utl0a_echoFrom Utl0a_echoTo Utl0a_homes Utl0a_talls Utl0a_known Utl1f_huts Utl1f_singers Utl1f_villages Utl1f_dams Utl1f_echoes Utl1f_deep Utl1f_slide Utl1a_heights Utl1a_ladders Utl1a_minutes Utl1a_echoFrom Utl1a_echoTo Utl1a_homes Utl1a_talls Utl1a_known Utv0f_deeds Utv0a_kinds Utv0a_firsts Utv0a_seconds Utv1f_deeds Utv1a_kinds Utv1a_firsts Utv1a_seconds Uts0f_facts Uts0a_heard Uts0a_huts Uts0a_minutes Uts1f_facts Uts1a_heard Uts1a_huts Uts1a_minutes Utc0f_voices Utc0f_step Utc0a_parts Utc0a_heights Utc1f_voices Utc1f_step Utc1a_parts Utc1a_heights Urlf_huts Urlf_singers Urlf_villages Urlf_dams Urlf_echoes Urlf_deep Urlf_slide Urla_ladders Urla_minutes Urla_known Urvf_deeds Ursf_facts Urcf_voices Urcf_step Urf_fault Urf_faultPlace Ura_tape Urf_length Urf_behind Urf_kind Urf_first Urf_hutsToldOf Urf_singersToldOf => q_m_text_0 0 (fun _ => 0) (fun _ => 0) (fun _ => 0) (upd (fun _ => 0) (Int32.toNatClampNeg 0) (-1)) (fun _ => 0) (fun _ => 0) (fun _ => 0) (fun _ => 0) (fun _ => 0) 0 0 0 0 0 0 0 0 0 (fun _ => 0) 0 0 0 p1 p2 (fun r2 Vf_code Va_size Va_fault Va_faultPlace Va_many Va_lands Va_evenings Va_sights Va_choirs Vf_reached Vf_length Vf_begins Vf_sort Vf_value Vf_word Vf_laterFault Va_told Vf_farHut Vf_farSinger Vf_good => r1 = r2 ∧ True)) := by
  refine sp_numberFor0 (fun h => ?_) (fun h => ⟨fun h2 => absurd rfl h2, fun _ => sp_mtext (fun h2 => absurd h2 h) (fun _ => rfl)⟩)
  refine ⟨fun _ => sp_read (fun f g k t => iz ?_), fun h => absurd h (by decide)⟩
  have mm := sp_mtext (p1 := p1) (p2 := p2) (r1 := 0) (fun _ => rfl) (fun h2 => absurd h h2)
  have v2 : vp_in 0 2 := by unfold vp_in; decide
  refine ⟨fun _ => ⟨fun _ => ⟨fun _ => ⟨v2, iz (sp_cc fun x y => ?_)⟩, fun _ => ⟨v2, iz (sp_ss fun x y z => ?_)⟩⟩, fun _ => ⟨v2, iz (sp_vv fun x y z => ?_)⟩⟩, fun _ => ⟨v2, iz (fun _ _ _ _ _ _ _ _ _ _ _ _ _ _ _ _ => ?_)⟩⟩
  · exact ⟨sp_vin h.1.1 h.1.2 (by decide), fun _ _ => ⟨sp_vin h.1.1 h.1.2 (by decide), fun _ _ => mm⟩⟩
  · exact ⟨sp_vin h.1.1 h.1.2 (by decide), fun _ _ => ⟨sp_vin h.1.1 h.1.2 (by decide), fun _ _ => mm⟩⟩
  · exact ⟨sp_vin h.1.1 h.1.2 (by decide), fun _ _ => ⟨sp_vin h.1.1 h.1.2 (by decide), fun _ _ => mm⟩⟩
  · exact ⟨sp_vin h.1.1 h.1.2 (by decide), fun _ _ => ⟨sp_vin h.1.1 h.1.2 (by decide), fun _ _ => mm⟩⟩
theorem sp_row2 {a : Nat → Int32} {j : Nat} {post : (Nat → Int32) → Prop} (hj : j ≤ 3) (h : ∀ a', post a') : q_m_copyRow_2_0 a 1 0 (nI j) post := by
  intro P hP
  have e0 : (1 : Int32) * 0 = nI 0 := by decide
  have e1 : (1 : Int32) * nI j = nI (1 * j) := pk_mul 1 j
  have loop : ∀ (n k : Nat) (a : Nat → Int32), n + k = 1 → P (nI k) a := by
    intro n
    induction n with
    | zero =>
      intro k a hk
      apply hP
      exact ⟨fun _ => h a, fun h2 => absurd (nI_le (a := 1) (by omega) (by omega)) h2⟩
    | succ n ih =>
      intro k a hk
      apply hP
      refine ⟨fun h2 => absurd h2 (nI_ge (b := 1) (by omega) (by omega)), fun _ => ?_⟩
      rw [e0, e1, nI_add, nI_add]
      refine ⟨vp_in_nI (by omega) (by omega), fun v1 _ => ⟨vp_in_nI (by omega) (by omega), fun a1 _ v2 e2 => ?_⟩⟩
      rw [e2, nI_1]
      exact ih (k + 1) a1 (by omega)
  exact loop 1 0 a rfl
theorem sp_row3 {a : Nat → Int32} {j : Nat} {post : (Nat → Int32) → Prop} (hj : j ≤ 3) (h : ∀ a', post a') : q_m_copyRow_3_0 a 1 0 (nI j) post := by
  intro P hP
  have e0 : (1 : Int32) * 0 = nI 0 := by decide
  have e1 : (1 : Int32) * nI j = nI (1 * j) := pk_mul 1 j
  have loop : ∀ (n k : Nat) (a : Nat → Int32), n + k = 1 → P (nI k) a := by
    intro n
    induction n with
    | zero =>
      intro k a hk
      apply hP
      exact ⟨fun _ => h a, fun h2 => absurd (nI_le (a := 1) (by omega) (by omega)) h2⟩
    | succ n ih =>
      intro k a hk
      apply hP
      refine ⟨fun h2 => absurd h2 (nI_ge (b := 1) (by omega) (by omega)), fun _ => ?_⟩
      rw [e0, e1, nI_add, nI_add]
      refine ⟨vp_in_nI (by omega) (by omega), fun v1 _ => ⟨vp_in_nI (by omega) (by omega), fun a1 _ v2 e2 => ?_⟩⟩
      rw [e2, nI_1]
      exact ih (k + 1) a1 (by omega)
  exact loop 1 0 a rfl
theorem sp_row4 {a : Nat → Int32} {j : Nat} {post : (Nat → Int32) → Prop} (hj : j ≤ 3) (h : ∀ a', post a') : q_m_copyRow_4_0 a 1 0 (nI j) post := by
  intro P hP
  have e0 : (1 : Int32) * 0 = nI 0 := by decide
  have e1 : (1 : Int32) * nI j = nI (1 * j) := pk_mul 1 j
  have loop : ∀ (n k : Nat) (a : Nat → Int32), n + k = 1 → P (nI k) a := by
    intro n
    induction n with
    | zero =>
      intro k a hk
      apply hP
      exact ⟨fun _ => h a, fun h2 => absurd (nI_le (a := 1) (by omega) (by omega)) h2⟩
    | succ n ih =>
      intro k a hk
      apply hP
      refine ⟨fun h2 => absurd h2 (nI_ge (b := 1) (by omega) (by omega)), fun _ => ?_⟩
      rw [e0, e1, nI_add, nI_add]
      refine ⟨vp_in_nI (by omega) (by omega), fun v1 _ => ⟨vp_in_nI (by omega) (by omega), fun a1 _ v2 e2 => ?_⟩⟩
      rw [e2, nI_1]
      exact ih (k + 1) a1 (by omega)
  exact loop 1 0 a rfl
theorem sp_row5 {a : Nat → Int32} {j : Nat} {post : (Nat → Int32) → Prop} (hj : j ≤ 3) (h : ∀ a', post a') : q_m_copyRow_5_0 a 4 0 (nI j) post := by
  intro P hP
  have e0 : (4 : Int32) * 0 = nI 0 := by decide
  have e1 : (4 : Int32) * nI j = nI (4 * j) := pk_mul 4 j
  have loop : ∀ (n k : Nat) (a : Nat → Int32), n + k = 4 → P (nI k) a := by
    intro n
    induction n with
    | zero =>
      intro k a hk
      apply hP
      exact ⟨fun _ => h a, fun h2 => absurd (nI_le (a := 4) (by omega) (by omega)) h2⟩
    | succ n ih =>
      intro k a hk
      apply hP
      refine ⟨fun h2 => absurd h2 (nI_ge (b := 4) (by omega) (by omega)), fun _ => ?_⟩
      rw [e0, e1, nI_add, nI_add]
      refine ⟨vp_in_nI (by omega) (by omega), fun v1 _ => ⟨vp_in_nI (by omega) (by omega), fun a1 _ v2 e2 => ?_⟩⟩
      rw [e2, nI_1]
      exact ih (k + 1) a1 (by omega)
  exact loop 4 0 a rfl
theorem sp_row6 {a : Nat → Int32} {j : Nat} {post : (Nat → Int32) → Prop} (hj : j ≤ 3) (h : ∀ a', post a') : q_m_copyRow_6_0 a 264 0 (nI j) post := by
  intro P hP
  have e0 : (264 : Int32) * 0 = nI 0 := by decide
  have e1 : (264 : Int32) * nI j = nI (264 * j) := pk_mul 264 j
  have loop : ∀ (n k : Nat) (a : Nat → Int32), n + k = 264 → P (nI k) a := by
    intro n
    induction n with
    | zero =>
      intro k a hk
      apply hP
      exact ⟨fun _ => h a, fun h2 => absurd (nI_le (a := 264) (by omega) (by omega)) h2⟩
    | succ n ih =>
      intro k a hk
      apply hP
      refine ⟨fun h2 => absurd h2 (nI_ge (b := 264) (by omega) (by omega)), fun _ => ?_⟩
      rw [e0, e1, nI_add, nI_add]
      refine ⟨vp_in_nI (by omega) (by omega), fun v1 _ => ⟨vp_in_nI (by omega) (by omega), fun a1 _ v2 e2 => ?_⟩⟩
      rw [e2, nI_1]
      exact ih (k + 1) a1 (by omega)
  exact loop 264 0 a rfl
theorem sp_row7 {a : Nat → Int32} {j : Nat} {post : (Nat → Int32) → Prop} (hj : j ≤ 3) (h : ∀ a', post a') : q_m_copyRow_7_0 a 242 0 (nI j) post := by
  intro P hP
  have e0 : (242 : Int32) * 0 = nI 0 := by decide
  have e1 : (242 : Int32) * nI j = nI (242 * j) := pk_mul 242 j
  have loop : ∀ (n k : Nat) (a : Nat → Int32), n + k = 242 → P (nI k) a := by
    intro n
    induction n with
    | zero =>
      intro k a hk
      apply hP
      exact ⟨fun _ => h a, fun h2 => absurd (nI_le (a := 242) (by omega) (by omega)) h2⟩
    | succ n ih =>
      intro k a hk
      apply hP
      refine ⟨fun h2 => absurd h2 (nI_ge (b := 242) (by omega) (by omega)), fun _ => ?_⟩
      rw [e0, e1, nI_add, nI_add]
      refine ⟨vp_in_nI (by omega) (by omega), fun v1 _ => ⟨vp_in_nI (by omega) (by omega), fun a1 _ v2 e2 => ?_⟩⟩
      rw [e2, nI_1]
      exact ih (k + 1) a1 (by omega)
  exact loop 242 0 a rfl
theorem sp_row8 {a : Nat → Int32} {j : Nat} {post : (Nat → Int32) → Prop} (hj : j ≤ 3) (h : ∀ a', post a') : q_m_copyRow_8_0 a 62 0 (nI j) post := by
  intro P hP
  have e0 : (62 : Int32) * 0 = nI 0 := by decide
  have e1 : (62 : Int32) * nI j = nI (62 * j) := pk_mul 62 j
  have loop : ∀ (n k : Nat) (a : Nat → Int32), n + k = 62 → P (nI k) a := by
    intro n
    induction n with
    | zero =>
      intro k a hk
      apply hP
      exact ⟨fun _ => h a, fun h2 => absurd (nI_le (a := 62) (by omega) (by omega)) h2⟩
    | succ n ih =>
      intro k a hk
      apply hP
      refine ⟨fun h2 => absurd h2 (nI_ge (b := 62) (by omega) (by omega)), fun _ => ?_⟩
      rw [e0, e1, nI_add, nI_add]
      refine ⟨vp_in_nI (by omega) (by omega), fun v1 _ => ⟨vp_in_nI (by omega) (by omega), fun a1 _ v2 e2 => ?_⟩⟩
      rw [e2, nI_1]
      exact ih (k + 1) a1 (by omega)
  exact loop 62 0 a rfl
theorem sp_row9 {a : Nat → Int32} {j : Nat} {post : (Nat → Int32) → Prop} (hj : j ≤ 3) (h : ∀ a', post a') : q_m_copyRow_9_0 a 40 0 (nI j) post := by
  intro P hP
  have e0 : (40 : Int32) * 0 = nI 0 := by decide
  have e1 : (40 : Int32) * nI j = nI (40 * j) := pk_mul 40 j
  have loop : ∀ (n k : Nat) (a : Nat → Int32), n + k = 40 → P (nI k) a := by
    intro n
    induction n with
    | zero =>
      intro k a hk
      apply hP
      exact ⟨fun _ => h a, fun h2 => absurd (nI_le (a := 40) (by omega) (by omega)) h2⟩
    | succ n ih =>
      intro k a hk
      apply hP
      refine ⟨fun h2 => absurd h2 (nI_ge (b := 40) (by omega) (by omega)), fun _ => ?_⟩
      rw [e0, e1, nI_add, nI_add]
      refine ⟨vp_in_nI (by omega) (by omega), fun v1 _ => ⟨vp_in_nI (by omega) (by omega), fun a1 _ v2 e2 => ?_⟩⟩
      rw [e2, nI_1]
      exact ih (k + 1) a1 (by omega)
  exact loop 40 0 a rfl
theorem sp_copyAll {t a b c d e f g i : Nat → Int32} {j : Nat} {post : (Nat → Int32) → (Nat → Int32) → (Nat → Int32) → (Nat → Int32) → (Nat → Int32) → (Nat → Int32) → (Nat → Int32) → (Nat → Int32) → (Nat → Int32) → Prop} (hj : j ≤ 3) (h : ∀ t a b c d e f g i, post t a b c d e f g i) : q_m_copyAll_0 t a b c d e f g i 0 (nI j) post := by
  intro P hP
  have e0 : (600 : Int32) * 0 = nI 0 := by decide
  have e1 : (600 : Int32) * nI j = nI (600 * j) := pk_mul 600 j
  have loop : ∀ (n k : Nat) (t : Nat → Int32), n + k = 600 → P (nI k) t := by
    intro n
    induction n with
    | zero =>
      intro k t hk
      apply hP
      refine ⟨fun _ => ?_, fun h2 => absurd (nI_le (a := 600) (by omega) (by omega)) h2⟩
      exact sp_row2 hj fun _ => sp_row3 hj fun _ => sp_row4 hj fun _ => sp_row5 hj fun _ => sp_row6 hj fun _ => sp_row7 hj fun _ => sp_row8 hj fun _ => sp_row9 hj fun _ => h _ _ _ _ _ _ _ _ _
    | succ n ih =>
      intro k t hk
      apply hP
      refine ⟨fun h2 => absurd h2 (nI_ge (b := 600) (by omega) (by omega)), fun _ => ?_⟩
      rw [e0, e1, nI_add, nI_add]
      refine ⟨vp_in_nI (by omega) (by omega), fun v1 _ => ⟨vp_in_nI (by omega) (by omega), fun t1 _ v2 e2 => ?_⟩⟩
      rw [e2, nI_1]
      exact ih (k + 1) t1 (by omega)
  exact loop 600 0 t rfl
theorem pm_image {p1 r1 : Int32} (h1 : 0 ≤ p1 → p1 ≤ 2 → r1 = 1) (h0 : ¬ (0 ≤ p1 ∧ p1 ≤ 2) → r1 = 0) : q_m_image_0 0 (fun _ => 0) (fun _ => 0) (fun _ => 0) (upd (fun _ => 0) (Int32.toNatClampNeg 0) (-1)) (fun _ => 0) (fun _ => 0) (fun _ => 0) (fun _ => 0) (fun _ => 0) (fun _ => 0) p1 (fun r2 Vf_code Va_tape Va_size Va_fault Va_faultPlace Va_many Va_lands Va_evenings Va_sights Va_choirs Va_kept => r1 = r2 ∧ True) := by
  refine sp_in (fun h => zi ⟨h0 h, trivial⟩) (fun a1 a2 => io ?_)
  obtain ⟨j, hj, rfl⟩ := nI_of2 (M := 2) (n := 2) (by decide) (Int32.not_lt.mpr a1) a2
  rw [nI_1]
  exact sp_copyAll (by omega) (fun _ _ _ _ _ _ _ _ _ => ⟨vp_in_nI (by omega) (by omega), fun _ _ => ⟨h1 a1 a2, trivial⟩⟩)
def FT_post : (Nat → Int32) → (Int32) → (Int32) → (Int32) → (Nat → Int32) → (Int32) → (Int32) → (Int32) → (Int32) → (Int32) → (Int32) → (Int32) → (Nat → Int32) → (Nat → Int32) → (Nat → Int32) → (Nat → Int32) → (Nat → Int32) → (Nat → Int32) → (Nat → Int32) → (Nat → Int32) → (Int32) → (Int32) → (Int32) → (Int32) → (Int32) → (Int32) → (Int32) → (Nat → Int32) → (Nat → Int32) → (Nat → Int32) → (Nat → Int32) → (Nat → Int32) → (Nat → Int32) → (Nat → Int32) → (Nat → Int32) → (Int32) → (Nat → Int32) → (Nat → Int32) → (Nat → Int32) → (Int32) → (Nat → Int32) → (Nat → Int32) → (Nat → Int32) → (Int32) → (Nat → Int32) → (Nat → Int32) → (Nat → Int32) → (Int32) → (Nat → Int32) → (Nat → Int32) → (Nat → Int32) → (Int32) → (Int32) → (Nat → Int32) → (Nat → Int32) → (Int32) → (Int32) → (Nat → Int32) → (Nat → Int32) → Prop := fun _ _ _ _ _ _ _ _ _ _ _ _ _ _ _ _ _ _ _ _ _ _ _ _ _ _ _ _ _ _ _ _ _ _ _ _ _ _ _ _ _ _ _ _ _ _ _ _ _ _ _ _ _ _ _ _ _ _ _ => True
theorem pt_copy : q_wtt_X9_copyFrom_47_0 (fun _ => 0) 0 0 (-1) (fun _ => 0) 0 0 0 0 0 2 5 (fun _ => 0) (fun _ => 0) (fun _ => 0) (fun _ => 0) (fun _ => 0) (fun _ => 0) (fun _ => 0) (fun _ => 0) 0 0 0 0 0 2 5 (fun _ => 0) (fun _ => 0) (fun _ => 0) (fun _ => 0) (fun _ => 0) (fun _ => 0) (fun _ => 0) (fun _ => 0) 0 (fun _ => 0) (fun _ => 0) (fun _ => 0) 0 (fun _ => 0) (fun _ => 0) (fun _ => 0) 0 (fun _ => 0) (fun _ => 0) (fun _ => 0) 0 (fun _ => 0) (fun _ => 0) (fun _ => 0) 0 0 (fun _ => 0) (fun _ => 0) 0 0 (fun _ => 0) (fun _ => 0) (fun _ => 0) 0 0 (-1) (fun _ => 0) 0 0 0 0 0 2 5 (fun _ => 0) (fun _ => 0) (fun _ => 0) (fun _ => 0) (fun _ => 0) (fun _ => 0) (fun _ => 0) (fun _ => 0) 0 0 0 0 0 2 5 (fun _ => 0) (fun _ => 0) (fun _ => 0) (fun _ => 0) (fun _ => 0) (fun _ => 0) (fun _ => 0) (fun _ => 0) 0 (fun _ => 0) (fun _ => 0) (fun _ => 0) 0 (fun _ => 0) (fun _ => 0) (fun _ => 0) 0 (fun _ => 0) (fun _ => 0) (fun _ => 0) 0 (fun _ => 0) (fun _ => 0) (fun _ => 0) 0 0 (fun _ => 0) (fun _ => 0) 0 0 (fun _ => 0) (fun _ => 0) FT_post := by
  refine ⟨by decide, by decide, by decide, fun i hi => absurd hi (Nat.not_lt_zero i), fun t1 _ c1 _ => ?_⟩
  intro P hP
  have s2 : ∀ (l0f_huts : Int32) (l0f_singers : Int32) (l0f_villages : Int32) (l0f_dams : Int32) (l0f_echoes : Int32) (l0f_deep : Int32) (l0f_slide : Int32) (l0a_heights : Nat → Int32) (l0a_ladders : Nat → Int32) (l0a_minutes : Nat → Int32) (l0a_echoFrom : Nat → Int32) (l0a_echoTo : Nat → Int32) (l0a_homes : Nat → Int32) (l0a_talls : Nat → Int32) (l0a_known : Nat → Int32) (l1f_huts : Int32) (l1f_singers : Int32) (l1f_villages : Int32) (l1f_dams : Int32) (l1f_echoes : Int32) (l1f_deep : Int32) (l1f_slide : Int32) (l1a_heights : Nat → Int32) (l1a_ladders : Nat → Int32) (l1a_minutes : Nat → Int32) (l1a_echoFrom : Nat → Int32) (l1a_echoTo : Nat → Int32) (l1a_homes : Nat → Int32) (l1a_talls : Nat → Int32) (l1a_known : Nat → Int32) (v0f_deeds : Int32) (v0a_kinds : Nat → Int32) (v0a_firsts : Nat → Int32) (v0a_seconds : Nat → Int32) (v1f_deeds : Int32) (v1a_kinds : Nat → Int32) (v1a_firsts : Nat → Int32) (v1a_seconds : Nat → Int32) (s0f_facts : Int32) (s0a_heard : Nat → Int32) (s0a_huts : Nat → Int32) (s0a_minutes : Nat → Int32) (s1f_facts : Int32) (s1a_heard : Nat → Int32) (s1a_huts : Nat → Int32) (s1a_minutes : Nat → Int32) (c0f_voices : Int32) (c0f_step : Int32) (c0a_parts : Nat → Int32) (c0a_heights : Nat → Int32) (c1f_voices : Int32) (c1f_step : Int32) (c1a_parts : Nat → Int32) (c1a_heights : Nat → Int32), P 2 l0f_huts l0f_singers l0f_villages l0f_dams l0f_echoes l0f_deep l0f_slide l0a_heights l0a_ladders l0a_minutes l0a_echoFrom l0a_echoTo l0a_homes l0a_talls l0a_known l1f_huts l1f_singers l1f_villages l1f_dams l1f_echoes l1f_deep l1f_slide l1a_heights l1a_ladders l1a_minutes l1a_echoFrom l1a_echoTo l1a_homes l1a_talls l1a_known v0f_deeds v0a_kinds v0a_firsts v0a_seconds v1f_deeds v1a_kinds v1a_firsts v1a_seconds s0f_facts s0a_heard s0a_huts s0a_minutes s1f_facts s1a_heard s1a_huts s1a_minutes c0f_voices c0f_step c0a_parts c0a_heights c1f_voices c1f_step c1a_parts c1a_heights := by
    intro l0f_huts l0f_singers l0f_villages l0f_dams l0f_echoes l0f_deep l0f_slide l0a_heights l0a_ladders l0a_minutes l0a_echoFrom l0a_echoTo l0a_homes l0a_talls l0a_known l1f_huts l1f_singers l1f_villages l1f_dams l1f_echoes l1f_deep l1f_slide l1a_heights l1a_ladders l1a_minutes l1a_echoFrom l1a_echoTo l1a_homes l1a_talls l1a_known v0f_deeds v0a_kinds v0a_firsts v0a_seconds v1f_deeds v1a_kinds v1a_firsts v1a_seconds s0f_facts s0a_heard s0a_huts s0a_minutes s1f_facts s1a_heard s1a_huts s1a_minutes c0f_voices c0f_step c0a_parts c0a_heights c1f_voices c1f_step c1a_parts c1a_heights
    apply hP
    exact ⟨fun _ => trivial, fun h => absurd (by decide) h⟩
  have s1 : ∀ (l0f_huts : Int32) (l0f_singers : Int32) (l0f_villages : Int32) (l0f_dams : Int32) (l0f_echoes : Int32) (l0f_deep : Int32) (l0f_slide : Int32) (l0a_heights : Nat → Int32) (l0a_ladders : Nat → Int32) (l0a_minutes : Nat → Int32) (l0a_echoFrom : Nat → Int32) (l0a_echoTo : Nat → Int32) (l0a_homes : Nat → Int32) (l0a_talls : Nat → Int32) (l0a_known : Nat → Int32) (l1f_huts : Int32) (l1f_singers : Int32) (l1f_villages : Int32) (l1f_dams : Int32) (l1f_echoes : Int32) (l1f_deep : Int32) (l1f_slide : Int32) (l1a_heights : Nat → Int32) (l1a_ladders : Nat → Int32) (l1a_minutes : Nat → Int32) (l1a_echoFrom : Nat → Int32) (l1a_echoTo : Nat → Int32) (l1a_homes : Nat → Int32) (l1a_talls : Nat → Int32) (l1a_known : Nat → Int32) (v0f_deeds : Int32) (v0a_kinds : Nat → Int32) (v0a_firsts : Nat → Int32) (v0a_seconds : Nat → Int32) (v1f_deeds : Int32) (v1a_kinds : Nat → Int32) (v1a_firsts : Nat → Int32) (v1a_seconds : Nat → Int32) (s0f_facts : Int32) (s0a_heard : Nat → Int32) (s0a_huts : Nat → Int32) (s0a_minutes : Nat → Int32) (s1f_facts : Int32) (s1a_heard : Nat → Int32) (s1a_huts : Nat → Int32) (s1a_minutes : Nat → Int32) (c0f_voices : Int32) (c0f_step : Int32) (c0a_parts : Nat → Int32) (c0a_heights : Nat → Int32) (c1f_voices : Int32) (c1f_step : Int32) (c1a_parts : Nat → Int32) (c1a_heights : Nat → Int32), P 1 l0f_huts l0f_singers l0f_villages l0f_dams l0f_echoes l0f_deep l0f_slide l0a_heights l0a_ladders l0a_minutes l0a_echoFrom l0a_echoTo l0a_homes l0a_talls l0a_known l1f_huts l1f_singers l1f_villages l1f_dams l1f_echoes l1f_deep l1f_slide l1a_heights l1a_ladders l1a_minutes l1a_echoFrom l1a_echoTo l1a_homes l1a_talls l1a_known v0f_deeds v0a_kinds v0a_firsts v0a_seconds v1f_deeds v1a_kinds v1a_firsts v1a_seconds s0f_facts s0a_heard s0a_huts s0a_minutes s1f_facts s1a_heard s1a_huts s1a_minutes c0f_voices c0f_step c0a_parts c0a_heights c1f_voices c1f_step c1a_parts c1a_heights := by
    intro l0f_huts l0f_singers l0f_villages l0f_dams l0f_echoes l0f_deep l0f_slide l0a_heights l0a_ladders l0a_minutes l0a_echoFrom l0a_echoTo l0a_homes l0a_talls l0a_known l1f_huts l1f_singers l1f_villages l1f_dams l1f_echoes l1f_deep l1f_slide l1a_heights l1a_ladders l1a_minutes l1a_echoFrom l1a_echoTo l1a_homes l1a_talls l1a_known v0f_deeds v0a_kinds v0a_firsts v0a_seconds v1f_deeds v1a_kinds v1a_firsts v1a_seconds s0f_facts s0a_heard s0a_huts s0a_minutes s1f_facts s1a_heard s1a_huts s1a_minutes c0f_voices c0f_step c0a_parts c0a_heights c1f_voices c1f_step c1a_parts c1a_heights
    apply hP
    refine ⟨fun h => absurd h (by decide), fun _ => ⟨by unfold vp_in; decide, fun h => absurd h (by decide), fun _ => ?_⟩⟩
    exact fun _ _ _ _ _ _ _ _ _ _ _ _ _ _ _ _ => sp_vv fun _ _ _ => sp_ss fun _ _ _ => sp_cc fun _ _ v e => by rw [e]; exact s2 _ _ _ _ _ _ _ _ _ _ _ _ _ _ _ _ _ _ _ _ _ _ _ _ _ _ _ _ _ _ _ _ _ _ _ _ _ _ _ _ _ _ _ _ _ _ _ _ _ _ _ _ _ _
  apply hP
  refine ⟨fun h => absurd h (by decide), fun _ => ⟨by unfold vp_in; decide, fun _ => ?_, fun h => absurd rfl h⟩⟩
  exact fun _ _ _ _ _ _ _ _ _ _ _ _ _ _ _ _ => sp_vv fun _ _ _ => sp_ss fun _ _ _ => sp_cc fun _ _ v e => by rw [e]; exact s1 _ _ _ _ _ _ _ _ _ _ _ _ _ _ _ _ _ _ _ _ _ _ _ _ _ _ _ _ _ _ _ _ _ _ _ _ _ _ _ _ _ _ _ _ _ _ _ _ _ _ _ _ _ _
