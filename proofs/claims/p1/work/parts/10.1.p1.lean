theorem lz {A B C : Prop} (a : A) : ((0 : Nat) = 0 → A) ∧ ((0 : Nat) = 1 → B) ∧ (¬ (0 : Nat) = 0 → ¬ (0 : Nat) = 1 → C) := ⟨fun _ => a, fun h => absurd h (by decide), fun h => absurd rfl h⟩
theorem iz {A B : Prop} (a : A) : ((0 : Int32) = 0 → A) ∧ (¬ (0 : Int32) = 0 → B) := ⟨fun _ => a, fun h => absurd rfl h⟩
theorem zi {A B : Prop} (a : A) : (¬ (0 : Int32) = 0 → B) ∧ ((0 : Int32) = 0 → A) := ⟨fun h => absurd rfl h, fun _ => a⟩
theorem oi {A B : Prop} (b : B) : ((1 : Int32) = 0 → A) ∧ (¬ (1 : Int32) = 0 → B) := ⟨fun h => absurd h (by decide), fun _ => b⟩
theorem io {A B : Prop} (b : B) : (¬ (1 : Int32) = 0 → B) ∧ ((1 : Int32) = 0 → A) := ⟨fun _ => b, fun h => absurd h (by decide)⟩
theorem sp_landAt0 {k : Int32} {post : Nat → Prop} (h : post 0) : q_wx_X10_landAt_0 (fun _ => 0) k post := ⟨fun _ => h, fun h1 => ⟨fun _ => h, fun h2 => absurd (Int32.not_lt.mp h1) h2⟩⟩
theorem sp_eveningAt0 {k : Int32} {post : Nat → Prop} (h : post 0) : q_wx_X10_eveningAt_0 (fun _ => 0) k post := ⟨fun _ => h, fun h1 => ⟨fun _ => h, fun h2 => absurd (Int32.not_lt.mp h1) h2⟩⟩
theorem sp_sightAt0 {k : Int32} {post : Nat → Prop} (h : post 0) : q_wx_X10_sightAt_0 (fun _ => 0) k post := ⟨fun _ => h, fun h1 => ⟨fun _ => h, fun h2 => absurd (Int32.not_lt.mp h1) h2⟩⟩
theorem sp_choirAt0 {k : Int32} {post : Nat → Prop} (h : post 0) : q_wx_X10_choirAt_0 (fun _ => 0) k post := ⟨fun _ => h, fun h1 => ⟨fun _ => h, fun h2 => absurd (Int32.not_lt.mp h1) h2⟩⟩
theorem sp_reach0 {d0 d1 a b n : Int32} {post : Int32 → Prop} (h : post 0) : q_wx_X10_reachState_0 (fun _ => 0) d0 d1 a b n post := sp_landAt0 (lz (sp_eveningAt0 (lz h)))
theorem sp_in {x lo hi : Int32} {post : Int32 → Prop} (h0 : ¬ (lo ≤ x ∧ x ≤ hi) → post 0) (h1 : lo ≤ x → x ≤ hi → post 1) : q_m_in_0 x lo hi post := ⟨fun h => h0 (fun h2 => absurd h (Int32.not_lt.mpr h2.1)), fun h => ⟨fun h2 => h0 (fun h3 => absurd h2 (Int32.not_lt.mpr h3.2)), fun h2 => h1 (Int32.not_lt.mp h) (Int32.not_lt.mp h2)⟩⟩
theorem sp_no {x : Int32} (h1 : 0 ≤ x) (h2 : x ≤ 0 - 1) : False := by
  rw [Int32.le_iff_toInt_le] at h1 h2
  have e1 : (0 : Int32).toInt = 0 := rfl
  have e2 : ((0 : Int32) - 1).toInt = -1 := by decide
  omega
theorem sp_is0 {s k : Int32} {post : Int32 → Prop} (hs : vp_in s 16) (h : post 0) : q_m_is_0 (fun _ => 0) s k post := ⟨hs, sp_in (fun _ => ⟨rfl, h⟩) (fun h1 h2 => (sp_no h1 h2).elim)⟩
theorem sp_hand0 {la k : Int32} {post : Int32 → Int32 → Prop} (h : post 0 la) : q_m_hand_0 (fun _ => 0) la k post := sp_is0 (by unfold vp_in; decide) (zi h)
theorem sp_hasEvening0 {e k : Int32} {post : Int32 → Int32 → Prop} (h : post 0 k) : q_m_hasEvening_0 (fun _ => 0) e k post := sp_is0 (by unfold vp_in; decide) ⟨rfl, h⟩
theorem sp_hasSight0 {e k : Int32} {post : Int32 → Int32 → Prop} (h : post 0 k) : q_m_hasSight_0 (fun _ => 0) e k post := sp_is0 (by unfold vp_in; decide) ⟨rfl, h⟩
theorem sp_hasChoir0 {f : Nat → Int32} {e v k : Int32} {post : Int32 → Int32 → Int32 → Prop} (h : post 0 k v) : q_m_hasChoir_0 (fun _ => 0) f e v k post := sp_is0 (by unfold vp_in; decide) (zi h)
theorem sp_layAll0 {l e a b : Int32} {post : Int32 → Int32 → Int32 → Prop} (h : post 0 l b) : q_m_layAll_0 (fun _ => 0) l e a b post := sp_hasEvening0 (iz h)
theorem sp_vin {x c : Int32} {n : Nat} (h1 : 0 ≤ x) (h2 : x ≤ c) (hc : c.toInt < n) : vp_in x n := by
  rw [Int32.le_iff_toInt_le] at h1 h2
  have e1 : (0 : Int32).toInt = 0 := rfl
  intro h
  rcases h with h | h
  · rw [Int32.lt_iff_toInt_lt] at h; omega
  · have e2 : x.toNatClampNeg = x.toInt.toNat := rfl
    omega
theorem sp_le {x a b : Int32} (h : ¬ b ≤ x) (hb : b.toInt = a.toInt + 1) : x ≤ a := by
  rw [Int32.le_iff_toInt_le] at *
  omega
theorem sp_lt {x a b : Int32} (h : x < b) (hb : b.toInt = a.toInt + 1) : x ≤ a := by
  rw [Int32.le_iff_toInt_le]
  rw [Int32.lt_iff_toInt_lt] at h
  omega
theorem sp_nle {x a b : Int32} (h : b ≤ x) (hb : b.toInt = a.toInt + 1) : ¬ x ≤ a := by
  rw [Int32.le_iff_toInt_le] at *
  omega
/-- four bytes put on the tape -/
theorem sp_put {t : Nat → Int32} {n v : Int32} {post : (Nat → Int32) → Int32 → Prop} (a0 : ¬ 600 ≤ n ∧ vp_in n 600) (a1 : ¬ 600 ≤ n + 1 ∧ vp_in (n + 1) 600) (a2 : ¬ 600 ≤ n + 1 + 1 ∧ vp_in (n + 1 + 1) 600) (a3 : ¬ 600 ≤ n + 1 + 1 + 1 ∧ vp_in (n + 1 + 1 + 1) 600) (h : ∀ t', post t' (n + 1 + 1 + 1 + 1)) : q_wx_X9_put_0 t n v post := by
  intro P hP
  have st : ∀ (x y : Int32) (t : Nat → Int32) (m : Int32), ¬ x < 0 → y = x + -8 → (¬ 600 ≤ m ∧ vp_in m 600) → (∀ t', P y t' (m + 1)) → P x t m := by
    intro x y t m h1 h2 h3 h4
    apply hP
    refine ⟨fun h => absurd h h1, fun _ => ⟨fun h => absurd h h3.1, fun _ => ?_⟩⟩
    intro v1 e1
    refine ⟨h3.2, ?_⟩
    intro t1 e2 v2 e3 v3 e4
    rw [e3, e4, ← h2]
    exact h4 t1
  refine st 24 16 _ _ (by decide) (by decide) a0 fun t1 => ?_
  refine st 16 8 _ _ (by decide) (by decide) a1 fun t2 => ?_
  refine st 8 0 _ _ (by decide) (by decide) a2 fun t3 => ?_
  refine st 0 (-8) _ _ (by decide) (by decide) a3 fun t4 => ?_
  apply hP
  exact ⟨fun _ => h t4, fun h => absurd (by decide) h⟩
theorem sp_four {t z : Nat → Int32} {n v : Int32} {post : (Nat → Int32) → (Nat → Int32) → Prop} (hz : z 0 = n) (a0 : vp_in n 2400) (a1 : vp_in (n + 1) 2400) (a2 : vp_in (n + 1 + 1) 2400) (a3 : vp_in (n + 1 + 1 + 1) 2400) (h : ∀ t' z', z' 0 = n + 1 + 1 + 1 + 1 → post t' z') : q_m_four_0 t z v post := by
  intro P hP
  have e0 : Int32.toNatClampNeg 0 = 0 := rfl
  have st : ∀ (x y : Int32) (t z : Nat → Int32) (m : Int32), ¬ x < 0 → y = x + -8 → z 0 = m → vp_in m 2400 → (∀ t' z', z' 0 = m + 1 → P y t' z') → P x t z := by
    intro x y t z m h1 h2 h3 h4 h5
    apply hP
    refine ⟨fun h => absurd h h1, fun _ => ?_⟩
    intro v1 e1
    refine ⟨by rw [e0, h3]; exact h4, ?_⟩
    intro t1 e2 v2 e3 z1 e4 v3 e5
    rw [e5, ← h2]
    refine h5 t1 z1 ?_
    rw [e4, e3, e0, h3]
    simp [upd]
  refine st 24 16 _ _ _ (by decide) (by decide) hz a0 fun t1 z1 h1 => ?_
  refine st 16 8 _ _ _ (by decide) (by decide) h1 a1 fun t2 z2 h2 => ?_
  refine st 8 0 _ _ _ (by decide) (by decide) h2 a2 fun t3 z3 h3 => ?_
  refine st 0 (-8) _ _ _ (by decide) (by decide) h3 a3 fun t4 z4 h4 => ?_
  apply hP
  exact ⟨fun _ => h t4 z4 h4, fun h => absurd (by decide) h⟩
theorem pf_0 (p1 : Int32) (p2 : Int32) (p3 : Int32) (p4 : Int32) (p5 : Int32) : q_wx_X10_feed_0 (fun _ => 0) 0 p1 p2 p3 p4 p5 (fun r1 Uta_tape Utf_length => q_m_feed_0 0 (fun _ => 0) (fun _ => 0) p1 p2 p3 p4 p5 (fun r2 Vf_code Va_tape Va_size => r1 = r2 ∧ True)) := by
  refine ⟨fun _ => ?_, fun h => absurd (by decide) h⟩
  refine sp_put (by unfold vp_in; decide) (by unfold vp_in; decide) (by unfold vp_in; decide) (by unfold vp_in; decide) fun t1 => ?_
  refine sp_put (by unfold vp_in; decide) (by unfold vp_in; decide) (by unfold vp_in; decide) (by unfold vp_in; decide) fun t2 => ?_
  refine sp_put (by unfold vp_in; decide) (by unfold vp_in; decide) (by unfold vp_in; decide) (by unfold vp_in; decide) fun t3 => ?_
  refine sp_put (by unfold vp_in; decide) (by unfold vp_in; decide) (by unfold vp_in; decide) (by unfold vp_in; decide) fun t4 => ?_
  refine sp_put (by unfold vp_in; decide) (by unfold vp_in; decide) (by unfold vp_in; decide) (by unfold vp_in; decide) fun t5 => ?_
  refine ⟨fun _ => ?_, fun h => absurd (by decide) h⟩
  refine sp_four (n := 0) rfl (by unfold vp_in; decide) (by unfold vp_in; decide) (by unfold vp_in; decide) (by unfold vp_in; decide) fun s1 z1 e1 => ?_
  refine sp_four e1 (by unfold vp_in; decide) (by unfold vp_in; decide) (by unfold vp_in; decide) (by unfold vp_in; decide) fun s2 z2 e2 => ?_
  refine sp_four e2 (by unfold vp_in; decide) (by unfold vp_in; decide) (by unfold vp_in; decide) (by unfold vp_in; decide) fun s3 z3 e3 => ?_
  refine sp_four e3 (by unfold vp_in; decide) (by unfold vp_in; decide) (by unfold vp_in; decide) (by unfold vp_in; decide) fun s4 z4 e4 => ?_
  refine sp_four e4 (by unfold vp_in; decide) (by unfold vp_in; decide) (by unfold vp_in; decide) (by unfold vp_in; decide) fun s5 z5 e5 => ?_
  exact ⟨e5.symm, trivial⟩
theorem pf_1 (p1 : Int32) : q_wx_X10_end_0 0 p1 (fun r1 Utf_length => q_m_end_0 0 (fun _ => 0) p1 (fun r2 Vf_code Va_size => r1 = r2 ∧ True)) := ⟨fun h => sp_in (fun _ => zi ⟨rfl, trivial⟩) (fun h1 _ => absurd h (Int32.not_lt.mpr h1)), fun h => ⟨fun h2 => sp_in (fun h3 => absurd ⟨Int32.not_lt.mp h, h2⟩ h3) (fun _ _ => io (fun _ _ => ⟨rfl, trivial⟩)), fun h2 => sp_in (fun _ => zi ⟨rfl, trivial⟩) (fun _ h4 => absurd h4 h2)⟩⟩
theorem pf_3 (p1 : Int32) : q_wx_X10_fault_0 0 (-1) p1 (fun r1 => q_m_fault_0 0 (fun _ => 0) (upd (fun _ => 0) (Int32.toNatClampNeg 0) (-1)) p1 (fun r2 Vf_code => r1 = r2 ∧ True)) := ⟨fun h => ⟨fun h1 => ⟨fun _ => ⟨fun _ => ⟨rfl, trivial⟩, fun h2 => absurd h2 h1⟩, fun h2 => absurd h2 h⟩, fun h1 => ⟨fun _ => ⟨fun h2 => absurd h1 h2, fun _ => ⟨by simp [upd], trivial⟩⟩, fun h2 => absurd h2 h⟩⟩, fun h => ⟨fun h2 => absurd h h2, fun _ => ⟨rfl, trivial⟩⟩⟩
theorem pf_4 (p1 : Int32) (p2 : Int32) : q_wx_X10_land_0 (fun _ => 0) p1 p2 (fun r1 => q_m_land_0 0 (fun _ => 0) 0 p1 p2 (fun r2 Vf_code Vf_land => r1 = r2 ∧ True)) := by
  refine sp_landAt0 (lz (sp_hand0 ?_))
  first | exact iz ⟨rfl, trivial⟩ | exact zi ⟨rfl, trivial⟩
theorem pf_5 (p1 : Int32) (p2 : Int32) (p3 : Int32) : q_wx_X10_echo_0 (fun _ => 0) 0 (fun _ => 0) (fun _ => 0) 0 (fun _ => 0) (fun _ => 0) p1 p2 p3 (fun r1 => q_m_echo_0 0 (fun _ => 0) 0 p1 p2 p3 (fun r2 Vf_code Vf_land => r1 = r2 ∧ True)) := by
  refine sp_landAt0 (lz (sp_hand0 ?_))
  first | exact iz ⟨rfl, trivial⟩ | exact zi ⟨rfl, trivial⟩
theorem pf_6 (p1 : Int32) (p2 : Int32) (p3 : Int32) : q_wx_X10_deed_0 (fun _ => 0) 0 0 p1 p2 p3 (fun r1 => q_m_deed_0 0 (fun _ => 0) 0 p1 p2 p3 (fun r2 Vf_code Vf_evening => r1 = r2 ∧ True)) := sp_eveningAt0 (lz (sp_hasEvening0 (zi ⟨rfl, trivial⟩)))
theorem pf_7 (p1 : Int32) (p2 : Int32) : q_wx_X10_stop_0 (fun _ => 0) 0 0 p1 p2 (fun r1 => q_m_stop_0 0 (fun _ => 0) 0 0 p1 p2 (fun r2 Vf_code Vf_land Vf_evening => r1 = r2 ∧ True)) := by
  refine sp_landAt0 (lz (sp_eveningAt0 (lz ?_)))
  unfold q_wx_X10_stop_22 q_m_stop_0
  exact sp_layAll0 (iz ⟨rfl, trivial⟩)
theorem pf_8 (p1 : Int32) (p2 : Int32) (p3 : Int32) (p4 : Int32) : q_wx_X10_state_0 (fun _ => 0) 0 0 p1 p2 p3 p4 (fun r1 => q_m_state_0 0 (fun _ => 0) 0 0 p1 p2 p3 p4 (fun r2 Vf_code Vf_land Vf_evening => r1 = r2 ∧ True)) := sp_reach0 (iz (sp_layAll0 (iz ⟨rfl, trivial⟩)))
theorem pf_9 (p1 : Int32) (p2 : Int32) (p3 : Int32) : q_wx_X10_comes_0 (fun _ => 0) p1 p2 p3 (fun r1 => q_m_comes_0 0 (fun _ => 0) 0 p1 p2 p3 (fun r2 Vf_code Vf_land => r1 = r2 ∧ True)) := by
  refine sp_landAt0 (lz (sp_hand0 ?_))
  first | exact iz ⟨rfl, trivial⟩ | exact zi ⟨rfl, trivial⟩
theorem pf_10 (p1 : Int32) (p2 : Int32) (p3 : Int32) : q_wx_X10_villages_0 (fun _ => 0) p1 p2 p3 (fun r1 => q_m_villages_0 0 (fun _ => 0) 0 p1 p2 p3 (fun r2 Vf_code Vf_land => r1 = r2 ∧ True)) := by
  refine sp_landAt0 (lz (sp_hand0 ?_))
  first | exact iz ⟨rfl, trivial⟩ | exact zi ⟨rfl, trivial⟩
theorem pf_11 (p1 : Int32) (p2 : Int32) : q_wx_X10_best_0 (fun _ => 0) p1 p2 (fun r1 => q_m_best_0 0 (fun _ => 0) 0 0 p1 p2 (fun r2 Vf_code Vf_land => r1 = r2 ∧ True)) := by
  refine sp_landAt0 (lz (sp_hand0 ?_))
  first | exact iz ⟨rfl, trivial⟩ | exact zi ⟨rfl, trivial⟩
theorem pf_12 (p1 : Int32) (p2 : Int32) (p3 : Int32) (p4 : Int32) : q_wx_X10_routes_0 (fun _ => 0) p1 p2 p3 p4 (fun r1 => q_m_routes_0 0 (fun _ => 0) 0 p1 p2 p3 p4 (fun r2 Vf_code Vf_land => r1 = r2 ∧ True)) := by
  refine sp_landAt0 (lz (sp_hand0 ?_))
  first | exact iz ⟨rfl, trivial⟩ | exact zi ⟨rfl, trivial⟩
theorem pf_13 (p1 : Int32) (p2 : Int32) (p3 : Int32) : q_wx_X10_mutes_0 (fun _ => 0) p1 p2 p3 (fun r1 => q_m_mutes_0 0 (fun _ => 0) 0 p1 p2 p3 (fun r2 Vf_code Vf_land => r1 = r2 ∧ True)) := by
  refine sp_landAt0 (lz (sp_hand0 ?_))
  first | exact iz ⟨rfl, trivial⟩ | exact zi ⟨rfl, trivial⟩
theorem pf_14 (p1 : Int32) (p2 : Int32) (p3 : Int32) : q_wx_X10_masses_0 (fun _ => 0) p1 p2 p3 (fun r1 => q_m_masses_0 0 (fun _ => 0) 0 p1 p2 p3 (fun r2 Vf_code Vf_land => r1 = r2 ∧ True)) := by
  refine sp_landAt0 (lz (sp_hand0 ?_))
  first | exact iz ⟨rfl, trivial⟩ | exact zi ⟨rfl, trivial⟩
theorem pf_15 (p1 : Int32) (p2 : Int32) (p3 : Int32) : q_wx_X10_fact_0 (fun _ => 0) 0 0 p1 p2 p3 (fun r1 => q_m_fact_0 0 (fun _ => 0) 0 p1 p2 p3 (fun r2 Vf_code Vf_sight => r1 = r2 ∧ True)) := sp_sightAt0 (lz (sp_hasSight0 (zi ⟨rfl, trivial⟩)))
theorem pf_16 (p1 : Int32) (p2 : Int32) (p3 : Int32) : q_wx_X10_fits_0 (fun _ => 0) 0 0 p1 p2 p3 (fun r1 => q_m_fits_0 0 (fun _ => 0) 0 0 p1 p2 p3 (fun r2 Vf_code Vf_land Vf_sight => r1 = r2 ∧ True)) := sp_landAt0 (lz (sp_sightAt0 (lz (sp_hasSight0 (iz ⟨rfl, trivial⟩)))))
theorem pf_17 (p1 : Int32) (p2 : Int32) : q_wx_X10_choir_0 (fun _ => 0) p1 p2 (fun r1 => q_m_choir_0 0 (fun _ => 0) (fun _ => 0) 0 0 p1 p2 (fun r2 Vf_code Vf_choir Vf_voices => r1 = r2 ∧ True)) := sp_choirAt0 (lz (sp_hasChoir0 (zi ⟨rfl, trivial⟩)))
theorem pf_18 (p1 : Int32) : q_wx_X10_orders_0 (fun _ => 0) p1 (fun r1 => q_m_orders_0 0 (fun _ => 0) (fun _ => 0) 0 0 p1 (fun r2 Vf_code Vf_choir Vf_voices => r1 = r2 ∧ True)) := sp_choirAt0 (lz (sp_hasChoir0 (iz ⟨rfl, trivial⟩)))
theorem pf_19 (p1 : Int32) (p2 : Int32) : q_wx_X10_order_0 (fun _ => 0) 0 0 p1 p2 (fun r1 => q_m_order_0 0 (fun _ => 0) (fun _ => 0) 0 0 p1 p2 (fun r2 Vf_code Vf_choir Vf_voices => r1 = r2 ∧ True)) := sp_choirAt0 (lz (sp_hasChoir0 (iz ⟨rfl, trivial⟩)))
theorem pf_21 (p1 : Int32) (p2 : Int32) (p3 : Int32) : q_wx_X10_odds_0 (fun _ => 0) 0 0 p1 p2 p3 (fun r1 => q_m_odds_0 0 (fun _ => 0) 0 0 p1 p2 p3 (fun r2 Vf_code Vf_land Vf_evening => r1 = r2 ∧ True)) := sp_landAt0 (lz (sp_eveningAt0 (lz (sp_in (fun _ => iz ⟨rfl, trivial⟩) (fun _ _ => oi (sp_layAll0 (zi ⟨rfl, trivial⟩)))))))
theorem pf_22 (p1 : Int32) (p2 : Int32) (p3 : Int32) (p4 : Int32) : q_wx_X10_drawn_0 (fun _ => 0) 0 0 p1 p2 p3 p4 (fun r1 => q_m_drawn_0 0 (fun _ => 0) 0 0 0 p1 p2 p3 p4 (fun r2 Vf_code Vf_land Vf_seed => r1 = r2 ∧ True)) := sp_landAt0 (lz (sp_in (fun _ => iz ⟨rfl, trivial⟩) (fun _ _ => oi (sp_hand0 (iz ⟨rfl, trivial⟩)))))
theorem pf_23 (p1 : Int32) (p2 : Int32) (p3 : Int32) (p4 : Int32) : q_wx_X10_psalm_0 (fun _ => 0) p1 p2 p3 p4 (fun r1 => q_m_psalm_0 0 (fun _ => 0) 0 p1 p2 p3 p4 (fun r2 Vf_code Vf_land => r1 = r2 ∧ True)) := by
  refine sp_landAt0 (lz (sp_hand0 ?_))
  first | exact iz ⟨rfl, trivial⟩ | exact zi ⟨rfl, trivial⟩
theorem pf_24 (p1 : Int32) (p2 : Int32) (p3 : Int32) (p4 : Int32) : q_wx_X10_meet_0 (fun _ => 0) p1 p2 p3 p4 (fun r1 => q_m_meet_0 0 (fun _ => 0) 0 p1 p2 p3 p4 (fun r2 Vf_code Vf_land => r1 = r2 ∧ True)) := by
  refine sp_landAt0 (lz (sp_hand0 ?_))
  first | exact iz ⟨rfl, trivial⟩ | exact zi ⟨rfl, trivial⟩
theorem pf_25 (p1 : Int32) (p2 : Int32) (p3 : Int32) : q_wx_X10_carry_0 (fun _ => 0) p1 p2 p3 (fun r1 => q_m_carry_0 0 (fun _ => 0) 0 p1 p2 p3 (fun r2 Vf_code Vf_land => r1 = r2 ∧ True)) := by
  refine sp_landAt0 (lz (sp_hand0 ?_))
  first | exact iz ⟨rfl, trivial⟩ | exact zi ⟨rfl, trivial⟩
theorem pf_26 (p1 : Int32) (p2 : Int32) (p3 : Int32) (p4 : Int32) : q_wx_X10_join_0 (fun _ => 0) p1 p2 p3 p4 (fun r1 => q_m_join_0 0 (fun _ => 0) 0 p1 p2 p3 p4 (fun r2 Vf_code Vf_land => r1 = r2 ∧ True)) := by
  refine sp_landAt0 (lz (sp_hand0 ?_))
  first | exact iz ⟨rfl, trivial⟩ | exact zi ⟨rfl, trivial⟩
theorem pf_27 (p1 : Int32) (p2 : Int32) : q_wx_X10_slopes_0 (fun _ => 0) p1 p2 (fun r1 => q_m_slopes_0 0 (fun _ => 0) 0 0 p1 p2 (fun r2 Vf_code Vf_land => r1 = r2 ∧ True)) := by
  refine sp_landAt0 (lz (sp_hand0 ?_))
  first | exact iz ⟨rfl, trivial⟩ | exact zi ⟨rfl, trivial⟩
theorem pf_28 (p1 : Int32) (p2 : Int32) (p3 : Int32) (p4 : Int32) : q_wx_X10_flood_0 (fun _ => 0) p1 p2 p3 p4 (fun r1 => q_m_flood_0 0 (fun _ => 0) 0 p1 p2 p3 p4 (fun r2 Vf_code Vf_land => r1 = r2 ∧ True)) := by
  refine sp_landAt0 (lz (sp_hand0 ?_))
  first | exact iz ⟨rfl, trivial⟩ | exact zi ⟨rfl, trivial⟩
theorem pf_29 (p1 : Int32) (p2 : Int32) (p3 : Int32) (p4 : Int32) : q_wx_X10_teach_0 (fun _ => 0) 0 0 p1 p2 p3 p4 (fun r1 => q_m_teach_0 0 (fun _ => 0) 0 0 p1 p2 p3 p4 (fun r2 Vf_code Vf_land Vf_evening => r1 = r2 ∧ True)) := ⟨fun _ => sp_layAll0 (iz ⟨rfl, trivial⟩), fun _ => ⟨fun _ => sp_layAll0 (iz ⟨rfl, trivial⟩), fun _ => sp_reach0 (zi (sp_layAll0 (iz ⟨rfl, trivial⟩)))⟩⟩
theorem pf_30 (p1 : Int32) : q_wx_X10_count_0 (fun _ => 0) p1 (fun r1 => q_m_count_0 0 (fun _ => 0) p1 (fun r2 Vf_code => r1 = r2 ∧ True)) := by
  unfold q_wx_X10_count_0 q_wx_X10_count_9
  exact ⟨fun h => sp_in (fun _ => iz ⟨rfl, trivial⟩) (fun h1 _ => absurd h (Int32.not_lt.mpr h1)), fun h => ⟨fun h2 => ⟨sp_vin (Int32.not_lt.mp h) (sp_lt (a := 3) h2 (by decide)) (by decide), sp_in (fun h3 => absurd ⟨Int32.not_lt.mp h, sp_lt h2 (by decide)⟩ h3) (fun h4 h5 => oi ⟨sp_vin h4 h5 (by decide), ⟨rfl, trivial⟩⟩)⟩, fun h2 => sp_in (fun _ => iz ⟨rfl, trivial⟩) (fun _ h4 => absurd h4 (sp_nle (Int32.not_lt.mp h2) (by decide)))⟩⟩
theorem pf_32 (p1 : Int32) : q_wx_X10_again_0 (fun _ => none) p1 (fun r1 => q_m_again_0 0 (fun _ => 0) (fun _ => 0) (fun _ => 0) (upd (fun _ => 0) (Int32.toNatClampNeg 0) (-1)) (fun _ => 0) (fun _ => 0) (fun _ => 0) (fun _ => 0) (fun _ => 0) (fun _ => 0) p1 (fun r2 Vf_code Va_tape Va_size Va_fault Va_faultPlace Va_many Va_lands Va_evenings Va_sights Va_choirs => r1 = r2 ∧ True)) := ⟨fun h => sp_in (fun _ => iz ⟨rfl, trivial⟩) (fun h1 _ => absurd h (Int32.not_lt.mpr h1)), fun h => ⟨fun h2 => sp_in (fun _ => iz ⟨rfl, trivial⟩) (fun _ h4 => absurd h4 (sp_nle h2 (by decide))), fun h2 => ⟨sp_vin (Int32.not_lt.mp h) (sp_le (a := 2) h2 (by decide)) (by decide), rfl, sp_in (fun h3 => absurd ⟨Int32.not_lt.mp h, sp_le h2 (by decide)⟩ h3) (fun h4 h5 => oi ⟨sp_vin h4 h5 (by decide), zi ⟨rfl, trivial⟩⟩)⟩⟩⟩
