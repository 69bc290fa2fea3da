/-- there is such a state -/
abbrev OKst (M : Nat → Nat → Int32) (a b c : Int32) : Prop := ((0 ≤ a ∧ a < M 4 0) ∧ (0 ≤ b ∧ b < M 4 1)) ∧ (0 ≤ c ∧ c ≤ rowM M 1 b 0) ∧ nI (PL M a b (cN c)).1 = c
noncomputable def AN_state (M : Nat → Nat → Int32) (a b c d : Int32) : Int32 := if OKst M a b c then LKN (rowM M 0 a) (PL M a b (cN c)).2 d else -1000
theorem PL_ok {M : Nat → Nat → Int32} {k : Nat} {b : Int32} {n : Nat} (hL : mLand (M 5)) (hk : k < 2) (hO : LOK (rowM M 0 (nI k))) : NOK (rowM M 0 (nI k)) (PL M (nI k) b n).2 := plays_ok (RNG_M hL hk) _ _ _ (S0_ok (RNG_M hL hk) hO)
set_option maxRecDepth 40000 in
set_option maxHeartbeats 4000000 in
theorem e_m_state {M : Nat → Nat → Int32} {f_code f_land f_huts f_singers f_evening f_begun f_minute f_avalanches a b c d : Int32} {a_at a_knows a_climbed a_snow a_level : Nat → Int32} {post : Int32 → (Int32) → (Int32) → (Int32) → (Int32) → (Int32) → (Nat → Int32) → (Nat → Int32) → (Nat → Int32) → (Nat → Int32) → (Nat → Int32) → (Int32) → (Int32) → (Int32) → Prop} (hc : ∀ o, iv 0 2 (M 4 o)) (hL : mLand (M 5)) (hE : mEve (M 6)) (hK : LK M) (hp : ∀ z0 z1 z2 z3 z4 z5 z6 z7 z8 z9 z10 z11 z12, post (AN_state M a b c d) z0 z1 z2 z3 z4 z5 z6 z7 z8 z9 z10 z11 z12) : q_m_state_0 f_code (M 4) (M 5) (M 6) f_land f_huts f_singers f_evening a_at a_knows a_climbed a_snow a_level f_begun f_minute f_avalanches a b c d post := by
  unfold AN_state at hp
  have no : ¬ OKst M a b c → ∀ z0 z1 z2 z3 z4 z5 z6 z7 z8 z9 z10 z11 z12, post (-1000) z0 z1 z2 z3 z4 z5 z6 z7 z8 z9 z10 z11 z12 := fun hn => by rw [if_neg hn] at hp; exact hp
  refine e_layAllM hc (fun hn x y z w => iz (no (fun h9 => hn h9.1) _ _ _ _ _ _ _ _ _ _ _ _ _)) (fun k e hk he ea eb h1 h2 => oi ?_)
  subst ea eb
  have hO : LOK (rowM M 0 (nI k)) := LK_row hK hk h1.2
  refine e_deedsM he (sp_in (fun hn => iz (no (fun h9 => hn h9.2.1) _ _ _ _ _ _ _ _ _ _ _ _ _)) (fun g1 g2 => oi ?_))
  obtain ⟨d0, ed, -, hd40, -⟩ := iv_nI (ev0_iv hE he) (by decide)
  have g2' := g2
  rw [ed] at g2'
  obtain ⟨m, hm, rfl⟩ := nI_of2 (M := nI d0) (n := d0) (nI_toInt (by omega)) (Int32.not_lt.mpr g1) g2'
  refine e_playM hk he (by omega) hL hE hO (fun S' hS => ?_)
  have ecl : cN (nI m) = m := cN_nI (by omega)
  refine ⟨fun hne => no (fun h9 => hne (by have := h9.2.2; rw [ecl] at this; exact this)) _ _ _ _ _ _ _ _ _ _ _ _ _, fun heq => ?_⟩
  rw [if_pos ⟨⟨h1, h2⟩, ⟨g1, g2⟩, by rw [ecl]; exact heq⟩, ecl] at hp
  exact e_ofStateM hk hL (PL_ok hL hk hO) hS (hp _ _ _ _ _ _ _ _ _ _ _ _ _)
set_option maxRecDepth 40000 in
set_option maxHeartbeats 4000000 in
theorem e_x_reachState {T : TT} {M : Nat → Nat → Int32} {nf_minute nf_avalanches nf_begun nf_climbed a b c : Int32} {na_huts na_known na_levels na_snow : Nat → Int32} {post : Int32 → (Int32) → (Int32) → (Int32) → (Int32) → (Nat → Int32) → (Nat → Int32) → (Nat → Int32) → (Nat → Int32) → Prop} (h : TM T M 0) (hB : tB T) (hK : LK M) (hL : mLand (M 5)) (hE : mEve (M 6)) (h0 : ¬ OKst M a b c → ∀ n0 n1 n2 n3 n4 n5 n6 n7, post 0 n0 n1 n2 n3 n4 n5 n6 n7) (h1 : OKst M a b c → ∀ n0 n1 n2 n3 n4 n5 n6 n7, XG (rowM M 0 a) (PL M a b (cN c)).2 n0 n1 n2 n3 n4 n5 n6 n7 → post 1 n0 n1 n2 n3 n4 n5 n6 n7) : q_wx_X10_reachState_0 (T.2 1) (T.1 3) (T.1 4) (T.1 6) (T.1 7) (T.1 8) (T.2 2) (T.2 3) (T.2 4) (T.2 5) (T.2 6) (T.2 7) (T.2 8) (T.2 9) (T.1 10) (T.1 11) (T.1 13) (T.1 14) (T.1 15) (T.2 10) (T.2 11) (T.2 12) (T.2 13) (T.2 14) (T.2 15) (T.2 16) (T.2 17) (T.1 17) (T.2 18) (T.2 19) (T.2 20) (T.1 18) (T.2 21) (T.2 22) (T.2 23) nf_minute nf_avalanches nf_begun nf_climbed na_huts na_known na_levels na_snow a b c post := by
  unfold OKst at h0 h1
  rw [TM_cnt h 0 (by decide), TM_cnt h 1 (by decide)] at h0 h1
  refine e_at (hB.2.2.1 0) (fun (hn : ¬ (0 ≤ a ∧ a < T.2 1 0)) => ?_) (fun ea hla => ?_) (fun ea hla => ?_)
  · refine ⟨fun _ => ?_, fun h9 => absurd h9 (by decide), fun h9 => absurd rfl h9⟩
    have h0 := h0 (fun h9 => hn h9.1.1)
    refine e_at (hB.2.2.1 1) (fun (hm : ¬ (0 ≤ b ∧ b < T.2 1 1)) => ?_) (fun eb hlb => ?_) (fun eb hlb => ?_)
    · exact ⟨fun _ => h0 _ _ _ _ _ _ _ _, fun h9 => absurd h9 (by decide), fun h9 => absurd rfl h9⟩
    · exact ⟨fun h9 => absurd h9 (by decide), fun h9 => absurd h9 (by decide), fun _ _ => h0 _ _ _ _ _ _ _ _⟩
    · exact ⟨fun h9 => absurd h9 (by decide), fun _ => h0 _ _ _ _ _ _ _ _, fun _ h9 => absurd rfl h9⟩
  · refine ⟨fun h9 => absurd h9 (by decide), fun h9 => absurd h9 (by decide), fun _ _ => ?_⟩
    refine e_at (hB.2.2.1 1) (fun (hm : ¬ (0 ≤ b ∧ b < T.2 1 1)) => ?_) (fun eb hlb => ?_) (fun eb hlb => ?_)
    · exact ⟨fun _ => h0 (fun h9 => hm h9.1.2) _ _ _ _ _ _ _ _, fun h9 => absurd h9 (by decide), fun h9 => absurd rfl h9⟩
    · subst ea eb
      have hLD : LDR (T.1 3) (T.1 4) (T.1 5) (T.1 6) (T.1 7) (T.1 8) (T.1 9) (T.2 2) (T.2 3) (T.2 4) (T.2 5) (T.2 6) (T.2 7) (T.2 8) (T.2 9) (rowM M 0 (nI 0)) := TM_sl h 0 0 (by decide) (by decide) hla
      have hEV : R3 (T.1 17) (T.2 18) (T.2 19) (T.2 20) (rowM M 1 (nI 0)) := TM_sl h 1 0 (by decide) (by decide) hlb
      have hOK : LOK (rowM M 0 (nI 0)) := LK_row hK (by decide) (by rw [TM_cnt h 0 (by decide)]; exact hla)
      refine ⟨fun h9 => absurd h9 (by decide), fun h9 => absurd h9 (by decide), fun _ _ => ?_⟩
      obtain ⟨d0, ed, -, hd40, -⟩ := iv_nI (ev0_iv hE (e := 0) (by decide)) (by decide)
      have edc : (T.1 17) = nI d0 := hEV.1.trans ed
      refine ⟨fun hneg => h0 (fun h9 => absurd hneg (Int32.not_lt.mpr h9.2.1.1)) _ _ _ _ _ _ _ _, fun hnn => ⟨fun hle => ?_, fun hgt => h0 (fun h9 => hgt (by rw [hEV.1]; exact h9.2.1.2)) _ _ _ _ _ _ _ _⟩⟩
      have hle' := hle
      rw [edc] at hle'
      obtain ⟨m, hm, rfl⟩ := nI_of2 (M := nI d0) (n := d0) (nI_toInt (by omega)) hnn hle'
      have ecl : cN (nI m) = m := cN_nI (by omega)
      rw [ecl] at h0 h1
      refine e_playX (n := m) (RNG_M hL (by decide)) hOK hLD hEV (ev0_iv hE (by decide)) (fun j hj => (eve_iv hE (by decide) hj).1) rfl hle (by omega) (fun mi' av' be' cl' hu' kn' lv' sn' hG => ?_)
      exact ⟨fun hne => h0 (fun h9 => hne h9.2.2) _ _ _ _ _ _ _ _, fun heq => h1 ⟨⟨⟨by decide, hla⟩, by decide, hlb⟩, ⟨Int32.not_lt.mp hnn, by rw [← hEV.1]; exact hle⟩, heq⟩ _ _ _ _ _ _ _ _ hG⟩
    · subst ea eb
      have hLD : LDR (T.1 3) (T.1 4) (T.1 5) (T.1 6) (T.1 7) (T.1 8) (T.1 9) (T.2 2) (T.2 3) (T.2 4) (T.2 5) (T.2 6) (T.2 7) (T.2 8) (T.2 9) (rowM M 0 (nI 0)) := TM_sl h 0 0 (by decide) (by decide) hla
      have hEV : R3 (T.1 18) (T.2 21) (T.2 22) (T.2 23) (rowM M 1 (nI 1)) := TM_sl h 1 1 (by decide) (by decide) hlb
      have hOK : LOK (rowM M 0 (nI 0)) := LK_row hK (by decide) (by rw [TM_cnt h 0 (by decide)]; exact hla)
      refine ⟨fun h9 => absurd h9 (by decide), fun _ => ?_, fun _ h9 => absurd rfl h9⟩
      obtain ⟨d0, ed, -, hd40, -⟩ := iv_nI (ev0_iv hE (e := 1) (by decide)) (by decide)
      have edc : (T.1 18) = nI d0 := hEV.1.trans ed
      refine ⟨fun hneg => h0 (fun h9 => absurd hneg (Int32.not_lt.mpr h9.2.1.1)) _ _ _ _ _ _ _ _, fun hnn => ⟨fun hle => ?_, fun hgt => h0 (fun h9 => hgt (by rw [hEV.1]; exact h9.2.1.2)) _ _ _ _ _ _ _ _⟩⟩
      have hle' := hle
      rw [edc] at hle'
      obtain ⟨m, hm, rfl⟩ := nI_of2 (M := nI d0) (n := d0) (nI_toInt (by omega)) hnn hle'
      have ecl : cN (nI m) = m := cN_nI (by omega)
      rw [ecl] at h0 h1
      refine e_playX (n := m) (RNG_M hL (by decide)) hOK hLD hEV (ev0_iv hE (by decide)) (fun j hj => (eve_iv hE (by decide) hj).1) rfl hle (by omega) (fun mi' av' be' cl' hu' kn' lv' sn' hG => ?_)
      exact ⟨fun hne => h0 (fun h9 => hne h9.2.2) _ _ _ _ _ _ _ _, fun heq => h1 ⟨⟨⟨by decide, hla⟩, by decide, hlb⟩, ⟨Int32.not_lt.mp hnn, by rw [← hEV.1]; exact hle⟩, heq⟩ _ _ _ _ _ _ _ _ hG⟩
  · refine ⟨fun h9 => absurd h9 (by decide), fun _ => ?_, fun _ h9 => absurd rfl h9⟩
    refine e_at (hB.2.2.1 1) (fun (hm : ¬ (0 ≤ b ∧ b < T.2 1 1)) => ?_) (fun eb hlb => ?_) (fun eb hlb => ?_)
    · exact ⟨fun _ => h0 (fun h9 => hm h9.1.2) _ _ _ _ _ _ _ _, fun h9 => absurd h9 (by decide), fun h9 => absurd rfl h9⟩
    · subst ea eb
      have hLD : LDR (T.1 10) (T.1 11) (T.1 12) (T.1 13) (T.1 14) (T.1 15) (T.1 16) (T.2 10) (T.2 11) (T.2 12) (T.2 13) (T.2 14) (T.2 15) (T.2 16) (T.2 17) (rowM M 0 (nI 1)) := TM_sl h 0 1 (by decide) (by decide) hla
      have hEV : R3 (T.1 17) (T.2 18) (T.2 19) (T.2 20) (rowM M 1 (nI 0)) := TM_sl h 1 0 (by decide) (by decide) hlb
      have hOK : LOK (rowM M 0 (nI 1)) := LK_row hK (by decide) (by rw [TM_cnt h 0 (by decide)]; exact hla)
      refine ⟨fun h9 => absurd h9 (by decide), fun h9 => absurd h9 (by decide), fun _ _ => ?_⟩
      obtain ⟨d0, ed, -, hd40, -⟩ := iv_nI (ev0_iv hE (e := 0) (by decide)) (by decide)
      have edc : (T.1 17) = nI d0 := hEV.1.trans ed
      refine ⟨fun hneg => h0 (fun h9 => absurd hneg (Int32.not_lt.mpr h9.2.1.1)) _ _ _ _ _ _ _ _, fun hnn => ⟨fun hle => ?_, fun hgt => h0 (fun h9 => hgt (by rw [hEV.1]; exact h9.2.1.2)) _ _ _ _ _ _ _ _⟩⟩
      have hle' := hle
      rw [edc] at hle'
      obtain ⟨m, hm, rfl⟩ := nI_of2 (M := nI d0) (n := d0) (nI_toInt (by omega)) hnn hle'
      have ecl : cN (nI m) = m := cN_nI (by omega)
      rw [ecl] at h0 h1
      refine e_playX (n := m) (RNG_M hL (by decide)) hOK hLD hEV (ev0_iv hE (by decide)) (fun j hj => (eve_iv hE (by decide) hj).1) rfl hle (by omega) (fun mi' av' be' cl' hu' kn' lv' sn' hG => ?_)
      exact ⟨fun hne => h0 (fun h9 => hne h9.2.2) _ _ _ _ _ _ _ _, fun heq => h1 ⟨⟨⟨by decide, hla⟩, by decide, hlb⟩, ⟨Int32.not_lt.mp hnn, by rw [← hEV.1]; exact hle⟩, heq⟩ _ _ _ _ _ _ _ _ hG⟩
    · subst ea eb
      have hLD : LDR (T.1 10) (T.1 11) (T.1 12) (T.1 13) (T.1 14) (T.1 15) (T.1 16) (T.2 10) (T.2 11) (T.2 12) (T.2 13) (T.2 14) (T.2 15) (T.2 16) (T.2 17) (rowM M 0 (nI 1)) := TM_sl h 0 1 (by decide) (by decide) hla
      have hEV : R3 (T.1 18) (T.2 21) (T.2 22) (T.2 23) (rowM M 1 (nI 1)) := TM_sl h 1 1 (by decide) (by decide) hlb
      have hOK : LOK (rowM M 0 (nI 1)) := LK_row hK (by decide) (by rw [TM_cnt h 0 (by decide)]; exact hla)
      refine ⟨fun h9 => absurd h9 (by decide), fun _ => ?_, fun _ h9 => absurd rfl h9⟩
      obtain ⟨d0, ed, -, hd40, -⟩ := iv_nI (ev0_iv hE (e := 1) (by decide)) (by decide)
      have edc : (T.1 18) = nI d0 := hEV.1.trans ed
      refine ⟨fun hneg => h0 (fun h9 => absurd hneg (Int32.not_lt.mpr h9.2.1.1)) _ _ _ _ _ _ _ _, fun hnn => ⟨fun hle => ?_, fun hgt => h0 (fun h9 => hgt (by rw [hEV.1]; exact h9.2.1.2)) _ _ _ _ _ _ _ _⟩⟩
      have hle' := hle
      rw [edc] at hle'
      obtain ⟨m, hm, rfl⟩ := nI_of2 (M := nI d0) (n := d0) (nI_toInt (by omega)) hnn hle'
      have ecl : cN (nI m) = m := cN_nI (by omega)
      rw [ecl] at h0 h1
      refine e_playX (n := m) (RNG_M hL (by decide)) hOK hLD hEV (ev0_iv hE (by decide)) (fun j hj => (eve_iv hE (by decide) hj).1) rfl hle (by omega) (fun mi' av' be' cl' hu' kn' lv' sn' hG => ?_)
      exact ⟨fun hne => h0 (fun h9 => hne h9.2.2) _ _ _ _ _ _ _ _, fun heq => h1 ⟨⟨⟨by decide, hla⟩, by decide, hlb⟩, ⟨Int32.not_lt.mp hnn, by rw [← hEV.1]; exact hle⟩, heq⟩ _ _ _ _ _ _ _ _ hG⟩

set_option maxRecDepth 40000 in
set_option maxHeartbeats 4000000 in
theorem e_x_state {T : TT} {M : Nat → Nat → Int32} {nf_minute nf_avalanches nf_begun nf_climbed a b c d : Int32} {na_huts na_known na_levels na_snow na_open : Nat → Int32} {post : Int32 → (Int32) → (Int32) → (Int32) → (Int32) → (Nat → Int32) → (Nat → Int32) → (Nat → Int32) → (Nat → Int32) → (Nat → Int32) → Prop} (h : TM T M 0) (hB : tB T) (hK : LK M) (hL : mLand (M 5)) (hE : mEve (M 6)) (hp : ∀ z0 z1 z2 z3 z4 z5 z6 z7 z8, post (AN_state M a b c d) z0 z1 z2 z3 z4 z5 z6 z7 z8) : q_wx_X10_state_0 (T.2 1) (T.1 3) (T.1 4) (T.1 6) (T.1 7) (T.1 8) (T.2 2) (T.2 3) (T.2 4) (T.2 5) (T.2 6) (T.2 7) (T.2 8) (T.2 9) (T.1 10) (T.1 11) (T.1 13) (T.1 14) (T.1 15) (T.2 10) (T.2 11) (T.2 12) (T.2 13) (T.2 14) (T.2 15) (T.2 16) (T.2 17) (T.1 17) (T.2 18) (T.2 19) (T.2 20) (T.1 18) (T.2 21) (T.2 22) (T.2 23) nf_minute nf_avalanches nf_begun nf_climbed na_huts na_known na_levels na_snow na_open a b c d post := by
  unfold AN_state at hp
  refine e_x_reachState h hB hK hL hE (fun hn n0 n1 n2 n3 n4 n5 n6 n7 => ?_) (fun hy n0 n1 n2 n3 n4 n5 n6 n7 hG => ?_)
  · rw [if_neg hn] at hp
    exact ⟨fun _ => hp _ _ _ _ _ _ _ _ _, fun h9 => absurd rfl h9⟩
  · rw [if_pos hy] at hp
    refine ⟨fun h9 => absurd h9 (by decide), fun _ => ?_⟩
    have hy0 := hy.1.1
    rw [TM_cnt h 0 (by decide)] at hy0
    obtain ⟨k, hk, ea⟩ := lt_nI (m := 2) (hB.2.2.1 0) hy0
    subst ea
    have hOK : LOK (rowM M 0 (nI k)) := LK_row hK hk (by rw [TM_cnt h 0 (by decide)]; exact hy0.2)
    have hNK := PL_ok (b := b) (n := cN c) hL hk hOK
    have hk2 : k = 0 ∨ k = 1 := by omega
    rcases hk2 with rfl | rfl
    · have hLD : LDR (T.1 3) (T.1 4) (T.1 5) (T.1 6) (T.1 7) (T.1 8) (T.1 9) (T.2 2) (T.2 3) (T.2 4) (T.2 5) (T.2 6) (T.2 7) (T.2 8) (T.2 9) (rowM M 0 (nI 0)) := TM_sl h 0 0 (by decide) (by decide) hy0.2
      refine ⟨vp_in_nI (by decide) (by decide), fun h9 => ?_, fun h9 => ?_⟩
      · exact e_lookX (RNG_M hL (by decide)) hNK hG (LX_of (RNG_M hL (by decide)) hLD) (fun op' => hp _ _ _ _ _ _ _ _ _)
      · exact absurd rfl h9
    · have hLD : LDR (T.1 10) (T.1 11) (T.1 12) (T.1 13) (T.1 14) (T.1 15) (T.1 16) (T.2 10) (T.2 11) (T.2 12) (T.2 13) (T.2 14) (T.2 15) (T.2 16) (T.2 17) (rowM M 0 (nI 1)) := TM_sl h 0 1 (by decide) (by decide) hy0.2
      refine ⟨vp_in_nI (by decide) (by decide), fun h9 => ?_, fun h9 => ?_⟩
      · exact absurd h9 (by decide)
      · exact e_lookX (RNG_M hL (by decide)) hNK hG (LX_of (RNG_M hL (by decide)) hLD) (fun op' => hp _ _ _ _ _ _ _ _ _)

