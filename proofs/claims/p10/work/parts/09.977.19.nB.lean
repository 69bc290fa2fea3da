def ANc (M : Nat → Nat → Int32) (a b : Int32) : Prop := (0 ≤ a ∧ a < M 4 0) ∧ (0 ≤ b ∧ b < M 4 1)
def PL (M : Nat → Nat → Int32) (a b : Int32) (n : Nat) : Nat × (Nat → Nat → Int32) := plays (rowM M 0 a) (rowM M 1 b) n 0 (S0 (rowM M 0 a))
def AN_stop (M : Nat → Nat → Int32) (a b : Int32) : Int32 := if (0 ≤ a ∧ a < M 4 0) ∧ (0 ≤ b ∧ b < M 4 1) then nI (PL M a b (cN (rowM M 1 b 0))).1 else -1
theorem RNG_M {M : Nat → Nat → Int32} {k : Nat} (hL : mLand (M 5)) (hk : k < 2) : RNG (rowM M 0 (nI k)) := fun j hj => row_iv hL hk hj
theorem ev0_iv {M : Nat → Nat → Int32} {e : Nat} (hE : mEve (M 6)) (he : e < 2) : iv 0 40 (rowM M 1 (nI e) 0) := by
  have g := (hE e (by omega)).1
  unfold rowM
  rw [nI_clamp (by omega)]
  exact g
theorem e_deedsM {M : Nat → Nat → Int32} {e : Nat} {post : Int32 → Prop} (he : e < 2) (hp : post (rowM M 1 (nI e) 0)) : q_m_deeds_0 (M 6) (nI e) post := by
  have e9 : (121 : Int32) * nI e = nI (121 * e) := pk_mul 121 e
  refine ⟨by rw [e9]; exact vp_in_nI (by omega) (by omega), ?_⟩
  unfold rowM at hp
  rw [nI_clamp (by omega)] at hp
  rw [e9, nI_clamp (by omega)]
  exact hp
theorem e_layAllM {M : Nat → Nat → Int32} {ld hu si ev a b : Int32} {post : Int32 → Int32 → Int32 → Int32 → Int32 → Prop} (hc : ∀ o, iv 0 2 (M 4 o)) (h0 : ¬ ((0 ≤ a ∧ a < M 4 0) ∧ (0 ≤ b ∧ b < M 4 1)) → ∀ x y z w, post 0 x y z w) (h1 : ∀ k e, k < 2 → e < 2 → a = nI k → b = nI e → (0 ≤ a ∧ a < M 4 0) → (0 ≤ b ∧ b < M 4 1) → post 1 (nI k) (tdM M k 0) (tdM M k 1) (nI e)) : q_m_layAll_0 (M 4) (M 5) ld hu si ev a b post := by
  refine e_is (o := 1) (by omega) (hc 1) (fun hn => ⟨rfl, iz (h0 (fun h9 => hn h9.2) _ _ _ _)⟩) (fun hy => ⟨rfl, oi ?_⟩)
  refine e_hand (hc 0) (fun hn => iz (h0 (fun h9 => hn h9.1) _ _ _ _)) (fun k hk ea hy0 => oi ?_)
  obtain ⟨e, he, eb⟩ := lt_nI (m := 2) (hc 1) hy
  have h2 := h1 k e hk he ea eb hy0 hy
  rw [← eb] at h2
  exact h2

theorem e_m_stop {M : Nat → Nat → Int32} {cd ld hu si ev be mi av a b : Int32} {at_ kn cl sn lv : Nat → Int32} {post : Int32 → Int32 → Int32 → Int32 → Int32 → Int32 → (Nat → Int32) → (Nat → Int32) → (Nat → Int32) → (Nat → Int32) → (Nat → Int32) → Int32 → Int32 → Int32 → Prop} (hc : ∀ o, iv 0 2 (M 4 o)) (hL : mLand (M 5)) (hE : mEve (M 6)) (hK : LK M) (hp : ∀ x1 x2 x3 x4 x5 x6 x7 x8 x9 x10 x11 x12 x13, post (AN_stop M a b) x1 x2 x3 x4 x5 x6 x7 x8 x9 x10 x11 x12 x13) : q_m_stop_0 cd (M 4) (M 5) (M 6) ld hu si ev at_ kn cl sn lv be mi av a b post := by
  unfold AN_stop at hp
  refine e_layAllM hc (fun hn x y z w => iz ?_) (fun k e hk he ea eb h1 h2 => oi ?_)
  · rw [if_neg hn] at hp
    exact hp _ _ _ _ _ _ _ _ _ _ _ _ _
  · rw [if_pos ⟨h1, h2⟩, ea, eb] at hp
    refine e_deedsM he ?_
    obtain ⟨c, ec, -, hc40, -⟩ := iv_nI (ev0_iv hE he) (by decide)
    rw [ec] at hp ⊢
    rw [cN_nI (by omega)] at hp
    exact e_playM hk he (by omega) hL hE (LK_row hK hk (by rw [← ea]; exact h1.2)) (fun S' hS => hp _ _ _ _ _ _ _ _ _ _ _ _ _)
set_option maxRecDepth 40000 in
set_option maxHeartbeats 4000000 in
theorem e_x_stop {T : TT} {M : Nat → Nat → Int32} {nf_minute nf_avalanches nf_begun nf_climbed a b : Int32} {na_huts na_known na_levels na_snow : Nat → Int32} {post : Int32 → (Int32) → (Int32) → (Int32) → (Int32) → (Nat → Int32) → (Nat → Int32) → (Nat → Int32) → (Nat → Int32) → Prop} (h : TM T M 0) (hB : tB T) (hK : LK M) (hL : mLand (M 5)) (hE : mEve (M 6)) (hp : ∀ z0 z1 z2 z3 z4 z5 z6 z7, post (AN_stop M a b) z0 z1 z2 z3 z4 z5 z6 z7) : q_wx_X10_stop_0 (T.2 1) (T.1 3) (T.1 4) (T.1 6) (T.1 7) (T.1 8) (T.2 2) (T.2 3) (T.2 4) (T.2 5) (T.2 6) (T.2 7) (T.2 8) (T.2 9) (T.1 10) (T.1 11) (T.1 13) (T.1 14) (T.1 15) (T.2 10) (T.2 11) (T.2 12) (T.2 13) (T.2 14) (T.2 15) (T.2 16) (T.2 17) (T.1 17) (T.2 18) (T.2 19) (T.2 20) (T.1 18) (T.2 21) (T.2 22) (T.2 23) nf_minute nf_avalanches nf_begun nf_climbed na_huts na_known na_levels na_snow a b post := by
  unfold AN_stop at hp
  rw [TM_cnt h 0 (by decide), TM_cnt h 1 (by decide)] at hp
  refine e_at (hB.2.2.1 0) (fun (hn : ¬ (0 ≤ a ∧ a < T.2 1 0)) => ?_) (fun ea hla => ?_) (fun ea hla => ?_)
  · rw [if_neg (fun h9 => hn h9.1)] at hp
    refine ⟨fun _ => ?_, fun h9 => absurd h9 (by decide), fun h9 => absurd rfl h9⟩
    refine e_at (hB.2.2.1 1) (fun (hm : ¬ (0 ≤ b ∧ b < T.2 1 1)) => ?_) (fun eb hlb => ?_) (fun eb hlb => ?_)
    · exact ⟨fun _ => hp _ _ _ _ _ _ _ _, fun h9 => absurd h9 (by decide), fun h9 => absurd rfl h9⟩
    · exact ⟨fun h9 => absurd h9 (by decide), fun h9 => absurd h9 (by decide), fun _ _ => hp _ _ _ _ _ _ _ _⟩
    · exact ⟨fun h9 => absurd h9 (by decide), fun _ => hp _ _ _ _ _ _ _ _, fun _ h9 => absurd rfl h9⟩
  · refine ⟨fun h9 => absurd h9 (by decide), fun h9 => absurd h9 (by decide), fun _ _ => ?_⟩
    refine e_at (hB.2.2.1 1) (fun (hm : ¬ (0 ≤ b ∧ b < T.2 1 1)) => ?_) (fun eb hlb => ?_) (fun eb hlb => ?_)
    · rw [if_neg (fun h9 => hm h9.2)] at hp
      exact ⟨fun _ => hp _ _ _ _ _ _ _ _, fun h9 => absurd h9 (by decide), fun h9 => absurd rfl h9⟩
    · rw [if_pos (by rw [ea, eb]; exact ⟨⟨by decide, hla⟩, by decide, hlb⟩), ea, eb] at hp
      have hLD : LDR (T.1 3) (T.1 4) (T.1 5) (T.1 6) (T.1 7) (T.1 8) (T.1 9) (T.2 2) (T.2 3) (T.2 4) (T.2 5) (T.2 6) (T.2 7) (T.2 8) (T.2 9) (rowM M 0 (nI 0)) := TM_sl h 0 0 (by decide) (by decide) hla
      have hEV : R3 (T.1 17) (T.2 18) (T.2 19) (T.2 20) (rowM M 1 (nI 0)) := TM_sl h 1 0 (by decide) (by decide) hlb
      have hOK : LOK (rowM M 0 (nI 0)) := LK_row hK (by decide) (by rw [TM_cnt h 0 (by decide)]; exact hla)
      refine ⟨fun h9 => absurd h9 (by decide), fun h9 => absurd h9 (by decide), fun _ _ => ?_⟩
      obtain ⟨c, ec, -, hc40, -⟩ := iv_nI (ev0_iv hE (e := 0) (by decide)) (by decide)
      have edc : (T.1 17) = nI c := hEV.1.trans ec
      rw [ec, cN_nI (by omega)] at hp
      exact e_playX (n := c) (RNG_M hL (by decide)) hOK hLD hEV (ev0_iv hE (by decide)) (fun j hj => (eve_iv hE (by decide) hj).1) edc (by rw [edc]; exact le_rf _) (by omega) (fun _ _ _ _ _ _ _ _ _ => hp _ _ _ _ _ _ _ _)
    · rw [if_pos (by rw [ea, eb]; exact ⟨⟨by decide, hla⟩, by decide, hlb⟩), ea, eb] at hp
      have hLD : LDR (T.1 3) (T.1 4) (T.1 5) (T.1 6) (T.1 7) (T.1 8) (T.1 9) (T.2 2) (T.2 3) (T.2 4) (T.2 5) (T.2 6) (T.2 7) (T.2 8) (T.2 9) (rowM M 0 (nI 0)) := TM_sl h 0 0 (by decide) (by decide) hla
      have hEV : R3 (T.1 18) (T.2 21) (T.2 22) (T.2 23) (rowM M 1 (nI 1)) := TM_sl h 1 1 (by decide) (by decide) hlb
      have hOK : LOK (rowM M 0 (nI 0)) := LK_row hK (by decide) (by rw [TM_cnt h 0 (by decide)]; exact hla)
      refine ⟨fun h9 => absurd h9 (by decide), fun _ => ?_, fun _ h9 => absurd rfl h9⟩
      obtain ⟨c, ec, -, hc40, -⟩ := iv_nI (ev0_iv hE (e := 1) (by decide)) (by decide)
      have edc : (T.1 18) = nI c := hEV.1.trans ec
      rw [ec, cN_nI (by omega)] at hp
      exact e_playX (n := c) (RNG_M hL (by decide)) hOK hLD hEV (ev0_iv hE (by decide)) (fun j hj => (eve_iv hE (by decide) hj).1) edc (by rw [edc]; exact le_rf _) (by omega) (fun _ _ _ _ _ _ _ _ _ => hp _ _ _ _ _ _ _ _)
  · refine ⟨fun h9 => absurd h9 (by decide), fun _ => ?_, fun _ h9 => absurd rfl h9⟩
    refine e_at (hB.2.2.1 1) (fun (hm : ¬ (0 ≤ b ∧ b < T.2 1 1)) => ?_) (fun eb hlb => ?_) (fun eb hlb => ?_)
    · rw [if_neg (fun h9 => hm h9.2)] at hp
      exact ⟨fun _ => hp _ _ _ _ _ _ _ _, fun h9 => absurd h9 (by decide), fun h9 => absurd rfl h9⟩
    · rw [if_pos (by rw [ea, eb]; exact ⟨⟨by decide, hla⟩, by decide, hlb⟩), ea, eb] at hp
      have hLD : LDR (T.1 10) (T.1 11) (T.1 12) (T.1 13) (T.1 14) (T.1 15) (T.1 16) (T.2 10) (T.2 11) (T.2 12) (T.2 13) (T.2 14) (T.2 15) (T.2 16) (T.2 17) (rowM M 0 (nI 1)) := TM_sl h 0 1 (by decide) (by decide) hla
      have hEV : R3 (T.1 17) (T.2 18) (T.2 19) (T.2 20) (rowM M 1 (nI 0)) := TM_sl h 1 0 (by decide) (by decide) hlb
      have hOK : LOK (rowM M 0 (nI 1)) := LK_row hK (by decide) (by rw [TM_cnt h 0 (by decide)]; exact hla)
      refine ⟨fun h9 => absurd h9 (by decide), fun h9 => absurd h9 (by decide), fun _ _ => ?_⟩
      obtain ⟨c, ec, -, hc40, -⟩ := iv_nI (ev0_iv hE (e := 0) (by decide)) (by decide)
      have edc : (T.1 17) = nI c := hEV.1.trans ec
      rw [ec, cN_nI (by omega)] at hp
      exact e_playX (n := c) (RNG_M hL (by decide)) hOK hLD hEV (ev0_iv hE (by decide)) (fun j hj => (eve_iv hE (by decide) hj).1) edc (by rw [edc]; exact le_rf _) (by omega) (fun _ _ _ _ _ _ _ _ _ => hp _ _ _ _ _ _ _ _)
    · rw [if_pos (by rw [ea, eb]; exact ⟨⟨by decide, hla⟩, by decide, hlb⟩), ea, eb] at hp
      have hLD : LDR (T.1 10) (T.1 11) (T.1 12) (T.1 13) (T.1 14) (T.1 15) (T.1 16) (T.2 10) (T.2 11) (T.2 12) (T.2 13) (T.2 14) (T.2 15) (T.2 16) (T.2 17) (rowM M 0 (nI 1)) := TM_sl h 0 1 (by decide) (by decide) hla
      have hEV : R3 (T.1 18) (T.2 21) (T.2 22) (T.2 23) (rowM M 1 (nI 1)) := TM_sl h 1 1 (by decide) (by decide) hlb
      have hOK : LOK (rowM M 0 (nI 1)) := LK_row hK (by decide) (by rw [TM_cnt h 0 (by decide)]; exact hla)
      refine ⟨fun h9 => absurd h9 (by decide), fun _ => ?_, fun _ h9 => absurd rfl h9⟩
      obtain ⟨c, ec, -, hc40, -⟩ := iv_nI (ev0_iv hE (e := 1) (by decide)) (by decide)
      have edc : (T.1 18) = nI c := hEV.1.trans ec
      rw [ec, cN_nI (by omega)] at hp
      exact e_playX (n := c) (RNG_M hL (by decide)) hOK hLD hEV (ev0_iv hE (by decide)) (fun j hj => (eve_iv hE (by decide) hj).1) edc (by rw [edc]; exact le_rf _) (by omega) (fun _ _ _ _ _ _ _ _ _ => hp _ _ _ _ _ _ _ _)

