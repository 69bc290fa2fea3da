def pw64 (b : Int32) : Nat → Int64
  | 0 => 1
  | n + 1 => pw64 b n * Int32.toInt64 b
def sdv (s : Int32) : Int32 := if s = 0 ∨ s = 10 then 10 else if s = 5 then 5 else if s - s / 2 * 2 = 0 then 2 else 1
theorem sd_tab : ∀ n, n ≤ 10 → sdv (nI n) = (if nI n - nI n / 10 * 10 = 0 then 10 else if nI n - nI n / 5 * 5 = 0 then 5 else if nI n - nI n / 2 * 2 = 0 then 2 else 1) := by decide +kernel
theorem sd_ne : ∀ n, n ≤ 10 → ¬ sdv (nI n) = 0 := by decide +kernel
theorem le_cN {x : Int32} {j : Nat} (hj : j < 2 ^ 31) : x ≤ nI j ↔ cN x ≤ j := by
  rw [Int32.le_iff_toInt_le, nI_toInt hj]
  have e : cN x = x.toInt.toNat := rfl
  omega
theorem e_sdX {s : Int32} {post : Int32 → Prop} (hs : iv 0 10 s) (hp : ¬ sdv s = 0 → post (sdv s)) : q_z_X10_sharedDivisor_0 s post := by
  obtain ⟨n, rfl, -, hn, -⟩ := iv_nI hs (by decide)
  have hq := hp (sd_ne n (by omega))
  rw [sd_tab n (by omega)] at hq
  refine ⟨fun h10 => ⟨fun h5 => ⟨fun h2 => ?_, fun h2 => ?_⟩, fun h5 => ?_⟩, fun h10 => ?_⟩
  · rw [if_neg h10, if_neg h5, if_neg h2] at hq; exact hq
  · rw [if_neg h10, if_neg h5, if_pos h2] at hq; exact hq
  · rw [if_neg h10, if_pos h5] at hq; exact hq
  · rw [if_pos h10] at hq; exact hq
theorem e_powX {b x : Int32} {post : Int64 → Prop} (hp : post (pw64 b (cN x))) : q_z_X10_power_0 b x post := by
  have hb : cN x < 2 ^ 31 := by
    have e : cN x = x.toInt.toNat := rfl
    have := (iv_top x).2
    omega
  intro P hP
  have loop : ∀ m j, m = cN x - j → j ≤ cN x → P (pw64 b j) (nI j) := by
    intro m
    induction m using Nat.strongRecOn with
    | ind m ih =>
      intro j hm hj
      apply hP
      refine ⟨fun h => ?_, fun h v e v2 e2 => ?_⟩
      · have := (le_cN (by omega)).mp h
        rw [show cN x = j by omega] at hp
        exact hp
      · have h9 : ¬ cN x ≤ j := fun h9 => h ((le_cN (by omega)).mpr h9)
        rw [e2, nI_1]
        have e3 : v = pw64 b (j + 1) := e
        rw [e3]
        exact ih (cN x - (j + 1)) (by omega) (j + 1) rfl (by omega)
  exact loop _ 0 rfl (by omega)
def OD (td : Nat → Int32) (av c : Int32) : Int64 := if c = 2 then Int32.toInt64 (av * (10 - td 6)) else if av ≤ 18 then pw64 ((if c = 0 then td 6 else 10) / sdv (td 6)) (cN av) else -1
def AN_odds (M : Nat → Nat → Int32) (a b c : Int32) : Int64 := if (0 ≤ a ∧ a < M 4 0) ∧ (0 ≤ b ∧ b < M 4 1) then (if 0 ≤ c ∧ c ≤ 2 then OD (rowM M 0 a) ((PL M a b (cN (rowM M 1 b 0))).2 5 2) c else -1) else -1
theorem e_od136 {M : Nat → Nat → Int32} {cd hu si ev be mi av c y : Int32} {k : Nat} {at_ kn cl sn lv : Nat → Int32} {post : Int64 → Int32 → Int32 → Int32 → Int32 → Int32 → (Nat → Int32) → (Nat → Int32) → (Nat → Int32) → (Nat → Int32) → (Nat → Int32) → Int32 → Int32 → Int32 → Prop} (hk : k < 2) (hy : y = sdv (tdM M k 6)) (hy0 : ¬ y = 0) (hc2 : ¬ c = 2) (h18 : av ≤ 18) (hp : post (OD (tdM M k) av c) cd (nI k) hu si ev at_ kn cl sn lv be mi av) : q_m_odds_125 cd (M 4) (M 5) (M 6) (nI k) hu si ev at_ kn cl sn lv be mi av c y post := by
  unfold OD at hp
  rw [if_neg hc2, if_pos h18] at hp
  have hb : cN av < 2 ^ 31 := by
    have e : cN av = av.toInt.toNat := rfl
    have := (iv_top av).2
    omega
  intro P hP
  have loop : ∀ m j, m = cN av - j → j ≤ cN av → P (pw64 (tdM M k 6 / y) j) (pw64 (10 / y) j) (nI j) := by
    intro m
    induction m using Nat.strongRecOn with
    | ind m ih =>
      intro j hm hj
      apply hP
      refine ⟨fun h => ?_, fun h => e_of (i := 6) hk (by omega) rfl ⟨hy0, fun v e => ⟨hy0, fun v2 e2 v3 e3 => ?_⟩⟩⟩
      · have := (le_cN (by omega)).mp h
        rw [show cN av = j by omega, ← hy] at hp
        refine ⟨fun h0 => ?_, fun h0 => ?_⟩
        · rw [if_neg h0] at hp; exact hp
        · rw [if_pos h0] at hp; exact hp
      · have h9 : ¬ cN av ≤ j := fun h9 => h ((le_cN (by omega)).mpr h9)
        rw [e3, nI_1]
        have e4 : v = pw64 (tdM M k 6 / y) (j + 1) := e
        have e5 : v2 = pw64 (10 / y) (j + 1) := e2
        rw [e4, e5]
        exact ih (cN av - (j + 1)) (by omega) (j + 1) rfl (by omega)
  exact loop _ 0 rfl (by omega)
set_option maxRecDepth 40000 in
set_option maxHeartbeats 4000000 in
theorem e_m_odds {M : Nat → Nat → Int32} {f_code f_land f_huts f_singers f_evening f_begun f_minute f_avalanches a b c : Int32} {a_at a_knows a_climbed a_snow a_level : Nat → Int32} {post : Int64 → (Int32) → (Int32) → (Int32) → (Int32) → (Int32) → (Nat → Int32) → (Nat → Int32) → (Nat → Int32) → (Nat → Int32) → (Nat → Int32) → (Int32) → (Int32) → (Int32) → Prop} (hc : ∀ o, iv 0 2 (M 4 o)) (hL : mLand (M 5)) (hE : mEve (M 6)) (hK : LK M) (hp : ∀ z0 z1 z2 z3 z4 z5 z6 z7 z8 z9 z10 z11 z12, post (AN_odds M a b c) z0 z1 z2 z3 z4 z5 z6 z7 z8 z9 z10 z11 z12) : q_m_odds_0 f_code (M 4) (M 5) (M 6) f_land f_huts f_singers f_evening a_at a_knows a_climbed a_snow a_level f_begun f_minute f_avalanches a b c post := by
  unfold AN_odds at hp
  have no : ¬ ((0 ≤ a ∧ a < M 4 0) ∧ (0 ≤ b ∧ b < M 4 1)) ∨ ¬ (0 ≤ c ∧ c ≤ 2) → ∀ z0 z1 z2 z3 z4 z5 z6 z7 z8 z9 z10 z11 z12, post (-1) z0 z1 z2 z3 z4 z5 z6 z7 z8 z9 z10 z11 z12 := by
    intro hn
    by_cases h1 : (0 ≤ a ∧ a < M 4 0) ∧ (0 ≤ b ∧ b < M 4 1)
    · rw [if_pos h1, if_neg (by rcases hn with h | h; exact absurd h1 h; exact h)] at hp; exact hp
    · rw [if_neg h1] at hp; exact hp
  refine sp_in (fun hn => iz (no (Or.inr hn) _ _ _ _ _ _ _ _ _ _ _ _ _)) (fun g1 g2 => oi ?_)
  refine e_layAllM hc (fun hn x y z w => zi (no (Or.inl hn) _ _ _ _ _ _ _ _ _ _ _ _ _)) (fun k e hk he ea eb h1 h2 => io ?_)
  rw [if_pos ⟨h1, h2⟩, if_pos ⟨g1, g2⟩, ea, eb] at hp
  refine e_deedsM he ?_
  obtain ⟨n, en, -, hn40, -⟩ := iv_nI (ev0_iv hE he) (by decide)
  rw [en] at hp ⊢
  rw [cN_nI (by omega)] at hp
  refine e_playM hk he (by omega) hL hE (LK_row hK hk (by rw [← ea]; exact h1.2)) (fun S' hS => ?_)
  have ev : S' 5 2 = (PL M (nI k) (nI e) n).2 5 2 := hS.2.2.2.2.2
  rw [← ev] at hp
  refine ⟨fun hc2 => ⟨fun h18 => ?_, fun h18 => ?_⟩, fun hc2 => e_of (i := 6) hk (by omega) rfl ?_⟩
  · obtain ⟨s, es, -, hs10, -⟩ := iv_nI (show iv 0 10 (rowM M 0 (nI k) 6) from row_iv hL hk (by omega)) (by decide)
    have fin : ∀ y, y = sdv (tdM M k 6) → q_m_odds_125 0 (M 4) (M 5) (M 6) (nI k) (tdM M k 0) (tdM M k 1) (nI e) (S' 0) (S' 1) (S' 2) (S' 3) (S' 4) (S' 5 0) (S' 5 1) (S' 5 2) c y post := fun y hy => e_od136 hk hy (by rw [hy, show tdM M k 6 = nI s from es]; exact sd_ne s (by omega)) hc2 h18 (hp _ _ _ _ _ _ _ _ _ _ _ _ _)
    refine e_of (i := 6) hk (by omega) rfl ⟨fun h0 => fin 10 ?_, fun h0 => e_of (i := 6) hk (by omega) rfl ⟨fun h10 => e_of (i := 6) hk (by omega) rfl ⟨fun h5 => e_of (i := 6) hk (by omega) rfl ⟨fun hd => fin 1 ?_, fun hd => fin 2 ?_⟩, fun h5 => fin 5 ?_⟩, fun h10 => fin 10 ?_⟩⟩
    · unfold sdv; rw [if_pos (Or.inl h0)]
    · unfold sdv; rw [if_neg (fun h => by rcases h with h | h; exact h0 h; exact h10 h), if_neg h5, if_neg hd]
    · unfold sdv; rw [if_neg (fun h => by rcases h with h | h; exact h0 h; exact h10 h), if_neg h5, if_pos hd]
    · unfold sdv; rw [if_neg (fun h => by rcases h with h | h; exact h0 h; exact h10 h), if_pos h5]
    · unfold sdv; rw [if_pos (Or.inr h10)]
  · unfold OD at hp
    rw [if_neg hc2, if_neg h18] at hp
    exact hp _ _ _ _ _ _ _ _ _ _ _ _ _
  · unfold OD at hp
    rw [if_pos hc2] at hp
    exact hp _ _ _ _ _ _ _ _ _ _ _ _ _
set_option maxRecDepth 40000 in
set_option maxHeartbeats 4000000 in
theorem e_x_odds {T : TT} {M : Nat → Nat → Int32} {nf_minute nf_avalanches nf_begun nf_climbed a b c : Int32} {na_huts na_known na_levels na_snow : Nat → Int32} {post : Int64 → (Int32) → (Int32) → (Int32) → (Int32) → (Nat → Int32) → (Nat → Int32) → (Nat → Int32) → (Nat → Int32) → Prop} (h : TM T M 0) (hB : tB T) (hK : LK M) (hL : mLand (M 5)) (hE : mEve (M 6)) (hp : ∀ z0 z1 z2 z3 z4 z5 z6 z7, post (AN_odds M a b c) z0 z1 z2 z3 z4 z5 z6 z7) : q_wx_X10_odds_0 (T.2 1) (T.1 3) (T.1 4) (T.1 6) (T.1 7) (T.1 8) (T.1 9) (T.2 2) (T.2 3) (T.2 4) (T.2 5) (T.2 6) (T.2 7) (T.2 8) (T.2 9) (T.1 10) (T.1 11) (T.1 13) (T.1 14) (T.1 15) (T.1 16) (T.2 10) (T.2 11) (T.2 12) (T.2 13) (T.2 14) (T.2 15) (T.2 16) (T.2 17) (T.1 17) (T.2 18) (T.2 19) (T.2 20) (T.1 18) (T.2 21) (T.2 22) (T.2 23) nf_minute nf_avalanches nf_begun nf_climbed na_huts na_known na_levels na_snow a b c post := by
  unfold AN_odds at hp
  rw [TM_cnt h 0 (by decide), TM_cnt h 1 (by decide)] at hp
  refine e_at (hB.2.2.1 0) (fun (hn : ¬ (0 ≤ a ∧ a < T.2 1 0)) => ?_) (fun ea hla => ?_) (fun ea hla => ?_)
  · rw [if_neg (fun h9 => hn h9.1)] at hp
    refine ⟨fun _ => ?_, fun h9 => absurd h9 (by decide), fun h9 => absurd rfl h9⟩
    refine e_at (hB.2.2.1 1) (fun (hm : ¬ (0 ≤ b ∧ b < T.2 1 1)) => ?_) (fun eb hlb => ?_) (fun eb hlb => ?_)
    · exact ⟨fun _ => hp _ _ _ _ _ _ _ _, fun h9 => absurd h9 (by decide), fun h9 => absurd rfl h9⟩
    · exact ⟨fun h9 => absurd h9 (by decide), fun h9 => absurd h9 (by decide), fun _ _ => hp _ _ _ _ _ _ _ _⟩
    · exact ⟨fun h9 => absurd h9 (by decide), fun _ => hp _ _ _ _ _ _ _ _, fun _ h9 => absurd rfl h9⟩
  · refine ⟨fun h9 => absurd h9 (by decide), fun h9 => absurd h9 (by decide), fun _ _ => ?_⟩
    refine e_at (hB.2.2.1 1) (fun (hm : ¬ (0 ≤ b ∧ b < T.2 1 1)) => ?_) (fun eb hlb => ?_) (fun eb hlb => ?_)
    · rw [if_neg (fun h9 => hm h9.2)] at hp
      exact ⟨fun _ => hp _ _ _ _ _ _ _ _, fun h9 => absurd h9 (by decide), fun h9 => absurd rfl h9⟩
    · rw [if_pos (by rw [ea, eb]; exact ⟨⟨by decide, hla⟩, by decide, hlb⟩), ea, eb] at hp
      have hLD : LDR (T.1 3) (T.1 4) (T.1 5) (T.1 6) (T.1 7) (T.1 8) (T.1 9) (T.2 2) (T.2 3) (T.2 4) (T.2 5) (T.2 6) (T.2 7) (T.2 8) (T.2 9) (rowM M 0 (nI 0)) := TM_sl h 0 0 (by decide) (by decide) hla
      have hEV : R3 (T.1 17) (T.2 18) (T.2 19) (T.2 20) (rowM M 1 (nI 0)) := TM_sl h 1 0 (by decide) (by decide) hlb
      have hOK : LOK (rowM M 0 (nI 0)) := LK_row hK (by decide) (by rw [TM_cnt h 0 (by decide)]; exact hla)
      refine ⟨fun h9 => absurd h9 (by decide), fun h9 => absurd h9 (by decide), fun _ _ => ?_⟩
      refine ⟨fun h0 => ?_, fun h0 => ⟨fun h2 => ?_, fun h2 => ?_⟩⟩
      · rw [if_neg (fun h9 => absurd h0 (Int32.not_lt.mpr h9.1))] at hp; exact hp _ _ _ _ _ _ _ _
      · rw [if_pos ⟨Int32.not_lt.mp h0, h2⟩] at hp
        obtain ⟨n, ec, -, hc40, -⟩ := iv_nI (ev0_iv hE (e := 0) (by decide)) (by decide)
        have edc : (T.1 17) = nI n := hEV.1.trans ec
        rw [ec, cN_nI (by omega)] at hp
        refine e_playX (n := n) (RNG_M hL (by decide)) hOK hLD hEV (ev0_iv hE (by decide)) (fun j hj => (eve_iv hE (by decide) hj).1) edc (by rw [edc]; exact le_rf _) (by omega) (fun mi' av' be' cl' hu' kn' lv' sn' hG => ?_)
        have ev : av' = (PL M (nI 0) (nI 0) n).2 5 2 := hG.2.2.2.2.2.2.2
        have e6 := hLD.2.2.2.2.2.2.1
        rw [← ev] at hp
        unfold OD at hp
        rw [← e6] at hp
        have r6 : iv 0 10 (T.1 9) := by rw [e6]; exact (row_iv hL (by decide) (by omega) : iv 0 10 (rowM M 0 (nI 0) 6))
        refine ⟨fun hc2 => ⟨fun h18 => e_sdX r6 (fun hne => ⟨fun hc0 => ⟨hne, e_powX ?_⟩, fun hc0 => ⟨hne, e_powX ?_⟩⟩), fun h18 => ?_⟩, fun hc2 => ?_⟩
        · rw [if_neg hc2, if_pos h18, if_neg hc0] at hp; exact hp _ _ _ _ _ _ _ _
        · rw [if_neg hc2, if_pos h18, if_pos hc0] at hp; exact hp _ _ _ _ _ _ _ _
        · rw [if_neg hc2, if_neg h18] at hp; exact hp _ _ _ _ _ _ _ _
        · rw [if_pos hc2] at hp; exact hp _ _ _ _ _ _ _ _
      · rw [if_neg (fun h9 => h2 h9.2)] at hp; exact hp _ _ _ _ _ _ _ _
    · rw [if_pos (by rw [ea, eb]; exact ⟨⟨by decide, hla⟩, by decide, hlb⟩), ea, eb] at hp
      have hLD : LDR (T.1 3) (T.1 4) (T.1 5) (T.1 6) (T.1 7) (T.1 8) (T.1 9) (T.2 2) (T.2 3) (T.2 4) (T.2 5) (T.2 6) (T.2 7) (T.2 8) (T.2 9) (rowM M 0 (nI 0)) := TM_sl h 0 0 (by decide) (by decide) hla
      have hEV : R3 (T.1 18) (T.2 21) (T.2 22) (T.2 23) (rowM M 1 (nI 1)) := TM_sl h 1 1 (by decide) (by decide) hlb
      have hOK : LOK (rowM M 0 (nI 0)) := LK_row hK (by decide) (by rw [TM_cnt h 0 (by decide)]; exact hla)
      refine ⟨fun h9 => absurd h9 (by decide), fun _ => ?_, fun _ h9 => absurd rfl h9⟩
      refine ⟨fun h0 => ?_, fun h0 => ⟨fun h2 => ?_, fun h2 => ?_⟩⟩
      · rw [if_neg (fun h9 => absurd h0 (Int32.not_lt.mpr h9.1))] at hp; exact hp _ _ _ _ _ _ _ _
      · rw [if_pos ⟨Int32.not_lt.mp h0, h2⟩] at hp
        obtain ⟨n, ec, -, hc40, -⟩ := iv_nI (ev0_iv hE (e := 1) (by decide)) (by decide)
        have edc : (T.1 18) = nI n := hEV.1.trans ec
        rw [ec, cN_nI (by omega)] at hp
        refine e_playX (n := n) (RNG_M hL (by decide)) hOK hLD hEV (ev0_iv hE (by decide)) (fun j hj => (eve_iv hE (by decide) hj).1) edc (by rw [edc]; exact le_rf _) (by omega) (fun mi' av' be' cl' hu' kn' lv' sn' hG => ?_)
        have ev : av' = (PL M (nI 0) (nI 1) n).2 5 2 := hG.2.2.2.2.2.2.2
        have e6 := hLD.2.2.2.2.2.2.1
        rw [← ev] at hp
        unfold OD at hp
        rw [← e6] at hp
        have r6 : iv 0 10 (T.1 9) := by rw [e6]; exact (row_iv hL (by decide) (by omega) : iv 0 10 (rowM M 0 (nI 0) 6))
        refine ⟨fun hc2 => ⟨fun h18 => e_sdX r6 (fun hne => ⟨fun hc0 => ⟨hne, e_powX ?_⟩, fun hc0 => ⟨hne, e_powX ?_⟩⟩), fun h18 => ?_⟩, fun hc2 => ?_⟩
        · rw [if_neg hc2, if_pos h18, if_neg hc0] at hp; exact hp _ _ _ _ _ _ _ _
        · rw [if_neg hc2, if_pos h18, if_pos hc0] at hp; exact hp _ _ _ _ _ _ _ _
        · rw [if_neg hc2, if_neg h18] at hp; exact hp _ _ _ _ _ _ _ _
        · rw [if_pos hc2] at hp; exact hp _ _ _ _ _ _ _ _
      · rw [if_neg (fun h9 => h2 h9.2)] at hp; exact hp _ _ _ _ _ _ _ _
  · refine ⟨fun h9 => absurd h9 (by decide), fun _ => ?_, fun _ h9 => absurd rfl h9⟩
    refine e_at (hB.2.2.1 1) (fun (hm : ¬ (0 ≤ b ∧ b < T.2 1 1)) => ?_) (fun eb hlb => ?_) (fun eb hlb => ?_)
    · rw [if_neg (fun h9 => hm h9.2)] at hp
      exact ⟨fun _ => hp _ _ _ _ _ _ _ _, fun h9 => absurd h9 (by decide), fun h9 => absurd rfl h9⟩
    · rw [if_pos (by rw [ea, eb]; exact ⟨⟨by decide, hla⟩, by decide, hlb⟩), ea, eb] at hp
      have hLD : LDR (T.1 10) (T.1 11) (T.1 12) (T.1 13) (T.1 14) (T.1 15) (T.1 16) (T.2 10) (T.2 11) (T.2 12) (T.2 13) (T.2 14) (T.2 15) (T.2 16) (T.2 17) (rowM M 0 (nI 1)) := TM_sl h 0 1 (by decide) (by decide) hla
      have hEV : R3 (T.1 17) (T.2 18) (T.2 19) (T.2 20) (rowM M 1 (nI 0)) := TM_sl h 1 0 (by decide) (by decide) hlb
      have hOK : LOK (rowM M 0 (nI 1)) := LK_row hK (by decide) (by rw [TM_cnt h 0 (by decide)]; exact hla)
      refine ⟨fun h9 => absurd h9 (by decide), fun h9 => absurd h9 (by decide), fun _ _ => ?_⟩
      refine ⟨fun h0 => ?_, fun h0 => ⟨fun h2 => ?_, fun h2 => ?_⟩⟩
      · rw [if_neg (fun h9 => absurd h0 (Int32.not_lt.mpr h9.1))] at hp; exact hp _ _ _ _ _ _ _ _
      · rw [if_pos ⟨Int32.not_lt.mp h0, h2⟩] at hp
        obtain ⟨n, ec, -, hc40, -⟩ := iv_nI (ev0_iv hE (e := 0) (by decide)) (by decide)
        have edc : (T.1 17) = nI n := hEV.1.trans ec
        rw [ec, cN_nI (by omega)] at hp
        refine e_playX (n := n) (RNG_M hL (by decide)) hOK hLD hEV (ev0_iv hE (by decide)) (fun j hj => (eve_iv hE (by decide) hj).1) edc (by rw [edc]; exact le_rf _) (by omega) (fun mi' av' be' cl' hu' kn' lv' sn' hG => ?_)
        have ev : av' = (PL M (nI 1) (nI 0) n).2 5 2 := hG.2.2.2.2.2.2.2
        have e6 := hLD.2.2.2.2.2.2.1
        rw [← ev] at hp
        unfold OD at hp
        rw [← e6] at hp
        have r6 : iv 0 10 (T.1 16) := by rw [e6]; exact (row_iv hL (by decide) (by omega) : iv 0 10 (rowM M 0 (nI 1) 6))
        refine ⟨fun hc2 => ⟨fun h18 => e_sdX r6 (fun hne => ⟨fun hc0 => ⟨hne, e_powX ?_⟩, fun hc0 => ⟨hne, e_powX ?_⟩⟩), fun h18 => ?_⟩, fun hc2 => ?_⟩
        · rw [if_neg hc2, if_pos h18, if_neg hc0] at hp; exact hp _ _ _ _ _ _ _ _
        · rw [if_neg hc2, if_pos h18, if_pos hc0] at hp; exact hp _ _ _ _ _ _ _ _
        · rw [if_neg hc2, if_neg h18] at hp; exact hp _ _ _ _ _ _ _ _
        · rw [if_pos hc2] at hp; exact hp _ _ _ _ _ _ _ _
      · rw [if_neg (fun h9 => h2 h9.2)] at hp; exact hp _ _ _ _ _ _ _ _
    · rw [if_pos (by rw [ea, eb]; exact ⟨⟨by decide, hla⟩, by decide, hlb⟩), ea, eb] at hp
      have hLD : LDR (T.1 10) (T.1 11) (T.1 12) (T.1 13) (T.1 14) (T.1 15) (T.1 16) (T.2 10) (T.2 11) (T.2 12) (T.2 13) (T.2 14) (T.2 15) (T.2 16) (T.2 17) (rowM M 0 (nI 1)) := TM_sl h 0 1 (by decide) (by decide) hla
      have hEV : R3 (T.1 18) (T.2 21) (T.2 22) (T.2 23) (rowM M 1 (nI 1)) := TM_sl h 1 1 (by decide) (by decide) hlb
      have hOK : LOK (rowM M 0 (nI 1)) := LK_row hK (by decide) (by rw [TM_cnt h 0 (by decide)]; exact hla)
      refine ⟨fun h9 => absurd h9 (by decide), fun _ => ?_, fun _ h9 => absurd rfl h9⟩
      refine ⟨fun h0 => ?_, fun h0 => ⟨fun h2 => ?_, fun h2 => ?_⟩⟩
      · rw [if_neg (fun h9 => absurd h0 (Int32.not_lt.mpr h9.1))] at hp; exact hp _ _ _ _ _ _ _ _
      · rw [if_pos ⟨Int32.not_lt.mp h0, h2⟩] at hp
        obtain ⟨n, ec, -, hc40, -⟩ := iv_nI (ev0_iv hE (e := 1) (by decide)) (by decide)
        have edc : (T.1 18) = nI n := hEV.1.trans ec
        rw [ec, cN_nI (by omega)] at hp
        refine e_playX (n := n) (RNG_M hL (by decide)) hOK hLD hEV (ev0_iv hE (by decide)) (fun j hj => (eve_iv hE (by decide) hj).1) edc (by rw [edc]; exact le_rf _) (by omega) (fun mi' av' be' cl' hu' kn' lv' sn' hG => ?_)
        have ev : av' = (PL M (nI 1) (nI 1) n).2 5 2 := hG.2.2.2.2.2.2.2
        have e6 := hLD.2.2.2.2.2.2.1
        rw [← ev] at hp
        unfold OD at hp
        rw [← e6] at hp
        have r6 : iv 0 10 (T.1 16) := by rw [e6]; exact (row_iv hL (by decide) (by omega) : iv 0 10 (rowM M 0 (nI 1) 6))
        refine ⟨fun hc2 => ⟨fun h18 => e_sdX r6 (fun hne => ⟨fun hc0 => ⟨hne, e_powX ?_⟩, fun hc0 => ⟨hne, e_powX ?_⟩⟩), fun h18 => ?_⟩, fun hc2 => ?_⟩
        · rw [if_neg hc2, if_pos h18, if_neg hc0] at hp; exact hp _ _ _ _ _ _ _ _
        · rw [if_neg hc2, if_pos h18, if_pos hc0] at hp; exact hp _ _ _ _ _ _ _ _
        · rw [if_neg hc2, if_neg h18] at hp; exact hp _ _ _ _ _ _ _ _
        · rw [if_pos hc2] at hp; exact hp _ _ _ _ _ _ _ _
      · rw [if_neg (fun h9 => h2 h9.2)] at hp; exact hp _ _ _ _ _ _ _ _

