section
set_option maxRecDepth 40000 in
set_option maxHeartbeats 4000000 in
theorem e_m_comes {M : Nat → Nat → Int32} {f_code f_land f_huts f_singers a b c : Int32} {a_run : Nat → Int32} {post : Int32 → (Int32) → (Int32) → (Int32) → (Int32) → (Nat → Int32) → Prop} (hc : ∀ o, iv 0 2 (M 4 o)) (hL : mLand (M 5)) (hK : LK M) (hp : ∀ z0 z1 z2 z3 z4, post (AN_comes M a b c) z0 z1 z2 z3 z4) : q_m_comes_0 f_code (M 4) (M 5) f_land f_huts f_singers a_run a b c post := by
  unfold AN_comes at hp
  refine e_hand (hc 0) (fun hno => iz ?_) (fun k hk ea hy => oi ?_)
  · rw [if_neg hno] at hp; exact hp _ _ _ _ _
  rw [if_pos hy] at hp
  subst ea
  have hO : LOK (rowM M 0 (nI k)) := LK_row hK hk hy.2
  have hR : RNG (rowM M 0 (nI k)) := RNG_M hL hk
  obtain ⟨n, hn, hn9⟩ := ln_of hR
  have b0 : iv 0 9 (tdM M k 0) := hR 0 (by omega)
  refine e_isHutM b0 (fun h => iz ?_) (fun h1 => oi (e_isHutM b0 (fun h => zi ?_) (fun h2 => io ?_)))
  · rw [if_neg (fun h9 => h h9.1)] at hp; exact hp _ _ _ _ _
  · rw [if_neg (fun h9 => h h9.2)] at hp; exact hp _ _ _ _ _
  · rw [if_pos ⟨h1, h2⟩] at hp
    rw [hn] at h1 h2
    obtain ⟨f, hf, eb⟩ := lt_n hn9 h1
    obtain ⟨t, ht, ec⟩ := lt_n hn9 h2
    subst eb ec
    rw [hn, cN_nI (by omega), cN_nI (by omega), cN_nI (by omega)] at hp
    refine e_run0M hk hL hO hn hn9 hf rfl (fun run' hr => ⟨vp_in_nI (by omega) (by omega), ?_⟩)
    rw [nI_clamp (by omega), hr t ht]
    exact e_knownM RUN_le (hp _ _ _ _ _)
set_option maxRecDepth 40000 in
set_option maxHeartbeats 4000000 in
theorem e_x_comes {T : TT} {M : Nat → Nat → Int32} {a b c : Int32} {pa_heard : Nat → Int32} {post : Int32 → (Nat → Int32) → Prop} (h : TM T M 0) (hB : tB T) (hK : LK M) (hL : mLand (M 5)) (hp : ∀ z0, post (AN_comes M a b c) z0) : q_wx_X10_comes_0 (T.2 1) (T.1 3) (T.1 6) (T.1 7) (T.2 2) (T.2 4) (T.2 5) (T.2 6) (T.1 10) (T.1 13) (T.1 14) (T.2 10) (T.2 12) (T.2 13) (T.2 14) pa_heard a b c post := by
  unfold AN_comes at hp
  rw [TM_cnt h 0 (by decide)] at hp
  refine e_at (hB.2.2.1 0) (fun (hno : ¬ (0 ≤ a ∧ a < T.2 1 0)) => ?_) (fun ea hla => ?_) (fun ea hla => ?_)
  · rw [if_neg hno] at hp
    exact ⟨fun _ => hp _, fun h9 => absurd h9 (by decide), fun h9 => absurd rfl h9⟩
  · rw [if_pos (by rw [ea]; exact ⟨by decide, hla⟩), ea] at hp
    have hR : RNG (rowM M 0 (nI 0)) := RNG_M hL (by decide)
    have hLD : LDR (T.1 3) (T.1 4) (T.1 5) (T.1 6) (T.1 7) (T.1 8) (T.1 9) (T.2 2) (T.2 3) (T.2 4) (T.2 5) (T.2 6) (T.2 7) (T.2 8) (T.2 9) (rowM M 0 (nI 0)) := TM_sl h 0 0 (by decide) (by decide) hla
    have hX := LX_of hR hLD
    have hOK : LOK (rowM M 0 (nI 0)) := LK_row hK (by decide) (by rw [TM_cnt h 0 (by decide)]; exact hla)
    obtain ⟨n, hn, hn9⟩ := ln_of hR
    refine ⟨fun h9 => absurd h9 (by decide), fun h9 => absurd h9 (by decide), fun _ _ => ?_⟩
    refine e_hhX (fun h => iz ?_) (fun h1 => oi (e_hhX (fun h => zi ?_) (fun h2 => io ?_)))
    · rw [if_neg (fun h9 => h (by rw [hX.1]; exact h9.1))] at hp; exact hp _
    · rw [if_neg (fun h9 => h (by rw [hX.1]; exact h9.2))] at hp; exact hp _
    · rw [hX.1] at h1 h2
      rw [if_pos ⟨h1, h2⟩] at hp
      rw [hn] at h1 h2
      obtain ⟨f, hf, eb⟩ := lt_n hn9 h1
      obtain ⟨t, ht, ec⟩ := lt_n hn9 h2
      subst eb ec
      rw [hn, cN_nI (by omega), cN_nI (by omega), cN_nI (by omega)] at hp
      have ei : (nI f * 9) + nI t = nI (9 * f + t) := by rw [jx9, Nat.mul_comm]
      refine e_hearX hR hX hn hn9 (fun t' ht' => ?_)
      rw [ei]
      refine ⟨vp_in_nI (by omega) (by omega), ?_⟩
      rw [nI_clamp (by omega), ht' f t hf ht]
      exact e_nearX RUN_le (hp _)
  · rw [if_pos (by rw [ea]; exact ⟨by decide, hla⟩), ea] at hp
    have hR : RNG (rowM M 0 (nI 1)) := RNG_M hL (by decide)
    have hLD : LDR (T.1 10) (T.1 11) (T.1 12) (T.1 13) (T.1 14) (T.1 15) (T.1 16) (T.2 10) (T.2 11) (T.2 12) (T.2 13) (T.2 14) (T.2 15) (T.2 16) (T.2 17) (rowM M 0 (nI 1)) := TM_sl h 0 1 (by decide) (by decide) hla
    have hX := LX_of hR hLD
    have hOK : LOK (rowM M 0 (nI 1)) := LK_row hK (by decide) (by rw [TM_cnt h 0 (by decide)]; exact hla)
    obtain ⟨n, hn, hn9⟩ := ln_of hR
    refine ⟨fun h9 => absurd h9 (by decide), fun _ => ?_, fun _ h9 => absurd rfl h9⟩
    refine e_hhX (fun h => iz ?_) (fun h1 => oi (e_hhX (fun h => zi ?_) (fun h2 => io ?_)))
    · rw [if_neg (fun h9 => h (by rw [hX.1]; exact h9.1))] at hp; exact hp _
    · rw [if_neg (fun h9 => h (by rw [hX.1]; exact h9.2))] at hp; exact hp _
    · rw [hX.1] at h1 h2
      rw [if_pos ⟨h1, h2⟩] at hp
      rw [hn] at h1 h2
      obtain ⟨f, hf, eb⟩ := lt_n hn9 h1
      obtain ⟨t, ht, ec⟩ := lt_n hn9 h2
      subst eb ec
      rw [hn, cN_nI (by omega), cN_nI (by omega), cN_nI (by omega)] at hp
      have ei : (nI f * 9) + nI t = nI (9 * f + t) := by rw [jx9, Nat.mul_comm]
      refine e_hearX hR hX hn hn9 (fun t' ht' => ?_)
      rw [ei]
      refine ⟨vp_in_nI (by omega) (by omega), ?_⟩
      rw [nI_clamp (by omega), ht' f t hf ht]
      exact e_nearX RUN_le (hp _)

/-- the best hut so far and its minute -/
def bst (td : Nat → Int32) (n : Nat) : Nat → Int32 × Nat
  | 0 => (-1, 1000)
  | h + 1 => if dam td h = false ∧ lastV td n h n < (bst td n h).2 then (nI h, lastV td n h n) else bst td n h
theorem bst_ok {td : Nat → Int32} {n : Nat} : ∀ m, (bst td n m).2 ≤ 1000 ∧ ((bst td n m).1 = -1 ∨ ∃ h, h < m ∧ (bst td n m).1 = nI h ∧ (bst td n m).2 = lastV td n h n ∧ (bst td n m).2 < 1000)
  | 0 => ⟨Nat.le_refl _, Or.inl rfl⟩
  | m + 1 => by
    obtain ⟨h1, h2⟩ := bst_ok (td := td) (n := n) m
    have e : bst td n (m + 1) = if dam td m = false ∧ lastV td n m n < (bst td n m).2 then (nI m, lastV td n m n) else bst td n m := rfl
    rw [e]
    by_cases hc : dam td m = false ∧ lastV td n m n < (bst td n m).2
    · rw [if_pos hc]
      exact ⟨lastV_le n, Or.inr ⟨m, by omega, rfl, rfl, by show lastV td n m n < 1000; have := hc.2; omega⟩⟩
    · rw [if_neg hc]
      refine ⟨h1, ?_⟩
      rcases h2 with h2 | ⟨h, a1, a2, a3, a4⟩
      · exact Or.inl h2
      · exact Or.inr ⟨h, by omega, a2, a3, a4⟩
def BST (td : Nat → Int32) (n : Nat) (b : Int32) : Int32 := if (bst td n n).1 = -1 ∨ b = 0 then (bst td n n).1 else nI (bst td n n).2
def AN_best (M : Nat → Nat → Int32) (a b : Int32) : Int32 := if 0 ≤ a ∧ a < M 4 0 then BST (rowM M 0 a) (cN (rowM M 0 a 0)) b else -1
theorem nIm1 {h : Nat} (hh : h < 1000) : ¬ nI h = -1 := fun e => by
  have := congrArg Int32.toInt e
  rw [nI_toInt (by omega)] at this
  have e1 : (-1 : Int32).toInt = -1 := rfl
  omega
theorem e_bestHutX {td : Nat → Int32} {t : Nat → Int32} {huts villages dams : Int32} {n : Nat} {post : Int32 → Prop} (hn : td 0 = nI n) (hn9 : n ≤ 9) (h0 : huts = td 0) (h2 : villages = td 2) (h3 : dams = td 3) (ht : ∀ a b, a < n → b < n → t (9 * a + b) = nI (RUN td (td 3) n a b)) (hp : post (bst td n n).1) : q_wp_X7_bestHut_9_0 t huts villages dams post := by
  intro P hP
  have loop : ∀ m h, m = n - h → h ≤ n → P (bst td n h).1 (nI (bst td n h).2) (nI h) := by
    intro m
    induction m using Nat.strongRecOn with
    | ind m ih =>
      intro h hm hh
      apply hP
      obtain ⟨b1, -⟩ := bst_ok (td := td) (n := n) h
      refine pk_le n h (fun h9 => ?_) (fun h9 => ?_) (h0.trans hn)
      · rw [show n = h by omega] at hp; rw [show n = h by omega]; exact hp
      · have e : bst td n (h + 1) = if dam td h = false ∧ lastV td n h n < (bst td n h).2 then (nI h, lastV td n h n) else bst td n h := rfl
        have nx : ∀ x y : Int32, x = (bst td n (h + 1)).1 → y = nI (bst td n (h + 1)).2 → q_wp_X7_bestHut_9_49 P t huts villages dams x y (nI h) post := by
          intro x y hx hy v ev
          rw [ev, hx, hy, nI_1]
          exact ih (n - (h + 1)) (by omega) (h + 1) rfl (by omega)
        have l1 := lastV_le (td := td) (n := n) (f := h) n
        refine e_damX (by omega) (fun hd => zi ?_) (fun hd => io (nx _ _ ?_ ?_))
        · rw [h3] at hd
          have hd' : dam td h = false := hd
          refine e_lastVX hn hn9 h0 h2 h3 h9 rfl ht ?_
          refine pk_le (bst td n h).2 (lastV td n h n) (fun hle => nx _ _ ?_ ?_) (fun hlt => ?_) rfl rfl (by omega) (by omega)
          · rw [e, if_neg (fun q => by have := q.2; omega)]
          · rw [e, if_neg (fun q => by have := q.2; omega)]
          · refine e_lastVX hn hn9 h0 h2 h3 h9 rfl ht (nx _ _ ?_ ?_)
            · rw [e, if_pos ⟨hd', hlt⟩]
            · rw [e, if_pos ⟨hd', hlt⟩]
        · rw [h3] at hd
          have hd' : dam td h = true := hd
          rw [e, if_neg (fun q => by rw [hd'] at q; exact absurd q.1 (by decide))]
        · rw [h3] at hd
          have hd' : dam td h = true := hd
          rw [e, if_neg (fun q => by rw [hd'] at q; exact absurd q.1 (by decide))]
  exact loop _ 0 rfl (by omega)
set_option maxRecDepth 40000 in
set_option maxHeartbeats 4000000 in
theorem e_m_best {M : Nat → Nat → Int32} {f_code f_land f_huts f_singers a b : Int32} {a_run : Nat → Int32} {post : Int32 → (Int32) → (Int32) → (Int32) → (Int32) → (Nat → Int32) → Prop} (hc : ∀ o, iv 0 2 (M 4 o)) (hL : mLand (M 5)) (hK : LK M) (hp : ∀ z0 z1 z2 z3 z4, post (AN_best M a b) z0 z1 z2 z3 z4) : q_m_best_0 f_code (M 4) (M 5) f_land f_huts f_singers a_run a b post := by
  unfold AN_best at hp
  refine e_hand (hc 0) (fun hno => zi ?_) (fun k hk ea hy => io ?_)
  · rw [if_neg hno] at hp; exact hp _ _ _ _ _
  rw [if_pos hy] at hp
  subst ea
  have hO : LOK (rowM M 0 (nI k)) := LK_row hK hk hy.2
  have hR : RNG (rowM M 0 (nI k)) := RNG_M hL hk
  obtain ⟨n, hn, hn9⟩ := ln_of hR
  rw [hn, cN_nI (by omega)] at hp
  intro P hP
  have u1 : upF 1000 = 1000000 := rfl
  have loop : ∀ m h (run : Nat → Int32), m = n - h → h ≤ n → P (bst (tdM M k) n h).1 (nI (upF (bst (tdM M k) n h).2)) (nI h) run := by
    intro m
    induction m using Nat.strongRecOn with
    | ind m ih =>
      intro h run hm hh
      apply hP
      obtain ⟨b1, b2⟩ := bst_ok (td := tdM M k) (n := n) h
      refine pk_le n h (fun h9 => ?_) (fun h9 => ?_) hn
      · have enh : n = h := by omega
        subst enh
        unfold BST at hp
        have fin : ∀ {c : Int32}, c = (bst (tdM M k) n n).1 → ((bst (tdM M k) n n).1 = -1 ∨ b = 0) → post c 0 (nI k) (tdM M k 0) (tdM M k 1) run := by
          intro c hc2 hq
          rw [if_pos hq] at hp
          rw [hc2]
          exact hp _ _ _ _ _
        refine ⟨fun h8 => fin rfl (Or.inl h8), fun h8 => ⟨fun h7 => ?_, fun h7 => fin rfl (Or.inr h7)⟩⟩
        rw [if_neg (fun q => by rcases q with q | q; exact h8 q; exact h7 q)] at hp
        rcases b2 with b2 | ⟨h', _, _, _, b4⟩
        · exact absurd b2 h8
        · rw [show upF (bst (tdM M k) n n).2 = (bst (tdM M k) n n).2 by unfold upF; rw [if_pos b4]]
          exact hp _ _ _ _ _
      · have e : bst (tdM M k) n (h + 1) = if dam (tdM M k) h = false ∧ lastV (tdM M k) n h n < (bst (tdM M k) n h).2 then (nI h, lastV (tdM M k) n h n) else bst (tdM M k) n h := rfl
        have nx : ∀ (run : Nat → Int32) (l : Nat), l ≤ 1000 → (dam (tdM M k) h = false → l = lastV (tdM M k) n h n) → (dam (tdM M k) h = true → l = 1000) → q_m_best_60 P 0 (M 4) (M 5) (nI k) (tdM M k 0) (tdM M k 1) run b (bst (tdM M k) n h).1 (nI (upF (bst (tdM M k) n h).2)) (nI h) (nI (upF l)) post := by
          intro run l hl hl1 hl2
          have go : ∀ y : Int32, y = (bst (tdM M k) n (h + 1)).1 → q_m_best_75 P 0 (M 4) (M 5) (nI k) (tdM M k 0) (tdM M k 1) run b (nI (upF (bst (tdM M k) n h).2)) (nI h) (nI (upF l)) y post := by
            intro y hy
            refine e_lessM upF_b upF_b (fun v ev => ?_)
            rw [ev, hy, nI_1, upF_min]
            have e3 : min (bst (tdM M k) n h).2 l = (bst (tdM M k) n (h + 1)).2 := by
              rw [e]
              by_cases hc : dam (tdM M k) h = false ∧ lastV (tdM M k) n h n < (bst (tdM M k) n h).2
              · rw [if_pos hc]
                have := hl1 hc.1
                have := hc.2
                show min (bst (tdM M k) n h).2 l = lastV (tdM M k) n h n
                omega
              · rw [if_neg hc]
                cases hd : dam (tdM M k) h with
                | true => have := hl2 hd; omega
                | false =>
                  have := hl1 hd
                  have : ¬ lastV (tdM M k) n h n < (bst (tdM M k) n h).2 := fun q => hc ⟨hd, q⟩
                  omega
            rw [e3]
            exact ih (n - (h + 1)) (by omega) (h + 1) run rfl (by omega)
          have q1 := upF_lt hl b1
          have q2 : upF (bst (tdM M k) n h).2 < 2 ^ 30 := upF_b
          have q3 : upF l < 2 ^ 30 := upF_b
          refine pk_le (upF (bst (tdM M k) n h).2) (upF l) (fun hle => go _ ?_) (fun hlt => go _ ?_) rfl rfl (by omega) (by omega)
          · rw [e, if_neg (fun q => ?_)]
            have h1 := hl1 q.1
            have h2 := q.2
            have := q1.mpr (by omega)
            omega
          · have hlt2 := q1.mp hlt
            cases hd : dam (tdM M k) h with
            | true => have := hl2 hd; omega
            | false => rw [e, if_pos ⟨hd, by rw [← hl1 hd]; exact hlt2⟩]
        refine e_run0M hk hL hO hn hn9 h9 rfl (fun run' hr => ?_)
        refine e_damM hk (by omega) (fun hd => iz ?_) (fun hd => oi ?_)
        · exact e_lastVM hk hn hn9 hr (nx run' _ (lastV_le n) (fun _ => rfl) (fun h2 => by rw [show dam (tdM M k) h = false from hd] at h2; exact absurd h2 (by decide)))
        · exact nx run' 1000 (Nat.le_refl _) (fun h2 => by rw [show dam (tdM M k) h = true from hd] at h2; exact absurd h2 (by decide)) (fun _ => rfl)
  exact loop _ 0 _ rfl (by omega)
set_option maxRecDepth 40000 in
set_option maxHeartbeats 4000000 in
theorem e_x_best {T : TT} {M : Nat → Nat → Int32} {a b : Int32} {pa_heard : Nat → Int32} {post : Int32 → (Nat → Int32) → Prop} (h : TM T M 0) (hB : tB T) (hK : LK M) (hL : mLand (M 5)) (hp : ∀ z0, post (AN_best M a b) z0) : q_wx_X10_best_0 (T.2 1) (T.1 3) (T.1 5) (T.1 6) (T.1 7) (T.2 2) (T.2 4) (T.2 5) (T.2 6) (T.1 10) (T.1 12) (T.1 13) (T.1 14) (T.2 10) (T.2 12) (T.2 13) (T.2 14) pa_heard a b post := by
  unfold AN_best at hp
  rw [TM_cnt h 0 (by decide)] at hp
  refine e_at (hB.2.2.1 0) (fun (hno : ¬ (0 ≤ a ∧ a < T.2 1 0)) => ?_) (fun ea hla => ?_) (fun ea hla => ?_)
  · rw [if_neg hno] at hp
    exact ⟨fun _ => hp _, fun h9 => absurd h9 (by decide), fun h9 => absurd rfl h9⟩
  · rw [if_pos (by rw [ea]; exact ⟨by decide, hla⟩), ea] at hp
    have hR : RNG (rowM M 0 (nI 0)) := RNG_M hL (by decide)
    have hLD : LDR (T.1 3) (T.1 4) (T.1 5) (T.1 6) (T.1 7) (T.1 8) (T.1 9) (T.2 2) (T.2 3) (T.2 4) (T.2 5) (T.2 6) (T.2 7) (T.2 8) (T.2 9) (rowM M 0 (nI 0)) := TM_sl h 0 0 (by decide) (by decide) hla
    have hX := LX_of hR hLD
    have hOK : LOK (rowM M 0 (nI 0)) := LK_row hK (by decide) (by rw [TM_cnt h 0 (by decide)]; exact hla)
    obtain ⟨n, hn, hn9⟩ := ln_of hR
    refine ⟨fun h9 => absurd h9 (by decide), fun h9 => absurd h9 (by decide), fun _ _ => ?_⟩
    rw [hn, cN_nI (by omega)] at hp
    refine e_hearX hR hX hn hn9 (fun t' ht' => e_bestHutX hn hn9 hX.1 hLD.2.2.1 hX.2.2.1 ht' ?_)
    obtain ⟨-, b2⟩ := bst_ok (td := rowM M 0 (nI 0)) (n := n) n
    unfold BST at hp
    refine ⟨fun h8 => ?_, fun h8 => ⟨fun h7 => ?_, fun h7 => ?_⟩⟩
    · rw [if_pos (Or.inl h8)] at hp; exact hp _
    · rw [if_neg (fun q => by rcases q with q | q; exact h8 q; exact h7 q)] at hp
      rcases b2 with b2 | ⟨h', c1, c2, c3, _⟩
      · exact absurd b2 h8
      · rw [c3] at hp
        exact e_lastVX hn hn9 hX.1 hLD.2.2.1 hX.2.2.1 c1 c2 ht' (hp _)
    · rw [if_pos (Or.inr h7)] at hp; exact hp _
  · rw [if_pos (by rw [ea]; exact ⟨by decide, hla⟩), ea] at hp
    have hR : RNG (rowM M 0 (nI 1)) := RNG_M hL (by decide)
    have hLD : LDR (T.1 10) (T.1 11) (T.1 12) (T.1 13) (T.1 14) (T.1 15) (T.1 16) (T.2 10) (T.2 11) (T.2 12) (T.2 13) (T.2 14) (T.2 15) (T.2 16) (T.2 17) (rowM M 0 (nI 1)) := TM_sl h 0 1 (by decide) (by decide) hla
    have hX := LX_of hR hLD
    have hOK : LOK (rowM M 0 (nI 1)) := LK_row hK (by decide) (by rw [TM_cnt h 0 (by decide)]; exact hla)
    obtain ⟨n, hn, hn9⟩ := ln_of hR
    refine ⟨fun h9 => absurd h9 (by decide), fun _ => ?_, fun _ h9 => absurd rfl h9⟩
    rw [hn, cN_nI (by omega)] at hp
    refine e_hearX hR hX hn hn9 (fun t' ht' => e_bestHutX hn hn9 hX.1 hLD.2.2.1 hX.2.2.1 ht' ?_)
    obtain ⟨-, b2⟩ := bst_ok (td := rowM M 0 (nI 1)) (n := n) n
    unfold BST at hp
    refine ⟨fun h8 => ?_, fun h8 => ⟨fun h7 => ?_, fun h7 => ?_⟩⟩
    · rw [if_pos (Or.inl h8)] at hp; exact hp _
    · rw [if_neg (fun q => by rcases q with q | q; exact h8 q; exact h7 q)] at hp
      rcases b2 with b2 | ⟨h', c1, c2, c3, _⟩
      · exact absurd b2 h8
      · rw [c3] at hp
        exact e_lastVX hn hn9 hX.1 hLD.2.2.1 hX.2.2.1 c1 c2 ht' (hp _)
    · rw [if_pos (Or.inr h7)] at hp; exact hp _
end
section
/-- the first least -/
def argm (g : Nat → Nat) : Nat → Int32 × Nat
  | 0 => (-1, 1000)
  | h + 1 => if g h < (argm g h).2 then (nI h, g h) else argm g h
theorem argm_ok {g : Nat → Nat} : ∀ m, (argm g m).2 ≤ 1000 ∧ ((argm g m).1 = -1 ∨ ∃ h, h < m ∧ (argm g m).1 = nI h ∧ (argm g m).2 < 1000)
  | 0 => ⟨Nat.le_refl _, Or.inl rfl⟩
  | m + 1 => by
    obtain ⟨h1, h2⟩ := argm_ok (g := g) m
    have e : argm g (m + 1) = if g m < (argm g m).2 then (nI m, g m) else argm g m := rfl
    rw [e]
    by_cases hc : g m < (argm g m).2
    · rw [if_pos hc]
      exact ⟨by show g m ≤ 1000; omega, Or.inr ⟨m, by omega, rfl, by show g m < 1000; omega⟩⟩
    · rw [if_neg hc]
      refine ⟨h1, ?_⟩
      rcases h2 with h2 | ⟨h, a1, a2, a3⟩
      · exact Or.inl h2
      · exact Or.inr ⟨h, by omega, a2, a3⟩
theorem argm_far {g : Nat → Nat} : ∀ m, (∀ h, h < m → 1000 ≤ g h) → argm g m = (-1, 1000)
  | 0, _ => rfl
  | m + 1, hq => by
    have e : argm g (m + 1) = if g m < (argm g m).2 then (nI m, g m) else argm g m := rfl
    rw [e, argm_far m (fun h hh => hq h (by omega)), if_neg (by have := hq m (by omega); show ¬ g m < 1000; omega)]
theorem argm_ext {g g' : Nat → Nat} : ∀ m, (∀ h, h < m → g h = g' h) → argm g m = argm g' m
  | 0, _ => rfl
  | m + 1, hq => by
    show (if g m < (argm g m).2 then (nI m, g m) else argm g m) = (if g' m < (argm g' m).2 then (nI m, g' m) else argm g' m)
    rw [argm_ext m (fun h hh => hq h (by omega)), hq m (by omega)]
def AM (g : Nat → Nat) (n : Nat) (b : Int32) : Int32 := if (argm g n).1 = -1 ∨ b = 0 then (argm g n).1 else nI (argm g n).2
theorem nIm1' {h : Nat} (hh : h < 1000) : ¬ nI h = -1 := fun e => by
  have := congrArg Int32.toInt e
  rw [nI_toInt (by omega)] at this
  have e1 : (-1 : Int32).toInt = -1 := rfl
  omega
theorem e_tog1 {t : Nat → Int32} {n a b : Nat} {A B g : Nat → Nat} {huts x3 x4 m : Int32} {post : Int32 → Prop} (hn9 : n ≤ 9) (h0 : huts = nI n) (ha : a < n) (hb1 : b < n) (h3 : x3 = nI a) (h4 : x4 = nI b) (hA : ∀ h, h < n → t (9 * a + h) = nI (A h)) (hB : ∀ h, h < n → t (9 * b + h) = nI (B h)) (lA : ∀ h, A h ≤ 1000) (lB : ∀ h, B h ≤ 1000) (hg : ∀ h, h < n → g h = max (A h) (B h)) (hp : post (AM g n m)) : q_wp_X7_together_9_1_0 t huts x3 x4 m post := by
  subst h3 h4
  have ei : ∀ a h : Nat, (nI a * 9) + nI h = nI (9 * a + h) := fun a h => by rw [jx9, Nat.mul_comm]
  intro P hP
  have loop : ∀ w h, w = n - h → h ≤ n → P (argm g h).1 (nI (argm g h).2) (nI h) := by
    intro w
    induction w using Nat.strongRecOn with
    | ind w ih =>
      intro h hw hh
      apply hP
      obtain ⟨b1, b2⟩ := argm_ok (g := g) h
      refine pk_le n h (fun h9 => ?_) (fun h9 => ?_) h0
      · have e : h = n := by omega
        subst e
        unfold AM at hp
        refine ⟨fun h8 => ?_, fun h8 => ⟨fun h7 => ?_, fun h7 => ?_⟩⟩
        · rw [if_pos (Or.inl h8)] at hp; exact hp
        · rw [if_pos (Or.inr h7)] at hp; exact hp
        · rw [if_neg (fun q => by rcases q with q | q; exact h8 q; exact h7 q)] at hp; exact hp
      · rw [ei, ei]
        refine ⟨vp_in_nI (by omega) (by omega), vp_in_nI (by omega) (by omega), fun v ev => ?_⟩
        rw [nI_clamp (by omega), nI_clamp (by omega), hA h h9, hB h h9] at ev
        have l1 := lA h
        have l2 := lB h
        have ev2 : v = nI (g h) := by
          rw [ev, hg h h9]
          by_cases q : A h < B h
          · rw [if_pos (nI_lt q (by omega)), show max (A h) (B h) = B h by omega]
          · rw [if_neg (fun q2 => q ((nI_ltI (by omega) (by omega)).mp q2)), show max (A h) (B h) = A h by omega]
        have hg1 := hg h h9
        have e : argm g (h + 1) = if g h < (argm g h).2 then (nI h, g h) else argm g h := rfl
        have nx : ∀ x y : Int32, x = (argm g (h + 1)).1 → y = nI (argm g (h + 1)).2 → q_wp_X7_together_9_1_59 P t huts (nI a) (nI b) m x y (nI h) post := by
          intro x y hx hy v ev
          rw [ev, hx, hy, nI_1]
          exact ih (n - (h + 1)) (by omega) (h + 1) rfl (by omega)
        refine pk_le (argm g h).2 (g h) (fun hle => nx _ _ ?_ ?_) (fun hlt => nx _ _ ?_ ?_) rfl ev2 (by omega) (by omega)
        · rw [e, if_neg (by omega)]
        · rw [e, if_neg (by omega)]
        · rw [e, if_pos hlt]
        · rw [e, if_pos hlt]; exact ev2
  exact loop _ 0 rfl (by omega)

theorem e_tog2 {t : Nat → Int32} {n a b : Nat} {A B g : Nat → Nat} {huts x3 x4 m : Int32} {post : Int32 → Prop} (hn9 : n ≤ 9) (h0 : huts = nI n) (ha : a < n) (hb1 : b < n) (h3 : x3 = nI a) (h4 : x4 = nI b) (hA : ∀ h, h < n → t (9 * a + h) = nI (A h)) (hB : ∀ h, h < n → t (9 * b + h) = nI (B h)) (lA : ∀ h, A h ≤ 1000) (lB : ∀ h, B h ≤ 1000) (hg : ∀ h, h < n → g h = max (A h) (B h)) (hp : post (AM g n m)) : q_wp_X7_together_9_2_0 t huts x3 x4 m post := by
  subst h3 h4
  have ei : ∀ a h : Nat, (nI a * 9) + nI h = nI (9 * a + h) := fun a h => by rw [jx9, Nat.mul_comm]
  intro P hP
  have loop : ∀ w h, w = n - h → h ≤ n → P (argm g h).1 (nI (argm g h).2) (nI h) := by
    intro w
    induction w using Nat.strongRecOn with
    | ind w ih =>
      intro h hw hh
      apply hP
      obtain ⟨b1, b2⟩ := argm_ok (g := g) h
      refine pk_le n h (fun h9 => ?_) (fun h9 => ?_) h0
      · have e : h = n := by omega
        subst e
        unfold AM at hp
        refine ⟨fun h8 => ?_, fun h8 => ⟨fun h7 => ?_, fun h7 => ?_⟩⟩
        · rw [if_pos (Or.inl h8)] at hp; exact hp
        · rw [if_pos (Or.inr h7)] at hp; exact hp
        · rw [if_neg (fun q => by rcases q with q | q; exact h8 q; exact h7 q)] at hp; exact hp
      · rw [ei, ei]
        refine ⟨vp_in_nI (by omega) (by omega), vp_in_nI (by omega) (by omega), fun v ev => ?_⟩
        rw [nI_clamp (by omega), nI_clamp (by omega), hA h h9, hB h h9] at ev
        have l1 := lA h
        have l2 := lB h
        have ev2 : v = nI (g h) := by
          rw [ev, hg h h9]
          by_cases q : A h < B h
          · rw [if_pos (nI_lt q (by omega)), show max (A h) (B h) = B h by omega]
          · rw [if_neg (fun q2 => q ((nI_ltI (by omega) (by omega)).mp q2)), show max (A h) (B h) = A h by omega]
        have hg1 := hg h h9
        have e : argm g (h + 1) = if g h < (argm g h).2 then (nI h, g h) else argm g h := rfl
        have nx : ∀ x y : Int32, x = (argm g (h + 1)).1 → y = nI (argm g (h + 1)).2 → q_wp_X7_together_9_2_59 P t huts (nI a) (nI b) m x y (nI h) post := by
          intro x y hx hy v ev
          rw [ev, hx, hy, nI_1]
          exact ih (n - (h + 1)) (by omega) (h + 1) rfl (by omega)
        refine pk_le (argm g h).2 (g h) (fun hle => nx _ _ ?_ ?_) (fun hlt => nx _ _ ?_ ?_) rfl ev2 (by omega) (by omega)
        · rw [e, if_neg (by omega)]
        · rw [e, if_neg (by omega)]
        · rw [e, if_pos hlt]
        · rw [e, if_pos hlt]; exact ev2
  exact loop _ 0 rfl (by omega)

def psB (td : Nat → Int32) (n t noon h : Nat) : Bool := decide (RUN td (td 3) n h t ≤ noon)
def hiG (td : Nat → Int32) (p : Nat → Bool) : Nat → Int32
  | 0 => -1
  | h + 1 => if p h = true ∧ (hiG td p h = -1 ∨ td (7 + cN (hiG td p h)) < td (7 + h)) then nI h else hiG td p h
def sooN (r : Nat → Nat) : Nat → Nat
  | 0 => 1000
  | h + 1 => min (sooN r h) (r h)
def leN (r : Nat → Nat) (p : Nat → Bool) : Nat → Nat
  | 0 => 1000
  | h + 1 => if p h = true then min (leN r p h) (r h) else leN r p h
theorem hiG_ok {td : Nat → Int32} {p : Nat → Bool} : ∀ m, hiG td p m = -1 ∨ ∃ h, h < m ∧ hiG td p m = nI h
  | 0 => Or.inl rfl
  | m + 1 => by
    have e : hiG td p (m + 1) = if p m = true ∧ (hiG td p m = -1 ∨ td (7 + cN (hiG td p m)) < td (7 + m)) then nI m else hiG td p m := rfl
    rw [e]
    split
    · exact Or.inr ⟨m, by omega, rfl⟩
    · rcases hiG_ok (td := td) (p := p) m with h | ⟨h, a, b⟩
      · exact Or.inl h
      · exact Or.inr ⟨h, by omega, b⟩
theorem sooN_le {r : Nat → Nat} : ∀ m, sooN r m ≤ 1000
  | 0 => Nat.le_refl _
  | m + 1 => by have := sooN_le (r := r) m; show min (sooN r m) (r m) ≤ 1000; omega
theorem leN_le {r : Nat → Nat} {p : Nat → Bool} : ∀ m, leN r p m ≤ 1000
  | 0 => Nat.le_refl _
  | m + 1 => by
    have := leN_le (r := r) (p := p) m
    have e : leN r p (m + 1) = if p m = true then min (leN r p m) (r m) else leN r p m := rfl
    rw [e]; split <;> omega
/-- where something is within, the least is the least within -/
theorem leN_so {r : Nat → Nat} {q : Nat} (hq : q < 1000) : ∀ m, ((∀ h, h < m → ¬ r h ≤ q) → leN r (fun h => decide (r h ≤ q)) m = 1000 ∧ ¬ sooN r m ≤ q) ∧ ((∃ h, h < m ∧ r h ≤ q) → leN r (fun h => decide (r h ≤ q)) m = sooN r m ∧ sooN r m ≤ q)
  | 0 => ⟨fun _ => ⟨rfl, by show ¬ 1000 ≤ q; omega⟩, fun ⟨h, hh, _⟩ => absurd hh (Nat.not_lt_zero h)⟩
  | m + 1 => by
    obtain ⟨i1, i2⟩ := leN_so (r := r) hq m
    have e1 : leN r (fun h => decide (r h ≤ q)) (m + 1) = if decide (r m ≤ q) = true then min (leN r (fun h => decide (r h ≤ q)) m) (r m) else leN r (fun h => decide (r h ≤ q)) m := rfl
    have e2 : sooN r (m + 1) = min (sooN r m) (r m) := rfl
    rw [e1, e2]
    have hl := leN_le (r := r) (p := fun h => decide (r h ≤ q)) m
    constructor
    · intro h
      obtain ⟨a, b⟩ := i1 (fun k hk => h k (by omega))
      have hm := h m (by omega)
      rw [if_neg (by rw [decide_eq_false hm]; decide)]
      exact ⟨a, by omega⟩
    · rintro ⟨k, hk, hkq⟩
      by_cases hm : r m ≤ q
      · rw [if_pos (decide_eq_true hm)]
        by_cases hx : ∃ h, h < m ∧ r h ≤ q
        · obtain ⟨a, b⟩ := i2 hx
          rw [a]; exact ⟨rfl, by omega⟩
        · obtain ⟨a, b⟩ := i1 (fun h hh hr => hx ⟨h, hh, hr⟩)
          rw [a]; exact ⟨by omega, by omega⟩
      · rw [if_neg (by rw [decide_eq_false hm]; decide)]
        have : k < m := by
          by_cases e : k = m
          · subst e; exact absurd hkq hm
          · omega
        obtain ⟨a, b⟩ := i2 ⟨k, this, hkq⟩
        rw [a]; exact ⟨by omega, by omega⟩
def PSA (td : Nat → Int32) (n t noon : Nat) (w : Int32) : Int32 := if w = 0 then mkB (psB td n t noon) n else if mkB (psB td n t noon) n = 0 then -1 else if w = 1 then hiG td (psB td n t noon) n else nI noon - nI (sooN (fun h => RUN td (td 3) n h t) n)
def AN_psalm (M : Nat → Nat → Int32) (a b c d : Int32) : Int32 := if 0 ≤ a ∧ a < M 4 0 then (if (0 ≤ b ∧ b < rowM M 0 a 0) ∧ (0 ≤ c ∧ c ≤ 99) ∧ (0 ≤ d ∧ d ≤ 2) then PSA (rowM M 0 a) (cN (rowM M 0 a 0)) (cN b) (cN c) d else -2) else -2
theorem mkB_0 {p : Nat → Bool} {n : Nat} (hn : n ≤ 9) : mkB p n = 0 ↔ ∀ h, h < n → p h = false := by
  constructor
  · intro e h hh
    have := hb_mkB (p := p) (k := h) (by omega) n (by omega)
    rw [e, hb_0, decide_eq_true hh, Bool.true_and] at this
    exact this.symm
  · intro e
    apply hb_eq
    intro k hk
    rw [hb_0, hb_mkB hk n (by omega)]
    by_cases h : k < n
    · rw [decide_eq_true h, Bool.true_and, e k h]
    · rw [decide_eq_false h]; rfl
section
variable {td t : Nat → Int32} {n : Nat} {huts x3 : Int32} {heights : Nat → Int32}
theorem e_fromByX {v noon : Nat} {post : Int32 → Prop} {x2 : Int32} (hn9 : n ≤ 9) (h0 : huts = nI n) (hv : v < n) (hx2 : x2 = nI v) (hx3 : x3 = nI noon) (hno : noon < 1000) (ht : ∀ a b, a < n → b < n → t (9 * a + b) = nI (RUN td (td 3) n a b)) (hp : post (mkB (psB td n v noon) n)) : q_wp_X7_fromBy_9_0 t huts x2 x3 post := by
  subst hx2 hx3
  intro P hP
  have loop : ∀ m h, m = n - h → h ≤ n → P (mkB (psB td n v noon) h) (nI h) := by
    intro m
    induction m using Nat.strongRecOn with
    | ind m ih =>
      intro h hm hh
      apply hP
      refine pk_le n h (fun h9 => by rw [show h = n by omega]; exact hp) (fun h9 => ?_) h0
      have ei : (nI h * 9) + nI v = nI (9 * h + v) := by rw [jx9, Nat.mul_comm]
      have e : mkB (psB td n v noon) (h + 1) = mkB (psB td n v noon) h ||| (if psB td n v noon h = true then bitI h else 0) := rfl
      have nx : ∀ y : Int32, y = mkB (psB td n v noon) (h + 1) → q_wp_X7_fromBy_9_40 P t huts (nI v) (nI noon) y (nI h) post := by
        intro y hy v ev
        rw [ev, hy, nI_1]
        exact ih (n - (h + 1)) (by omega) (h + 1) rfl (by omega)
      have l := RUN_le (td := td) (sh := td 3) (n := n) (a := h) (b := v)
      rw [ei]
      refine ⟨vp_in_nI (by omega) (by omega), ?_⟩
      rw [nI_clamp (by omega), ht h v h9 hv]
      refine pk_lt noon (RUN td (td 3) n h v) (fun hlt => nx _ ?_) (fun hle v2 ev => nx _ ?_) rfl rfl (by omega) (by omega)
      · rw [e, if_neg (by unfold psB; rw [decide_eq_false (by omega)]; decide), or_0]
      · rw [e, if_pos (by unfold psB; rw [decide_eq_true (by omega)]), ev]; rfl
  exact loop _ 0 rfl (by omega)
theorem e_sooX {v : Nat} {post : Int32 → Prop} {x2 : Int32} (hn9 : n ≤ 9) (h0 : huts = nI n) (hv : v < n) (hx2 : x2 = nI v) (ht : ∀ a b, a < n → b < n → t (9 * a + b) = nI (RUN td (td 3) n a b)) (hp : post (nI (sooN (fun h => RUN td (td 3) n h v) n))) : q_wp_X7_soonest_9_0 t huts x2 post := by
  subst hx2
  intro P hP
  have loop : ∀ m h, m = n - h → h ≤ n → P (nI (sooN (fun h => RUN td (td 3) n h v) h)) (nI h) := by
    intro m
    induction m using Nat.strongRecOn with
    | ind m ih =>
      intro h hm hh
      apply hP
      refine pk_le n h (fun h9 => by rw [show h = n by omega]; exact hp) (fun h9 => ?_) h0
      have ei : (nI h * 9) + nI v = nI (9 * h + v) := by rw [jx9, Nat.mul_comm]
      rw [ei]
      refine ⟨vp_in_nI (by omega) (by omega), fun w ew v2 ev2 => ?_⟩
      rw [nI_clamp (by omega), ht h v h9 hv] at ew
      have l1 := sooN_le (r := fun h => RUN td (td 3) n h v) h
      have l2 := RUN_le (td := td) (sh := td 3) (n := n) (a := h) (b := v)
      have e2 : sooN (fun h => RUN td (td 3) n h v) (h + 1) = min (sooN (fun h => RUN td (td 3) n h v) h) (RUN td (td 3) n h v) := rfl
      have e : w = nI (sooN (fun h => RUN td (td 3) n h v) (h + 1)) := by
        rw [ew, e2]
        by_cases q : RUN td (td 3) n h v < sooN (fun h => RUN td (td 3) n h v) h
        · rw [if_pos (nI_lt q (by omega)), show min (sooN (fun h => RUN td (td 3) n h v) h) (RUN td (td 3) n h v) = RUN td (td 3) n h v by omega]
        · rw [if_neg (fun q2 => q ((nI_ltI (by omega) (by omega)).mp q2)), show min (sooN (fun h => RUN td (td 3) n h v) h) (RUN td (td 3) n h v) = sooN (fun h => RUN td (td 3) n h v) h by omega]
      rw [ev2, e, nI_1]
      exact ih (n - (h + 1)) (by omega) (h + 1) rfl (by omega)
  exact loop _ 0 rfl (by omega)
theorem e_highestX {p : Nat → Bool} {set : Int32} {post : Int32 → Prop} (hn9 : n ≤ 9) (h0 : huts = nI n) (hh : ∀ j, j < n → heights j = td (7 + j)) (hs : ∀ h, h < n → hb set h = p h) (hp : post (hiG td p n)) : q_wl_X2_highest_0 huts heights set post := by
  intro P hP
  have loop : ∀ m h, m = n - h → h ≤ n → P (hiG td p h) (nI h) := by
    intro m
    induction m using Nat.strongRecOn with
    | ind m ih =>
      intro h hm hhn
      apply hP
      refine pk_le n h (fun h9 => by rw [show h = n by omega]; exact hp) (fun h9 => ?_) h0
      have e : hiG td p (h + 1) = if p h = true ∧ (hiG td p h = -1 ∨ td (7 + cN (hiG td p h)) < td (7 + h)) then nI h else hiG td p h := rfl
      have nx : ∀ y : Int32, y = hiG td p (h + 1) → q_wl_X2_highest_42 P huts heights set y (nI h) post := by
        intro y hy v ev
        rw [ev, hy, nI_1]
        exact ih (n - (h + 1)) (by omega) (h + 1) rfl (by omega)
      refine e_hasX (by omega) (fun q => iz (nx _ ?_)) (fun q => oi ⟨fun q1 => nx _ ?_, fun q1 => ?_⟩)
      · rw [hs h h9] at q
        rw [e, if_neg (fun q2 => by rw [q] at q2; exact absurd q2.1 (by decide))]
      · rw [hs h h9] at q
        rw [e, if_pos ⟨q, Or.inl q1⟩]
      · rw [hs h h9] at q
        rcases hiG_ok (td := td) (p := p) h with q2 | ⟨j, hj, ej⟩
        · exact absurd q2 q1
        · rw [ej]
          refine ⟨vp_in_nI (by omega) (by omega), vp_in_nI (by omega) (by omega), ?_⟩
          rw [nI_clamp (by omega), nI_clamp (by omega), hh h h9, hh j (by omega)]
          rw [ej, cN_nI (by omega)] at e
          refine ⟨fun hle => nx _ ?_, fun hlt => nx _ ?_⟩
          · rw [e, if_neg (fun q2 => ?_)]
            rcases q2.2 with q3 | q3
            · exact nIm1' (by omega) q3
            · exact absurd hle (Int32.not_le.mpr q3)
          · rw [e, if_pos ⟨q, Or.inr (Int32.not_le.mp hlt)⟩]
  exact loop _ 0 rfl (by omega)
end
set_option maxRecDepth 40000 in
set_option maxHeartbeats 4000000 in
theorem e_m_psalm {M : Nat → Nat → Int32} {f_code f_land f_huts f_singers a b c d : Int32} {a_run : Nat → Int32} {post : Int32 → (Int32) → (Int32) → (Int32) → (Int32) → (Nat → Int32) → Prop} (hc : ∀ o, iv 0 2 (M 4 o)) (hL : mLand (M 5)) (hK : LK M) (hp : ∀ z0 z1 z2 z3 z4, post (AN_psalm M a b c d) z0 z1 z2 z3 z4) : q_m_psalm_0 f_code (M 4) (M 5) f_land f_huts f_singers a_run a b c d post := by
  unfold AN_psalm at hp
  refine e_hand (hc 0) (fun hno => iz ?_) (fun k hk ea hy => oi ?_)
  · rw [if_neg hno] at hp; exact hp _ _ _ _ _
  rw [if_pos hy] at hp
  subst ea
  have hO : LOK (rowM M 0 (nI k)) := LK_row hK hk hy.2
  have hR : RNG (rowM M 0 (nI k)) := RNG_M hL hk
  obtain ⟨n, hn, hn9⟩ := ln_of hR
  have b0 : iv 0 9 (tdM M k 0) := hR 0 (by omega)
  refine e_isHutM b0 (fun h => iz ?_) (fun h1 => oi (sp_in (fun h => iz ?_) (fun c1 c2 => oi (sp_in (fun h => zi ?_) (fun d1 d2 => io ?_)))))
  · rw [if_neg (fun h9 => h h9.1)] at hp; exact hp _ _ _ _ _
  · rw [if_neg (fun h9 => h h9.2.1)] at hp; exact hp _ _ _ _ _
  · rw [if_neg (fun h9 => h h9.2.2)] at hp; exact hp _ _ _ _ _
  rw [if_pos ⟨h1, ⟨c1, c2⟩, d1, d2⟩] at hp
  rw [hn] at h1
  obtain ⟨v, hv, eb⟩ := lt_n hn9 h1
  obtain ⟨noon, hno, ec⟩ := nI_of2 (M := 99) (n := 99) (by decide) (Int32.not_lt.mpr c1) c2
  subst eb ec
  rw [hn, cN_nI (by omega), cN_nI (by omega), cN_nI (by omega)] at hp
  intro P hP
  have u1 : upF 1000 = 1000000 := rfl
  have loop : ∀ m h (run : Nat → Int32), m = n - h → h ≤ n → P (mkB (psB (tdM M k) n v noon) h) (hiG (tdM M k) (psB (tdM M k) n v noon) h) (nI (upF (leN (fun h => RUN (tdM M k) (tdM M k 3) n h v) (psB (tdM M k) n v noon) h))) (nI h) run := by
    intro m
    induction m using Nat.strongRecOn with
    | ind m ih =>
      intro h run hm hh
      apply hP
      refine pk_le n h (fun h9 => ?_) (fun h9 => ?_) hn
      · have enh : h = n := by omega
        subst enh
        unfold PSA at hp
        refine ⟨fun w0 => ⟨fun w1 => ⟨fun s0 => ?_, fun s0 => ?_⟩, fun w1 => ?_⟩, fun w0 => ?_⟩
        · rw [if_neg w0, if_neg s0, if_neg w1] at hp
          have hex : ∃ q, q < h ∧ RUN (tdM M k) (tdM M k 3) h q v ≤ noon := by
            apply Classical.byContradiction
            intro hno2
            exact s0 ((mkB_0 hn9).mpr (fun q hq => decide_eq_false (fun h7 => hno2 ⟨q, hq, h7⟩)))
          obtain ⟨e1, e2⟩ := (leN_so (r := fun q => RUN (tdM M k) (tdM M k 3) h q v) (q := noon) (by omega) h).2 hex
          have e3 : leN (fun q => RUN (tdM M k) (tdM M k 3) h q v) (psB (tdM M k) h v noon) h = sooN (fun q => RUN (tdM M k) (tdM M k 3) h q v) h := e1
          rw [e3, show upF (sooN (fun q => RUN (tdM M k) (tdM M k 3) h q v) h) = sooN (fun q => RUN (tdM M k) (tdM M k 3) h q v) h by unfold upF; rw [if_pos (by omega)]]
          exact hp _ _ _ _ _
        · rw [if_neg w0, if_pos s0] at hp; exact hp _ _ _ _ _
        · by_cases s0 : mkB (psB (tdM M k) h v noon) h = 0
          · rw [if_neg w0, if_pos s0] at hp
            have e9 : hiG (tdM M k) (psB (tdM M k) h v noon) h = -1 := by
              have hz := (mkB_0 hn9).mp s0
              have : ∀ j, j ≤ h → hiG (tdM M k) (psB (tdM M k) h v noon) j = -1 := by
                intro j
                induction j with
                | zero => intro _; rfl
                | succ j ihj =>
                  intro hj
                  have e : hiG (tdM M k) (psB (tdM M k) h v noon) (j + 1) = if psB (tdM M k) h v noon j = true ∧ (hiG (tdM M k) (psB (tdM M k) h v noon) j = -1 ∨ tdM M k (7 + cN (hiG (tdM M k) (psB (tdM M k) h v noon) j)) < tdM M k (7 + j)) then nI j else hiG (tdM M k) (psB (tdM M k) h v noon) j := rfl
                  rw [e, if_neg (fun q => by rw [hz j (by omega)] at q; exact absurd q.1 (by decide))]
                  exact ihj (by omega)
              exact this h (Nat.le_refl h)
            rw [e9]; exact hp _ _ _ _ _
          · rw [if_neg w0, if_neg s0, if_pos w1] at hp; exact hp _ _ _ _ _
        · rw [if_pos w0] at hp; exact hp _ _ _ _ _
      · have eS : mkB (psB (tdM M k) n v noon) (h + 1) = mkB (psB (tdM M k) n v noon) h ||| (if psB (tdM M k) n v noon h = true then bitI h else 0) := rfl
        have eH : hiG (tdM M k) (psB (tdM M k) n v noon) (h + 1) = if psB (tdM M k) n v noon h = true ∧ (hiG (tdM M k) (psB (tdM M k) n v noon) h = -1 ∨ tdM M k (7 + cN (hiG (tdM M k) (psB (tdM M k) n v noon) h)) < tdM M k (7 + h)) then nI h else hiG (tdM M k) (psB (tdM M k) n v noon) h := rfl
        have eL : leN (fun h => RUN (tdM M k) (tdM M k 3) n h v) (psB (tdM M k) n v noon) (h + 1) = if psB (tdM M k) n v noon h = true then min (leN (fun h => RUN (tdM M k) (tdM M k 3) n h v) (psB (tdM M k) n v noon) h) (RUN (tdM M k) (tdM M k 3) n h v) else leN (fun h => RUN (tdM M k) (tdM M k 3) n h v) (psB (tdM M k) n v noon) h := rfl
        have nx : ∀ (run : Nat → Int32) (x y w : Int32), x = mkB (psB (tdM M k) n v noon) (h + 1) → y = hiG (tdM M k) (psB (tdM M k) n v noon) (h + 1) → w = nI (upF (leN (fun h => RUN (tdM M k) (tdM M k 3) n h v) (psB (tdM M k) n v noon) (h + 1))) → q_m_psalm_136 P 0 (M 4) (M 5) (nI k) (tdM M k 0) (tdM M k 1) run (nI v) (nI noon) d x y w (nI h) post := by
          intro run x y w hx hy hw v2 ev
          rw [ev, hx, hy, hw, nI_1]
          exact ih (n - (h + 1)) (by omega) (h + 1) run rfl (by omega)
        refine e_run0M hk hL hO hn hn9 h9 rfl (fun run' hr => ⟨vp_in_nI (by omega) (by omega), ?_⟩)
        have hrv := hr v hv
        rw [nI_clamp (by omega), hrv]
        have l := RUN_le (td := tdM M k) (sh := tdM M k 3) (n := n) (a := h) (b := v)
        have hup : noon < upF (RUN (tdM M k) (tdM M k 3) n h v) ↔ noon < RUN (tdM M k) (tdM M k 3) n h v := by
          unfold upF
          split <;> omega
        have ub : upF (RUN (tdM M k) (tdM M k 3) n h v) < 2 ^ 30 := upF_b
        refine pk_lt noon (upF (RUN (tdM M k) (tdM M k 3) n h v)) (fun hlt => ?_) (fun hle v2 ev => ?_) rfl rfl (by omega) (by omega)
        · have hpf : psB (tdM M k) n v noon h = false := decide_eq_false (by have := hup.mp hlt; omega)
          refine nx run' _ _ _ ?_ ?_ ?_
          · rw [eS, if_neg (by rw [hpf]; decide), or_0]
          · rw [eH, if_neg (fun q => by rw [hpf] at q; exact absurd q.1 (by decide))]
          · rw [eL, if_neg (by rw [hpf]; decide)]
        · have hpt : psB (tdM M k) n v noon h = true := decide_eq_true (by
            apply Classical.byContradiction
            intro h3
            have := hup.mpr (by omega)
            omega)
          have ev' : v2 = mkB (psB (tdM M k) n v noon) (h + 1) := by rw [eS, if_pos hpt, ev]; rfl
          have go : ∀ y : Int32, y = hiG (tdM M k) (psB (tdM M k) n v noon) (h + 1) → q_m_psalm_121 P 0 (M 4) (M 5) (nI k) (tdM M k 0) (tdM M k 1) run' (nI v) (nI noon) d v2 (nI (upF (leN (fun h => RUN (tdM M k) (tdM M k 3) n h v) (psB (tdM M k) n v noon) h))) (nI h) y post := by
            intro y hy
            refine ⟨vp_in_nI (by omega) (by omega), ?_⟩
            rw [nI_clamp (by omega), hrv]
            refine e_lessM upF_b upF_b (nx run' _ _ _ ev' hy ?_)
            rw [upF_min, eL, if_pos hpt]
          refine ⟨fun q1 => go _ ?_, fun q1 => ?_⟩
          · rw [eH, if_pos ⟨hpt, Or.inl q1⟩]
          · rcases hiG_ok (td := tdM M k) (p := psB (tdM M k) n v noon) h with q2 | ⟨j, hj, ej⟩
            · exact absurd q2 q1
            · rw [ej] at eH ⊢
              rw [cN_nI (by omega)] at eH
              refine e_of (i := 7 + h) hk (by omega) (jx 7 h) (e_of (i := 7 + j) hk (by omega) (jx 7 j) ⟨fun hle => go _ ?_, fun hlt => go _ ?_⟩)
              · rw [eH, if_neg (fun q2 => ?_)]
                rcases q2.2 with q3 | q3
                · exact nIm1' (by omega) q3
                · exact absurd hle (Int32.not_le.mpr q3)
              · rw [eH, if_pos ⟨hpt, Or.inr (Int32.not_le.mp hlt)⟩]
  exact loop _ 0 _ rfl (by omega)
set_option maxRecDepth 40000 in
set_option maxHeartbeats 4000000 in
theorem e_x_psalm {T : TT} {M : Nat → Nat → Int32} {a b c d : Int32} {pa_heard : Nat → Int32} {post : Int32 → (Nat → Int32) → Prop} (h : TM T M 0) (hB : tB T) (hK : LK M) (hL : mLand (M 5)) (hp : ∀ z0, post (AN_psalm M a b c d) z0) : q_wx_X10_psalm_0 (T.2 1) (T.1 3) (T.1 6) (T.1 7) (T.2 2) (T.2 4) (T.2 5) (T.2 6) (T.1 10) (T.1 13) (T.1 14) (T.2 10) (T.2 12) (T.2 13) (T.2 14) pa_heard a b c d post := by
  unfold AN_psalm at hp
  rw [TM_cnt h 0 (by decide)] at hp
  refine e_at (hB.2.2.1 0) (fun (hno : ¬ (0 ≤ a ∧ a < T.2 1 0)) => ?_) (fun ea hla => ?_) (fun ea hla => ?_)
  · rw [if_neg hno] at hp
    exact ⟨fun _ => hp _, fun h9 => absurd h9 (by decide), fun h9 => absurd rfl h9⟩
  · rw [if_pos (by rw [ea]; exact ⟨by decide, hla⟩), ea] at hp
    have hR : RNG (rowM M 0 (nI 0)) := RNG_M hL (by decide)
    have hLD : LDR (T.1 3) (T.1 4) (T.1 5) (T.1 6) (T.1 7) (T.1 8) (T.1 9) (T.2 2) (T.2 3) (T.2 4) (T.2 5) (T.2 6) (T.2 7) (T.2 8) (T.2 9) (rowM M 0 (nI 0)) := TM_sl h 0 0 (by decide) (by decide) hla
    have hX := LX_of hR hLD
    have hOK : LOK (rowM M 0 (nI 0)) := LK_row hK (by decide) (by rw [TM_cnt h 0 (by decide)]; exact hla)
    obtain ⟨n, hn, hn9⟩ := ln_of hR
    refine ⟨fun h9 => absurd h9 (by decide), fun h9 => absurd h9 (by decide), fun _ _ => ?_⟩
    refine e_hhX (fun h => iz ?_) (fun h1 => oi ⟨fun c1 => ?_, fun c1 => ⟨fun c2 => ?_, fun c2 => ⟨fun d1 => ?_, fun d1 => ⟨fun d2 => ?_, fun d2 => ?_⟩⟩⟩⟩)
    · rw [if_neg (fun h9 => h (by rw [hX.1]; exact h9.1))] at hp; exact hp _
    · rw [if_neg (fun h9 => absurd c1 (Int32.not_lt.mpr h9.2.1.1))] at hp; exact hp _
    · rw [if_neg (fun h9 => absurd c2 (Int32.not_lt.mpr h9.2.1.2))] at hp; exact hp _
    · rw [if_neg (fun h9 => absurd d1 (Int32.not_lt.mpr h9.2.2.1))] at hp; exact hp _
    · rw [hX.1] at h1
      rw [if_pos ⟨h1, ⟨Int32.not_lt.mp c1, Int32.not_lt.mp c2⟩, Int32.not_lt.mp d1, d2⟩] at hp
      rw [hn] at h1
      obtain ⟨v, hv, eb⟩ := lt_n hn9 h1
      obtain ⟨noon, hno, ec⟩ := nI_of2 (M := 99) (n := 99) (by decide) c1 (Int32.not_lt.mp c2)
      subst eb ec
      rw [hn, cN_nI (by omega), cN_nI (by omega), cN_nI (by omega)] at hp
      unfold PSA at hp
      refine e_hearX hR hX hn hn9 (fun t' ht' => e_fromByX hn9 (hX.1.trans hn) hv rfl rfl (by omega) ht' ⟨fun w0 => ⟨fun s0 => ⟨fun w1 => ?_, fun w1 => ?_⟩, fun s0 => ?_⟩, fun w0 => ?_⟩)
      · rw [if_neg w0, if_neg s0, if_neg w1] at hp
        exact e_sooX hn9 (hX.1.trans hn) hv rfl ht' (hp _)
      · rw [if_neg w0, if_neg s0, if_pos w1] at hp
        refine e_highestX (td := rowM M 0 (nI 0)) hn9 (hX.1.trans hn) (fun j hj => hX.2.2.2.2.2.1 j (by omega) (by rw [hn]; exact nI_lt hj (by omega))) (fun h hh => ?_) (hp _)
        rw [hb_mkB (by omega) n (by omega), decide_eq_true hh, Bool.true_and]
      · rw [if_neg w0, if_pos s0] at hp; exact hp _
      · rw [if_pos w0] at hp; exact hp _
    · rw [if_neg (fun h9 => d2 h9.2.2.2)] at hp; exact hp _
  · rw [if_pos (by rw [ea]; exact ⟨by decide, hla⟩), ea] at hp
    have hR : RNG (rowM M 0 (nI 1)) := RNG_M hL (by decide)
    have hLD : LDR (T.1 10) (T.1 11) (T.1 12) (T.1 13) (T.1 14) (T.1 15) (T.1 16) (T.2 10) (T.2 11) (T.2 12) (T.2 13) (T.2 14) (T.2 15) (T.2 16) (T.2 17) (rowM M 0 (nI 1)) := TM_sl h 0 1 (by decide) (by decide) hla
    have hX := LX_of hR hLD
    have hOK : LOK (rowM M 0 (nI 1)) := LK_row hK (by decide) (by rw [TM_cnt h 0 (by decide)]; exact hla)
    obtain ⟨n, hn, hn9⟩ := ln_of hR
    refine ⟨fun h9 => absurd h9 (by decide), fun _ => ?_, fun _ h9 => absurd rfl h9⟩
    refine e_hhX (fun h => iz ?_) (fun h1 => oi ⟨fun c1 => ?_, fun c1 => ⟨fun c2 => ?_, fun c2 => ⟨fun d1 => ?_, fun d1 => ⟨fun d2 => ?_, fun d2 => ?_⟩⟩⟩⟩)
    · rw [if_neg (fun h9 => h (by rw [hX.1]; exact h9.1))] at hp; exact hp _
    · rw [if_neg (fun h9 => absurd c1 (Int32.not_lt.mpr h9.2.1.1))] at hp; exact hp _
    · rw [if_neg (fun h9 => absurd c2 (Int32.not_lt.mpr h9.2.1.2))] at hp; exact hp _
    · rw [if_neg (fun h9 => absurd d1 (Int32.not_lt.mpr h9.2.2.1))] at hp; exact hp _
    · rw [hX.1] at h1
      rw [if_pos ⟨h1, ⟨Int32.not_lt.mp c1, Int32.not_lt.mp c2⟩, Int32.not_lt.mp d1, d2⟩] at hp
      rw [hn] at h1
      obtain ⟨v, hv, eb⟩ := lt_n hn9 h1
      obtain ⟨noon, hno, ec⟩ := nI_of2 (M := 99) (n := 99) (by decide) c1 (Int32.not_lt.mp c2)
      subst eb ec
      rw [hn, cN_nI (by omega), cN_nI (by omega), cN_nI (by omega)] at hp
      unfold PSA at hp
      refine e_hearX hR hX hn hn9 (fun t' ht' => e_fromByX hn9 (hX.1.trans hn) hv rfl rfl (by omega) ht' ⟨fun w0 => ⟨fun s0 => ⟨fun w1 => ?_, fun w1 => ?_⟩, fun s0 => ?_⟩, fun w0 => ?_⟩)
      · rw [if_neg w0, if_neg s0, if_neg w1] at hp
        exact e_sooX hn9 (hX.1.trans hn) hv rfl ht' (hp _)
      · rw [if_neg w0, if_neg s0, if_pos w1] at hp
        refine e_highestX (td := rowM M 0 (nI 1)) hn9 (hX.1.trans hn) (fun j hj => hX.2.2.2.2.2.1 j (by omega) (by rw [hn]; exact nI_lt hj (by omega))) (fun h hh => ?_) (hp _)
        rw [hb_mkB (by omega) n (by omega), decide_eq_true hh, Bool.true_and]
      · rw [if_neg w0, if_pos s0] at hp; exact hp _
      · rw [if_pos w0] at hp; exact hp _
    · rw [if_neg (fun h9 => d2 h9.2.2.2)] at hp; exact hp _

def JG (td : Nat → Int32) (n a b h : Nat) : Nat := max (RUN td (td 3) n a h) (RUN td (td 3) n b h)
def AN_join (M : Nat → Nat → Int32) (a b c d : Int32) : Int32 := if 0 ≤ a ∧ a < M 4 0 then (if (0 ≤ b ∧ b < rowM M 0 a 0) ∧ (0 ≤ c ∧ c < rowM M 0 a 0) then AM (JG (rowM M 0 a) (cN (rowM M 0 a 0)) (cN b) (cN c)) (cN (rowM M 0 a 0)) d else -1) else -1
theorem RUN_dam {td : Nat → Int32} {n a h : Nat} (hd : dam td a = true) : 1000 ≤ RUN td (td 3) n a h := by
  refine fw_row (t := t0F (EL td (td 3)) (WL td) 1000) (fun b => ?_) n h
  unfold t0F EL
  rw [show hb (td 3) a = true from hd]
  simp
set_option maxRecDepth 40000 in
set_option maxHeartbeats 4000000 in
theorem e_m_join {M : Nat → Nat → Int32} {f_code f_land f_huts f_singers a b c d : Int32} {a_run a_other : Nat → Int32} {post : Int32 → (Int32) → (Int32) → (Int32) → (Int32) → (Nat → Int32) → (Nat → Int32) → Prop} (hc : ∀ o, iv 0 2 (M 4 o)) (hL : mLand (M 5)) (hK : LK M) (hp : ∀ z0 z1 z2 z3 z4 z5, post (AN_join M a b c d) z0 z1 z2 z3 z4 z5) : q_m_join_0 f_code (M 4) (M 5) f_land f_huts f_singers a_run a_other a b c d post := by
  unfold AN_join at hp
  refine e_hand (hc 0) (fun hno => iz ?_) (fun k hk ea hy => oi ?_)
  · rw [if_neg hno] at hp; exact hp _ _ _ _ _ _
  rw [if_pos hy] at hp
  subst ea
  have hO : LOK (rowM M 0 (nI k)) := LK_row hK hk hy.2
  have hR : RNG (rowM M 0 (nI k)) := RNG_M hL hk
  obtain ⟨n, hn, hn9⟩ := ln_of hR
  have b0 : iv 0 9 (tdM M k 0) := hR 0 (by omega)
  refine e_isHutM b0 (fun h => iz ?_) (fun h1 => oi (e_isHutM b0 (fun h => zi ?_) (fun h2 => io ?_)))
  · rw [if_neg (fun h9 => h h9.1)] at hp; exact hp _ _ _ _ _ _
  · rw [if_neg (fun h9 => h h9.2)] at hp; exact hp _ _ _ _ _ _
  rw [if_pos ⟨h1, h2⟩] at hp
  rw [hn] at h1 h2
  obtain ⟨f, hf, eb⟩ := lt_n hn9 h1
  obtain ⟨g, hg, ec⟩ := lt_n hn9 h2
  subst eb ec
  rw [hn, cN_nI (by omega), cN_nI (by omega), cN_nI (by omega)] at hp
  refine e_run0M hk hL hO hn hn9 hf rfl (fun run1 hr1 => ?_)
  intro P hP
  have loop : ∀ m h (ot : Nat → Int32), m = n - h → h ≤ n → (∀ j, j < h → ot j = nI (upF (RUN (tdM M k) (tdM M k 3) n f j))) → P (nI h) ot := by
    intro m
    induction m using Nat.strongRecOn with
    | ind m ih =>
      intro h ot hm hh hI
      apply hP
      refine pk_le n h (fun h9 => ?_) (fun h9 => ?_) hn
      · refine e_run0M hk hL hO hn hn9 hg rfl (fun run2 hr2 => ?_)
        intro P2 hP2
        have loop2 : ∀ m j, m = n - j → j ≤ n → P2 (argm (JG (tdM M k) n f g) j).1 (nI (upF (argm (JG (tdM M k) n f g) j).2)) (nI j) := by
          intro m
          induction m using Nat.strongRecOn with
          | ind m ih2 =>
            intro j hm2 hj
            apply hP2
            obtain ⟨b1, b2⟩ := argm_ok (g := JG (tdM M k) n f g) j
            refine pk_le n j (fun h8 => ?_) (fun h8 => ?_) hn
            · have e : j = n := by omega
              subst e
              unfold AM at hp
              refine ⟨fun q => ?_, fun q => ⟨fun q1 => ?_, fun q1 => ?_⟩⟩
              · rw [if_pos (Or.inl q)] at hp; exact hp _ _ _ _ _ _
              · rw [if_neg (fun q2 => by rcases q2 with q2 | q2; exact q q2; exact q1 q2)] at hp
                rcases b2 with b2 | ⟨_, _, _, b4⟩
                · exact absurd b2 q
                · rw [show upF (argm (JG (tdM M k) j f g) j).2 = (argm (JG (tdM M k) j f g) j).2 by unfold upF; rw [if_pos b4]]
                  exact hp _ _ _ _ _ _
              · rw [if_pos (Or.inr q1)] at hp; exact hp _ _ _ _ _ _
            · have hin : vp_in (nI j) 9 := vp_in_nI (by omega) (by omega)
              refine ⟨hin, hin, ?_⟩
              rw [nI_clamp (by omega), hr2 j h8, hI j (by omega)]
              refine e_grM upF_b upF_b ?_
              rw [upF_max, show max (RUN (tdM M k) (tdM M k 3) n g j) (RUN (tdM M k) (tdM M k 3) n f j) = JG (tdM M k) n f g j by unfold JG; omega]
              have lj : JG (tdM M k) n f g j ≤ 1000 := by
                have := RUN_le (td := tdM M k) (sh := tdM M k 3) (n := n) (a := f) (b := j)
                have := RUN_le (td := tdM M k) (sh := tdM M k 3) (n := n) (a := g) (b := j)
                unfold JG; omega
              have e : argm (JG (tdM M k) n f g) (j + 1) = if JG (tdM M k) n f g j < (argm (JG (tdM M k) n f g) j).2 then (nI j, JG (tdM M k) n f g j) else argm (JG (tdM M k) n f g) j := rfl
              have nx : ∀ x : Int32, x = (argm (JG (tdM M k) n f g) (j + 1)).1 → q_m_join_128 P2 0 (M 4) (M 5) (nI k) (tdM M k 0) (tdM M k 1) run2 ot d (nI (upF (argm (JG (tdM M k) n f g) j).2)) (nI j) (nI (upF (JG (tdM M k) n f g j))) x post := by
                intro x hx
                refine e_lessM upF_b upF_b (fun v ev => ?_)
                rw [ev, hx, nI_1, upF_min, show min (argm (JG (tdM M k) n f g) j).2 (JG (tdM M k) n f g j) = (argm (JG (tdM M k) n f g) (j + 1)).2 by
                  rw [e]
                  by_cases hc : JG (tdM M k) n f g j < (argm (JG (tdM M k) n f g) j).2
                  · rw [if_pos hc]; show min _ _ = JG (tdM M k) n f g j; omega
                  · rw [if_neg hc]; omega]
                exact ih2 (n - (j + 1)) (by omega) (j + 1) rfl (by omega)
              have q1 := upF_lt lj b1
              have q2 : upF (argm (JG (tdM M k) n f g) j).2 < 2 ^ 30 := upF_b
              have q3 : upF (JG (tdM M k) n f g j) < 2 ^ 30 := upF_b
              refine pk_le (upF (argm (JG (tdM M k) n f g) j).2) (upF (JG (tdM M k) n f g j)) (fun hle => nx _ ?_) (fun hlt => nx _ ?_) rfl rfl (by omega) (by omega)
              · rw [e, if_neg (fun q => by have := q1.mpr q; omega)]
              · rw [e, if_pos (q1.mp hlt)]
        exact loop2 _ 0 rfl (by omega)
      · have hin : vp_in (nI h) 9 := vp_in_nI (by omega) (by omega)
        refine ⟨hin, fun v ev => ⟨hin, fun ot' eo v2 ev2 => ?_⟩⟩
        rw [ev2, nI_1]
        rw [nI_clamp (by omega), hr1 h h9] at ev
        rw [nI_clamp (by omega)] at eo
        refine ih (n - (h + 1)) (by omega) (h + 1) ot' rfl (by omega) (fun j hj => ?_)
        rw [eo]
        by_cases e : j = h
        · subst e; rw [up_s, ev]
        · rw [up_n e]; exact hI j (by omega)
  exact loop _ 0 _ rfl (by omega) (fun j hj => absurd hj (Nat.not_lt_zero j))
theorem e_isOpenX {c dm x : Int32} {n : Nat} {post : Int32 → Prop} {td : Nat → Int32} (hn9 : n ≤ 9) (hc : c = nI n) (hd : dm = td 3) (h0 : ¬ (0 ≤ x ∧ x < nI n) → post 0) (h1 : ∀ k, k < n → x = nI k → dam td k = true → post 0) (h2 : ∀ k, k < n → x = nI k → dam td k = false → post 1) : q_wl_X2_isOpen_0 c dm x post := by
  subst hc hd
  unfold q_wl_X2_isOpen_0
  refine e_hhX (fun h => iz (h0 h)) (fun h => oi ?_)
  obtain ⟨k, hk, e⟩ := lt_n hn9 h
  subst e
  exact e_damX (by omega) (fun hd => zi (h2 k hk rfl hd)) (fun hd => io (h1 k hk rfl hd))
set_option maxRecDepth 40000 in
set_option maxHeartbeats 4000000 in
theorem e_x_join {T : TT} {M : Nat → Nat → Int32} {a b c d : Int32} {pa_heard : Nat → Int32} {post : Int32 → (Nat → Int32) → Prop} (h : TM T M 0) (hB : tB T) (hK : LK M) (hL : mLand (M 5)) (hp : ∀ z0, post (AN_join M a b c d) z0) : q_wx_X10_join_0 (T.2 1) (T.1 3) (T.1 6) (T.1 7) (T.2 2) (T.2 4) (T.2 5) (T.2 6) (T.1 10) (T.1 13) (T.1 14) (T.2 10) (T.2 12) (T.2 13) (T.2 14) pa_heard a b c d post := by
  unfold AN_join at hp
  rw [TM_cnt h 0 (by decide)] at hp
  refine e_at (hB.2.2.1 0) (fun (hno : ¬ (0 ≤ a ∧ a < T.2 1 0)) => ?_) (fun ea hla => ?_) (fun ea hla => ?_)
  · rw [if_neg hno] at hp
    exact ⟨fun _ => hp _, fun h9 => absurd h9 (by decide), fun h9 => absurd rfl h9⟩
  · rw [if_pos (by rw [ea]; exact ⟨by decide, hla⟩), ea] at hp
    have hR : RNG (rowM M 0 (nI 0)) := RNG_M hL (by decide)
    have hLD : LDR (T.1 3) (T.1 4) (T.1 5) (T.1 6) (T.1 7) (T.1 8) (T.1 9) (T.2 2) (T.2 3) (T.2 4) (T.2 5) (T.2 6) (T.2 7) (T.2 8) (T.2 9) (rowM M 0 (nI 0)) := TM_sl h 0 0 (by decide) (by decide) hla
    have hX := LX_of hR hLD
    have hOK : LOK (rowM M 0 (nI 0)) := LK_row hK (by decide) (by rw [TM_cnt h 0 (by decide)]; exact hla)
    obtain ⟨n, hn, hn9⟩ := ln_of hR
    refine ⟨fun h9 => absurd h9 (by decide), fun h9 => absurd h9 (by decide), fun _ _ => ?_⟩
    have far : ∀ f g, f < n → g < n → (dam (rowM M 0 (nI 0)) f = true ∨ dam (rowM M 0 (nI 0)) g = true) → AM (JG (rowM M 0 (nI 0)) n f g) n d = -1 := by
      intro f g _ _ hfg
      unfold AM
      rw [argm_far n (fun h _ => by
        unfold JG
        rcases hfg with q | q
        · have := RUN_dam (n := n) (h := h) q; omega
        · have := RUN_dam (n := n) (h := h) q; omega), if_pos (Or.inl rfl)]
    have hb0 : ∀ f, f < n → ¬ (0 ≤ c ∧ c < nI n) → ∀ z0, post (-1) z0 := by
      intro f hf hc z0
      rw [if_neg (fun h9 => hc (by rw [← hn]; exact h9.2))] at hp
      exact hp z0
    refine e_isOpenX hn9 (hX.1.trans hn) hX.2.2.1 (fun h => iz ?_) (fun f hf eb hd => iz ?_) (fun f hf eb hd => oi (e_isOpenX hn9 (hX.1.trans hn) hX.2.2.1 (fun h => zi ?_) (fun g hg ec hd2 => zi ?_) (fun g hg ec hd2 => io ?_)))
    · rw [if_neg (fun h9 => h (by rw [← hn]; exact h9.1))] at hp; exact hp _
    · by_cases hc : 0 ≤ c ∧ c < nI n
      · obtain ⟨g, hg, ec⟩ := lt_n hn9 hc
        subst eb ec
        rw [hn, if_pos ⟨⟨nI_pos' (by omega), nI_lt hf (by omega)⟩, hc⟩, cN_nI (by omega), cN_nI (by omega), cN_nI (by omega), far f g hf hg (Or.inl hd)] at hp
        exact hp _
      · exact hb0 f hf hc _
    · exact hb0 f hf h _
    · subst eb ec
      rw [hn, if_pos ⟨⟨nI_pos' (by omega), nI_lt hf (by omega)⟩, nI_pos' (by omega), nI_lt hg (by omega)⟩, cN_nI (by omega), cN_nI (by omega), cN_nI (by omega), far f g hf hg (Or.inr hd2)] at hp
      exact hp _
    · subst eb ec
      rw [hn, if_pos ⟨⟨nI_pos' (by omega), nI_lt hf (by omega)⟩, nI_pos' (by omega), nI_lt hg (by omega)⟩, cN_nI (by omega), cN_nI (by omega), cN_nI (by omega)] at hp
      exact e_hearX hR hX hn hn9 (fun t' ht' => e_tog1 hn9 (hX.1.trans hn) hf hg rfl rfl (fun h hh => ht' f h hf hh) (fun h hh => ht' g h hg hh) (fun h => RUN_le) (fun h => RUN_le) (fun h _ => rfl) (hp _))
  · rw [if_pos (by rw [ea]; exact ⟨by decide, hla⟩), ea] at hp
    have hR : RNG (rowM M 0 (nI 1)) := RNG_M hL (by decide)
    have hLD : LDR (T.1 10) (T.1 11) (T.1 12) (T.1 13) (T.1 14) (T.1 15) (T.1 16) (T.2 10) (T.2 11) (T.2 12) (T.2 13) (T.2 14) (T.2 15) (T.2 16) (T.2 17) (rowM M 0 (nI 1)) := TM_sl h 0 1 (by decide) (by decide) hla
    have hX := LX_of hR hLD
    have hOK : LOK (rowM M 0 (nI 1)) := LK_row hK (by decide) (by rw [TM_cnt h 0 (by decide)]; exact hla)
    obtain ⟨n, hn, hn9⟩ := ln_of hR
    refine ⟨fun h9 => absurd h9 (by decide), fun _ => ?_, fun _ h9 => absurd rfl h9⟩
    have far : ∀ f g, f < n → g < n → (dam (rowM M 0 (nI 1)) f = true ∨ dam (rowM M 0 (nI 1)) g = true) → AM (JG (rowM M 0 (nI 1)) n f g) n d = -1 := by
      intro f g _ _ hfg
      unfold AM
      rw [argm_far n (fun h _ => by
        unfold JG
        rcases hfg with q | q
        · have := RUN_dam (n := n) (h := h) q; omega
        · have := RUN_dam (n := n) (h := h) q; omega), if_pos (Or.inl rfl)]
    have hb0 : ∀ f, f < n → ¬ (0 ≤ c ∧ c < nI n) → ∀ z0, post (-1) z0 := by
      intro f hf hc z0
      rw [if_neg (fun h9 => hc (by rw [← hn]; exact h9.2))] at hp
      exact hp z0
    refine e_isOpenX hn9 (hX.1.trans hn) hX.2.2.1 (fun h => iz ?_) (fun f hf eb hd => iz ?_) (fun f hf eb hd => oi (e_isOpenX hn9 (hX.1.trans hn) hX.2.2.1 (fun h => zi ?_) (fun g hg ec hd2 => zi ?_) (fun g hg ec hd2 => io ?_)))
    · rw [if_neg (fun h9 => h (by rw [← hn]; exact h9.1))] at hp; exact hp _
    · by_cases hc : 0 ≤ c ∧ c < nI n
      · obtain ⟨g, hg, ec⟩ := lt_n hn9 hc
        subst eb ec
        rw [hn, if_pos ⟨⟨nI_pos' (by omega), nI_lt hf (by omega)⟩, hc⟩, cN_nI (by omega), cN_nI (by omega), cN_nI (by omega), far f g hf hg (Or.inl hd)] at hp
        exact hp _
      · exact hb0 f hf hc _
    · exact hb0 f hf h _
    · subst eb ec
      rw [hn, if_pos ⟨⟨nI_pos' (by omega), nI_lt hf (by omega)⟩, nI_pos' (by omega), nI_lt hg (by omega)⟩, cN_nI (by omega), cN_nI (by omega), cN_nI (by omega), far f g hf hg (Or.inr hd2)] at hp
      exact hp _
    · subst eb ec
      rw [hn, if_pos ⟨⟨nI_pos' (by omega), nI_lt hf (by omega)⟩, nI_pos' (by omega), nI_lt hg (by omega)⟩, cN_nI (by omega), cN_nI (by omega), cN_nI (by omega)] at hp
      exact e_hearX hR hX hn hn9 (fun t' ht' => e_tog1 hn9 (hX.1.trans hn) hf hg rfl rfl (fun h hh => ht' f h hf hh) (fun h hh => ht' g h hg hh) (fun h => RUN_le) (fun h => RUN_le) (fun h _ => rfl) (hp _))
end
section
def E2 (td : Nat → Int32) (a b : Nat) : Bool := decide (a = b) || decide (0 < td (51 + 9 * a + b))
def W2 (td : Nat → Int32) (a b : Nat) : Nat := if a = b then 0 else min 9 (cN (td (51 + 9 * a + b)))
theorem W2_le {td : Nat → Int32} (a b : Nat) : W2 td a b ≤ 9 := by
  unfold W2
  split <;> omega
theorem W2_0 {td : Nat → Int32} (a : Nat) : W2 td a a = 0 := by
  unfold W2
  rw [if_pos rfl]
theorem E2_0 {td : Nat → Int32} (a : Nat) : E2 td a a = true := by
  unfold E2
  rw [decide_eq_true rfl]
  rfl
/-- the way on foot -/
def WK (td : Nat → Int32) (n a b : Nat) : Nat := SD (E2 td) (W2 td) 1000 n a b
theorem WK_le {td : Nat → Int32} {n a b : Nat} : WK td n a b ≤ 1000 := SD_le W2_le (by omega) a b
theorem t0F_le {E : Nat → Nat → Bool} {W : Nat → Nat → Nat} {F : Nat} (hW : ∀ a b, W a b ≤ 9) (hF : 9 ≤ F) (a b : Nat) : t0F E W F a b ≤ F := by
  unfold t0F
  split
  · have := hW a b; omega
  · exact Nat.le_refl _
theorem e_walkW {td t : Nat → Int32} {n : Nat} {huts : Int32} {minutes : Nat → Int32} {post : (Nat → Int32) → Prop} (hR : RNG td) (hn9 : n ≤ 9) (h0 : huts = nI n) (hm : ∀ j, j < 81 → minutes j = td (51 + j)) (hp : ∀ t', (∀ a b, a < n → b < n → t' (9 * a + b) = nI (WK td n a b)) → post t') : q_wp_X7_walk_9_0 t huts minutes post := by
  refine e_fill81_2 (fun t0 ht0 => ?_)
  have ei : ∀ a b : Nat, (nI a * 9) + nI b = nI (9 * a + b) := fun a b => by rw [jx9, Nat.mul_comm]
  intro P hP
  have loop : ∀ m a (t : Nat → Int32), m = n - a → a ≤ n → (∀ a' b, a' < a → b < n → t (9 * a' + b) = nI (t0F (E2 td) (W2 td) 1000 a' b)) → (∀ a' b, a ≤ a' → a' < 9 → b < 9 → t (9 * a' + b) = 1000) → P (nI a) t := by
    intro m
    induction m using Nat.strongRecOn with
    | ind m ih =>
      intro a t hma ha h1 h2
      apply hP
      refine pk_le n a (fun h9 => ?_) (fun h9 => ?_) h0
      · exact e_shorten2 (m := t0F (E2 td) (W2 td) 1000) hn9 h0 (t0F_le W2_le (by omega)) (fun a' b ha' hb1 => h1 a' b (by omega) hb1) hp
      · intro P2 hP2
        have loop2 : ∀ m b (t : Nat → Int32), m = n - b → b ≤ n → (∀ a' b, a' < a → b < n → t (9 * a' + b) = nI (t0F (E2 td) (W2 td) 1000 a' b)) → (∀ a' b, a < a' → a' < 9 → b < 9 → t (9 * a' + b) = 1000) → (∀ b', b' < 9 → t (9 * a + b') = if b' < b ∧ 0 < td (51 + 9 * a + b') then td (51 + 9 * a + b') else 1000) → P2 (nI b) t := by
          intro m
          induction m using Nat.strongRecOn with
          | ind m ih2 =>
            intro b t hm2 hbn g1 g2 g3
            apply hP2
            refine pk_le n b (fun h8 => ?_) (fun h8 => ?_) h0
            · rw [ei]
              refine ⟨vp_in_nI (by omega) (by omega), fun t' et v ev => ?_⟩
              rw [ev, nI_1]
              rw [nI_clamp (by omega)] at et
              refine ih (n - (a + 1)) (by omega) (a + 1) t' rfl (by omega) (fun a' b' ha' hb' => ?_) (fun a' b' ha' h9' hb' => ?_)
              · rw [et]
                by_cases e : a' = a
                · subst e
                  by_cases e2 : b' = a'
                  · subst e2
                    rw [up_s]
                    unfold t0F
                    rw [if_pos (E2_0 b'), W2_0]
                    rfl
                  · rw [up_n (by omega), g3 b' (by omega)]
                    unfold t0F E2 W2
                    rw [decide_eq_false (fun h => e2 h.symm), Bool.false_or]
                    obtain ⟨w, ew, -, hw9, -⟩ := iv_nI (way_iv hR (show a' < 9 by omega) (show b' < 9 by omega)) (by decide)
                    rw [if_neg (fun h : a' = b' => e2 h.symm), ew, cN_nI (by omega), show min 9 w = w by omega]
                    by_cases q : 0 < nI w
                    · rw [if_pos ⟨by omega, q⟩, if_pos (decide_eq_true q)]
                    · rw [if_neg (fun h => q h.2), if_neg (by rw [decide_eq_false q]; decide)]
                      rfl
                · rw [up_n (by omega)]
                  exact g1 a' b' (by omega) hb'
              · rw [et, up_n (by omega)]
                exact g2 a' b' (by omega) h9' hb'
            · rw [ei]
              have nx : ∀ t' : Nat → Int32, (∀ j, ¬ j = 9 * a + b → t' j = t j) → t' (9 * a + b) = (if 0 < td (51 + 9 * a + b) then td (51 + 9 * a + b) else 1000) → q_wp_X7_walk_9_61 P P2 t' huts minutes (nI a) (nI b) post := by
                intro t' k1 k2 v ev
                rw [ev, nI_1]
                refine ih2 (n - (b + 1)) (by omega) (b + 1) t' rfl (by omega) (fun a' b' ha' hb' => ?_) (fun a' b' ha' h9' hb' => ?_) (fun b' hb' => ?_)
                · rw [k1 _ (by omega)]; exact g1 a' b' ha' hb'
                · rw [k1 _ (by omega)]; exact g2 a' b' ha' h9' hb'
                · by_cases e : b' = b
                  · subst e
                    rw [k2]
                    by_cases hl : 0 < td (51 + 9 * a + b')
                    · rw [if_pos hl, if_pos ⟨Nat.lt_succ_self b', hl⟩]
                    · rw [if_neg hl, if_neg (fun q => hl q.2)]
                  · rw [k1 _ (by omega), g3 b' hb']
                    by_cases hl : b' < b ∧ 0 < td (51 + 9 * a + b')
                    · rw [if_pos hl, if_pos ⟨by omega, hl.2⟩]
                    · rw [if_neg hl, if_neg (fun q => hl ⟨by omega, q.2⟩)]
              have hrow := g3 b (by omega)
              rw [if_neg (fun q => absurd q.1 (Nat.lt_irrefl b))] at hrow
              refine ⟨vp_in_nI (by omega) (by omega), fun v ev => ?_⟩
              rw [nI_clamp (by omega), hm (9 * a + b) (by omega), show 51 + (9 * a + b) = 51 + 9 * a + b by omega] at ev
              refine ⟨fun hle => nx t (fun _ _ => rfl) ?_, fun hlt => ⟨vp_in_nI (by omega) (by omega), fun t' et => nx t' (fun j hj => ?_) ?_⟩⟩
              · rw [hrow, if_neg (fun q => ?_)]
                rw [ev] at hle
                exact absurd hle (Int32.not_le.mpr q)
              · rw [et, nI_clamp (by omega), up_n hj]
              · rw [et, nI_clamp (by omega), up_s, ev]
                rw [ev] at hlt
                rw [if_pos (Int32.not_le.mp hlt)]
        exact loop2 _ 0 t rfl (by omega) h1 (fun a' b ha' h9' hb1 => h2 a' b (by omega) h9' hb1) (fun b' hb' => by rw [if_neg (fun q => absurd q.1 (Nat.not_lt_zero b'))]; exact h2 a b' (Nat.le_refl a) (by omega) hb')
  exact loop _ 0 t0 rfl (by omega) (fun a' b ha' => absurd ha' (Nat.not_lt_zero a')) (fun a' b _ ha' hb1 => ht0 _ (by omega))
theorem e_farM {M : Nat → Nat → Int32} {far : Nat → Int32} {k n : Nat} {post : (Nat → Int32) → Prop} (hk : k < 2) (hL : mLand (M 5)) (hn : tdM M k 0 = nI n) (hn9 : n ≤ 9) (hp : ∀ far', (∀ a b, a < n → b < n → far' (9 * a + b) = nI (upF (WK (tdM M k) n a b))) → post far') : q_m_findFar_0 (M 5) (nI k) (tdM M k 0) far post := by
  have hR : RNG (tdM M k) := fun j hj => row_iv hL hk hj
  have ei : ∀ a b : Nat, ((9 : Int32) * nI a) + nI b = nI (9 * a + b) := fun a b => by rw [show (9 : Int32) = nI 9 from rfl, pk_mul, nI_add]
  have hu : ∀ {A B : Prop} (x : Nat), x < 2 ^ 31 → (n ≤ x → A) → (x < n → B) → (tdM M k 0 ≤ nI x → A) ∧ (¬ tdM M k 0 ≤ nI x → B) := fun x hx f g => pk_le n x f g hn rfl (by omega) hx
  have st : ∀ k' a b, fw (t0F (E2 (tdM M k)) (W2 (tdM M k)) 1000000) (k' + 1) a b = min (fw (t0F (E2 (tdM M k)) (W2 (tdM M k)) 1000000) k' a b) (fw (t0F (E2 (tdM M k)) (W2 (tdM M k)) 1000000) k' a k' + fw (t0F (E2 (tdM M k)) (W2 (tdM M k)) 1000000) k' k' b) := fun _ _ _ => rfl
  have le : ∀ k' a b, fw (t0F (E2 (tdM M k)) (W2 (tdM M k)) 1000000) k' a b ≤ 1000000 := fw_le (t0F_le W2_le (by omega))
  -- the stages
  have stages : ∀ far : Nat → Int32, (∀ a b, a < n → b < n → far (9 * a + b) = nI (t0F (E2 (tdM M k)) (W2 (tdM M k)) 1000000 a b)) → q_m_findFar_75 (M 5) (nI k) (tdM M k 0) far 0 post := by
    intro far hf
    intro P hP
    have loop : ∀ w s (t : Nat → Int32), w = n - s → s ≤ n → (∀ a b, a < n → b < n → t (9 * a + b) = nI (fw (t0F (E2 (tdM M k)) (W2 (tdM M k)) 1000000) s a b)) → P (nI s) t := by
      intro w
      induction w using Nat.strongRecOn with
      | ind w ih =>
        intro s t hw hs ht
        apply hP
        refine hu s (by omega) (fun h9 => ?_) (fun h9 => ?_)
        · refine hp t (fun a b ha hb1 => ?_)
          have e : s = n := by omega
          subst e
          rw [ht a b ha hb1]
          have := SD_F (E := E2 (tdM M k)) (W := W2 (tdM M k)) W2_le hn9 (fun a _ => E2_0 a) W2_0 ha hb1
          show nI (SD (E2 (tdM M k)) (W2 (tdM M k)) 1000000 s a b) = _
          rw [this]
          rfl
        · intro P2 hP2
          have loop2 : ∀ w a (t : Nat → Int32), w = n - a → a ≤ n → (∀ a' b, a' < a → b < n → t (9 * a' + b) = nI (fw (t0F (E2 (tdM M k)) (W2 (tdM M k)) 1000000) (s + 1) a' b)) → (∀ a' b, a ≤ a' → a' < n → b < n → t (9 * a' + b) = nI (fw (t0F (E2 (tdM M k)) (W2 (tdM M k)) 1000000) s a' b)) → P2 (nI a) t := by
            intro w
            induction w using Nat.strongRecOn with
            | ind w ih2 =>
              intro a t hw2 ha t1 t2
              apply hP2
              refine hu a (by omega) (fun h8 v ev => ?_) (fun h8 => ?_)
              · rw [ev, nI_1]
                exact ih (n - (s + 1)) (by omega) (s + 1) t rfl (by omega) (fun a' b ha' hb1 => t1 a' b (by omega) hb1)
              · intro P3 hP3
                have loop3 : ∀ w b (t : Nat → Int32), w = n - b → b ≤ n → (∀ a' b, a' < a → b < n → t (9 * a' + b) = nI (fw (t0F (E2 (tdM M k)) (W2 (tdM M k)) 1000000) (s + 1) a' b)) → (∀ b', b' < b → t (9 * a + b') = nI (fw (t0F (E2 (tdM M k)) (W2 (tdM M k)) 1000000) (s + 1) a b')) → (∀ b', b ≤ b' → b' < n → t (9 * a + b') = nI (fw (t0F (E2 (tdM M k)) (W2 (tdM M k)) 1000000) s a b')) → (∀ a' b, a < a' → a' < n → b < n → t (9 * a' + b) = nI (fw (t0F (E2 (tdM M k)) (W2 (tdM M k)) 1000000) s a' b)) → P3 (nI b) t := by
                  intro w
                  induction w using Nat.strongRecOn with
                  | ind w ih3 =>
                    intro b t hw3 hbn r1 r2 r3 r4
                    apply hP3
                    refine hu b (by omega) (fun h7 v ev => ?_) (fun h7 => ?_)
                    · rw [ev, nI_1]
                      exact ih2 (n - (a + 1)) (by omega) (a + 1) t rfl (by omega) (fun a' b' ha' hb' => by
                        by_cases e : a' = a
                        · subst e; exact r2 b' (by omega)
                        · exact r1 a' b' (by omega) hb') (fun a' b' ha' hn' hb' => r4 a' b' (by omega) hn' hb')
                    · rw [ei a b, ei a s, ei s b]
                      have hin1 : vp_in (nI (9 * a + b)) 81 := vp_in_nI (by omega) (by omega)
                      have has : t (9 * a + s) = nI (fw (t0F (E2 (tdM M k)) (W2 (tdM M k)) 1000000) s a s) := by
                        by_cases e : s < b
                        · rw [r2 s e, st]
                          rw [show min (fw (t0F (E2 (tdM M k)) (W2 (tdM M k)) 1000000) s a s) (fw (t0F (E2 (tdM M k)) (W2 (tdM M k)) 1000000) s a s + fw (t0F (E2 (tdM M k)) (W2 (tdM M k)) 1000000) s s s) = fw (t0F (E2 (tdM M k)) (W2 (tdM M k)) 1000000) s a s by omega]
                        · exact r3 s (by omega) h9
                      have hsb : t (9 * s + b) = nI (fw (t0F (E2 (tdM M k)) (W2 (tdM M k)) 1000000) s s b) := by
                        by_cases e1 : s < a
                        · rw [r1 s b e1 h7, st]
                          rw [show min (fw (t0F (E2 (tdM M k)) (W2 (tdM M k)) 1000000) s s b) (fw (t0F (E2 (tdM M k)) (W2 (tdM M k)) 1000000) s s s + fw (t0F (E2 (tdM M k)) (W2 (tdM M k)) 1000000) s s b) = fw (t0F (E2 (tdM M k)) (W2 (tdM M k)) 1000000) s s b by omega]
                        · by_cases e2 : s = a
                          · subst e2; exact r3 b (Nat.le_refl b) h7
                          · exact r4 s b (by omega) h9 h7
                      refine ⟨hin1, vp_in_nI (by omega) (by omega), vp_in_nI (by omega) (by omega), ?_⟩
                      rw [nI_clamp (by omega), nI_clamp (by omega), nI_clamp (by omega), has, hsb, r3 b (Nat.le_refl b) h7, nI_add]
                      have l1 := le s a b
                      have l2 := le s a s
                      have l3 := le s s b
                      refine e_lessM (by omega) (by omega) ⟨hin1, fun t' et v ev => ?_⟩
                      rw [ev, nI_1]
                      refine ih3 (n - (b + 1)) (by omega) (b + 1) t' rfl (by omega) (fun a' b' ha' hb' => ?_) (fun b' hb' => ?_) (fun b' hb1 hb2 => ?_) (fun a' b' ha' hn' hb' => ?_)
                      · rw [et, up_n (by omega)]; exact r1 a' b' ha' hb'
                      · by_cases e : b' = b
                        · subst e; rw [et, up_s, st]
                        · rw [et, up_n (by omega)]; exact r2 b' (by omega)
                      · rw [et, up_n (by omega)]; exact r3 b' (by omega) hb2
                      · rw [et, up_n (by omega)]; exact r4 a' b' ha' hn' hb'
                exact loop3 _ 0 t rfl (by omega) t1 (fun b' hb' => absurd hb' (Nat.not_lt_zero b')) (fun b' _ hb' => t2 a b' (Nat.le_refl a) h8 hb') (fun a' b' ha' hn' hb' => t2 a' b' (by omega) hn' hb')
          exact loop2 _ 0 t rfl (by omega) (fun a' b ha' => absurd ha' (Nat.not_lt_zero a')) (fun a' b _ ha' hb1 => ht a' b ha' hb1)
    exact loop _ 0 far rfl (by omega) hf
  -- the start
  intro P hP
  have loop : ∀ m a (t : Nat → Int32), m = n - a → a ≤ n → (∀ a' b, a' < a → b < n → t (9 * a' + b) = nI (t0F (E2 (tdM M k)) (W2 (tdM M k)) 1000000 a' b)) → P (nI a) t := by
    intro m
    induction m using Nat.strongRecOn with
    | ind m ih =>
      intro a t hma ha h1
      apply hP
      refine hu a (by omega) (fun h9 => stages t (fun a' b ha' hb1 => h1 a' b (by omega) hb1)) (fun h9 => ?_)
      intro P2 hP2
      have loop2 : ∀ m b (t : Nat → Int32), m = n - b → b ≤ n → (∀ a' b, a' < a → b < n → t (9 * a' + b) = nI (t0F (E2 (tdM M k)) (W2 (tdM M k)) 1000000 a' b)) → (∀ b', b' < b → t (9 * a + b') = nI (t0F (E2 (tdM M k)) (W2 (tdM M k)) 1000000 a b')) → P2 (nI b) t := by
        intro m
        induction m using Nat.strongRecOn with
        | ind m ih2 =>
          intro b t hm2 hbn g1 g2
          apply hP2
          refine hu b (by omega) (fun h8 v ev => ?_) (fun h8 => ?_)
          · rw [ev, nI_1]
            exact ih (n - (a + 1)) (by omega) (a + 1) t rfl (by omega) (fun a' b' ha' hb' => by
              by_cases e : a' = a
              · subst e; exact g2 b' (by omega)
              · exact g1 a' b' (by omega) hb')
          · have nx : ∀ z : Int32, z = nI (t0F (E2 (tdM M k)) (W2 (tdM M k)) 1000000 a b) → q_m_findFar_60 P P2 (M 5) (nI k) (tdM M k 0) t (nI a) (nI b) (((9 : Int32) * nI a) + nI b) z post := by
              intro z hz
              unfold q_m_findFar_60
              rw [ei]
              refine ⟨vp_in_nI (by omega) (by omega), fun t' et v ev => ?_⟩
              rw [nI_clamp (by omega)] at et
              rw [ev, nI_1]
              refine ih2 (n - (b + 1)) (by omega) (b + 1) t' rfl (by omega) (fun a' b' ha' hb' => ?_) (fun b' hb' => ?_)
              · rw [et, up_n (by omega)]; exact g1 a' b' ha' hb'
              · by_cases e : b' = b
                · subst e; rw [et, up_s, hz]
                · rw [et, up_n (by omega)]; exact g2 b' (by omega)
            obtain ⟨w, ew, -, hw9, -⟩ := iv_nI (way_iv hR (show a < 9 by omega) (show b < 9 by omega)) (by decide)
            refine ⟨fun hne => ?_, fun heq => nx 0 ?_⟩
            · have hab : ¬ a = b := fun e => hne (by rw [e])
              have et0 : t0F (E2 (tdM M k)) (W2 (tdM M k)) 1000000 a b = if 0 < nI w then w else 1000000 := by
                unfold t0F E2 W2
                rw [decide_eq_false hab, Bool.false_or, if_neg hab, ew, cN_nI (by omega), show min 9 w = w by omega]
                by_cases q : 0 < nI w
                · rw [if_pos q, if_pos (decide_eq_true q)]
                · rw [if_neg q, if_neg (by rw [decide_eq_false q]; decide)]
              have ofw : ∀ {post : Int32 → Prop}, post (nI w) → q_m_way_0 (M 5) (nI k) (nI a) (nI b) post := fun h => e_of (i := 51 + 9 * a + b) hk (by omega) (ix9 a b) (by rw [show rowM M 0 (nI k) (51 + 9 * a + b) = nI w from ew]; exact h)
              refine ofw ⟨fun hle => nx _ ?_, fun hlt => ofw (nx _ ?_)⟩
              · rw [et0, if_neg (fun q => absurd hle (Int32.not_le.mpr q))]; rfl
              · rw [et0, if_pos (Int32.not_le.mp hlt)]
            · have hab : a = b := (nI_eq (by omega) (by omega)).mp heq
              subst hab
              unfold t0F
              rw [if_pos (E2_0 a), W2_0]
              rfl
      exact loop2 _ 0 t rfl (by omega) h1 (fun b' hb' => absurd hb' (Nat.not_lt_zero b'))
  exact loop _ 0 far rfl (by omega) (fun a' b ha' => absurd ha' (Nat.not_lt_zero a'))
end
section
def MG (td : Nat → Int32) (n a b h : Nat) : Nat := max (WK td n a h) (WK td n b h)
def hom (td : Nat → Int32) (s : Nat) : Nat := cN (td (25 + s))
def AN_meet (M : Nat → Nat → Int32) (a b c d : Int32) : Int32 := if 0 ≤ a ∧ a < M 4 0 then (if ((0 ≤ b ∧ b < rowM M 0 a 1) ∧ (0 ≤ c ∧ c < rowM M 0 a 1)) ∧ ¬ b = c then AM (MG (rowM M 0 a) (cN (rowM M 0 a 0)) (hom (rowM M 0 a) (cN b)) (hom (rowM M 0 a) (cN c))) (cN (rowM M 0 a 0)) d else -1) else -1
theorem hom_of {td : Nat → Int32} {n s : Nat} {x : Int32} (hR : RNG td) (hO : LOK td) (hn : td 0 = nI n) (hn9 : n ≤ 9) (h : 0 ≤ x ∧ x < td 1) (hx : x = nI s) (hs : s < 6) : td (25 + s) = nI (hom td s) ∧ hom td s < n := by
  have h8 : iv 0 8 (td (25 + s)) := iv_w (hR (25 + s) (by omega)) (by
    have h2 : s = 0 ∨ s = 1 ∨ s = 2 ∨ s = 3 ∨ s = 4 ∨ s = 5 := by omega
    rcases h2 with rfl | rfl | rfl | rfl | rfl | rfl <;> decide)
  obtain ⟨p, ep, -, hp, -⟩ := iv_nI h8 (by decide)
  have h1 := hO.1 s hs (by rw [← hx]; exact h.2)
  have e : hom td s = p := by unfold hom; rw [ep, cN_nI (by omega)]
  rw [e]
  refine ⟨ep, ?_⟩
  rw [ep, hn] at h1
  exact (nI_ltI (by omega) (by omega)).mp h1
set_option maxRecDepth 40000 in
set_option maxHeartbeats 4000000 in
theorem e_m_meet {M : Nat → Nat → Int32} {f_code f_land f_huts f_singers a b c d : Int32} {a_far : Nat → Int32} {post : Int32 → (Int32) → (Int32) → (Int32) → (Int32) → (Nat → Int32) → Prop} (hc : ∀ o, iv 0 2 (M 4 o)) (hL : mLand (M 5)) (hK : LK M) (hp : ∀ z0 z1 z2 z3 z4, post (AN_meet M a b c d) z0 z1 z2 z3 z4) : q_m_meet_0 f_code (M 4) (M 5) f_land f_huts f_singers a_far a b c d post := by
  unfold AN_meet at hp
  refine e_hand (hc 0) (fun hno => iz ?_) (fun k hk ea hy => oi ?_)
  · rw [if_neg hno] at hp; exact hp _ _ _ _ _
  rw [if_pos hy] at hp
  subst ea
  have hO : LOK (rowM M 0 (nI k)) := LK_row hK hk hy.2
  have hR : RNG (rowM M 0 (nI k)) := RNG_M hL hk
  obtain ⟨n, hn, hn9⟩ := ln_of hR
  have b1' : iv 0 6 (tdM M k 1) := hR 1 (by omega)
  refine e_isSgM b1' (fun h => iz ?_) (fun h1 => oi (e_isSgM b1' (fun h => iz ?_) (fun h2 => oi ⟨fun hne => ?_, fun heq => ?_⟩)))
  · rw [if_neg (fun h9 => h h9.1.1)] at hp; exact hp _ _ _ _ _
  · rw [if_neg (fun h9 => h h9.1.2)] at hp; exact hp _ _ _ _ _
  rotate_left
  · rw [if_neg (fun h9 => h9.2 heq)] at hp; exact hp _ _ _ _ _
  rw [if_pos ⟨⟨h1, h2⟩, hne⟩] at hp
  obtain ⟨s, hs, eb⟩ := lt_nI (m := 6) b1' h1
  obtain ⟨r, hr, ec⟩ := lt_nI (m := 6) b1' h2
  obtain ⟨f1, f2⟩ := hom_of hR hO hn hn9 h1 eb hs
  obtain ⟨g1, g2⟩ := hom_of hR hO hn hn9 h2 ec hr
  subst eb ec
  rw [hn, cN_nI (by omega), cN_nI (by omega), cN_nI (by omega)] at hp
  have hs1 : (25 : Int32) + nI s = nI (25 + s) := jx 25 s
  have hr1 : (25 : Int32) + nI r = nI (25 + r) := jx 25 r
  have ei : ∀ a b : Nat, ((9 : Int32) * nI a) + nI b = nI (9 * a + b) := fun a b => by rw [show (9 : Int32) = nI 9 from rfl, pk_mul, nI_add]
  generalize hom (rowM M 0 (nI k)) s = f at hp f1 f2
  generalize hom (rowM M 0 (nI k)) r = g at hp g1 g2
  refine e_farM hk hL hn hn9 (fun far hf => ?_)
  intro P hP
  have loop : ∀ m j, m = n - j → j ≤ n → P (argm (MG (tdM M k) n f g) j).1 (nI (upF (argm (MG (tdM M k) n f g) j).2)) (nI j) := by
    intro m
    induction m using Nat.strongRecOn with
    | ind m ih2 =>
      intro j hm2 hj
      apply hP
      obtain ⟨b1, b2⟩ := argm_ok (g := MG (tdM M k) n f g) j
      refine pk_le n j (fun h8 => ?_) (fun h8 => ?_) hn
      · have e : j = n := by omega
        subst e
        unfold AM at hp
        refine ⟨fun q => ?_, fun q => ⟨fun q1 => ?_, fun q1 => ?_⟩⟩
        · rw [if_pos (Or.inl q)] at hp; exact hp _ _ _ _ _
        · rw [if_neg (fun q2 => by rcases q2 with q2 | q2; exact q q2; exact q1 q2)] at hp
          rcases b2 with b2 | ⟨_, _, _, b4⟩
          · exact absurd b2 q
          · rw [show upF (argm (MG (tdM M k) j f g) j).2 = (argm (MG (tdM M k) j f g) j).2 by unfold upF; rw [if_pos b4]]
            exact hp _ _ _ _ _
        · rw [if_pos (Or.inr q1)] at hp; exact hp _ _ _ _ _
      · refine e_of (i := 25 + s) hk (by omega) hs1 ?_
        rw [f1, ei]
        refine ⟨vp_in_nI (by omega) (by omega), e_of (i := 25 + r) hk (by omega) hr1 ?_⟩
        rw [g1, ei]
        refine ⟨vp_in_nI (by omega) (by omega), ?_⟩
        rw [nI_clamp (by omega), nI_clamp (by omega), hf f j f2 h8, hf g j g2 h8]
        refine e_grM upF_b upF_b ?_
        rw [upF_max, show max (WK (tdM M k) n f j) (WK (tdM M k) n g j) = MG (tdM M k) n f g j from rfl]
        have lj : MG (tdM M k) n f g j ≤ 1000 := by
          have := WK_le (td := tdM M k) (n := n) (a := f) (b := j)
          have := WK_le (td := tdM M k) (n := n) (a := g) (b := j)
          unfold MG; omega
        have e : argm (MG (tdM M k) n f g) (j + 1) = if MG (tdM M k) n f g j < (argm (MG (tdM M k) n f g) j).2 then (nI j, MG (tdM M k) n f g j) else argm (MG (tdM M k) n f g) j := rfl
        have nx : ∀ x : Int32, x = (argm (MG (tdM M k) n f g) (j + 1)).1 → q_m_meet_117 P 0 (M 4) (M 5) (nI k) (tdM M k 0) (tdM M k 1) far (nI s) (nI r) d (nI (upF (argm (MG (tdM M k) n f g) j).2)) (nI j) (nI (upF (MG (tdM M k) n f g j))) x post := by
          intro x hx
          refine e_lessM upF_b upF_b (fun v ev => ?_)
          rw [ev, hx, nI_1, upF_min, show min (argm (MG (tdM M k) n f g) j).2 (MG (tdM M k) n f g j) = (argm (MG (tdM M k) n f g) (j + 1)).2 by
            rw [e]
            by_cases hc : MG (tdM M k) n f g j < (argm (MG (tdM M k) n f g) j).2
            · rw [if_pos hc]; show min _ _ = MG (tdM M k) n f g j; omega
            · rw [if_neg hc]; omega]
          exact ih2 (n - (j + 1)) (by omega) (j + 1) rfl (by omega)
        have q1 := upF_lt lj b1
        have q2 : upF (argm (MG (tdM M k) n f g) j).2 < 2 ^ 30 := upF_b
        have q3 : upF (MG (tdM M k) n f g j) < 2 ^ 30 := upF_b
        refine pk_le (upF (argm (MG (tdM M k) n f g) j).2) (upF (MG (tdM M k) n f g j)) (fun hle => nx _ ?_) (fun hlt => nx _ ?_) rfl rfl (by omega) (by omega)
        · rw [e, if_neg (fun q => by have := q1.mpr q; omega)]
        · rw [e, if_pos (q1.mp hlt)]
  exact loop _ 0 rfl (by omega)
set_option maxRecDepth 40000 in
set_option maxHeartbeats 4000000 in
theorem e_x_meet {T : TT} {M : Nat → Nat → Int32} {a b c d : Int32} {pa_walked : Nat → Int32} {post : Int32 → (Nat → Int32) → Prop} (h : TM T M 0) (hB : tB T) (hK : LK M) (hL : mLand (M 5)) (hp : ∀ z0, post (AN_meet M a b c d) z0) : q_wx_X10_meet_0 (T.2 1) (T.1 3) (T.1 4) (T.2 4) (T.2 7) (T.1 10) (T.1 11) (T.2 12) (T.2 15) pa_walked a b c d post := by
  unfold AN_meet at hp
  rw [TM_cnt h 0 (by decide)] at hp
  refine e_at (hB.2.2.1 0) (fun (hno : ¬ (0 ≤ a ∧ a < T.2 1 0)) => ?_) (fun ea hla => ?_) (fun ea hla => ?_)
  · rw [if_neg hno] at hp
    exact ⟨fun _ => hp _, fun h9 => absurd h9 (by decide), fun h9 => absurd rfl h9⟩
  · rw [if_pos (by rw [ea]; exact ⟨by decide, hla⟩), ea] at hp
    have hR : RNG (rowM M 0 (nI 0)) := RNG_M hL (by decide)
    have hLD : LDR (T.1 3) (T.1 4) (T.1 5) (T.1 6) (T.1 7) (T.1 8) (T.1 9) (T.2 2) (T.2 3) (T.2 4) (T.2 5) (T.2 6) (T.2 7) (T.2 8) (T.2 9) (rowM M 0 (nI 0)) := TM_sl h 0 0 (by decide) (by decide) hla
    have hX := LX_of hR hLD
    have hOK : LOK (rowM M 0 (nI 0)) := LK_row hK (by decide) (by rw [TM_cnt h 0 (by decide)]; exact hla)
    obtain ⟨n, hn, hn9⟩ := ln_of hR
    refine ⟨fun h9 => absurd h9 (by decide), fun h9 => absurd h9 (by decide), fun _ _ => ?_⟩
    have b1' : iv 0 6 (rowM M 0 (nI 0) 1) := hR 1 (by omega)
    have hh := hLD.2.2.2.2.2.2.2.2.2.2.2.1
    have b16 : iv 0 (6 : Nat) (rowM M 0 (nI 0) 1) := hR 1 (by omega)
    refine e_hsX (fun h => iz ?_) (fun h1 => oi (e_hsX (fun h => iz ?_) (fun h2 => oi ⟨fun hne => ?_, fun heq => ?_⟩)))
    · rw [if_neg (fun h9 => h (by rw [hX.2.1]; exact h9.1.1))] at hp; exact hp _
    · rw [if_neg (fun h9 => h (by rw [hX.2.1]; exact h9.1.2))] at hp; exact hp _
    · rw [hX.2.1] at h1 h2
      rw [if_pos ⟨⟨h1, h2⟩, hne⟩] at hp
      obtain ⟨s, hs, eb⟩ := lt_nI (m := 6) b1' h1
      obtain ⟨r, hr, ec⟩ := lt_nI (m := 6) b1' h2
      obtain ⟨f1, f2⟩ := hom_of hR hOK hn hn9 h1 eb hs
      obtain ⟨g1, g2⟩ := hom_of hR hOK hn hn9 h2 ec hr
      subst eb ec
      rw [hn, cN_nI (by omega), cN_nI (by omega), cN_nI (by omega)] at hp
      refine e_walkW hR hn9 (hX.1.trans hn) hX.2.2.2.2.2.2.2.1 (fun t' ht' => ⟨vp_in_nI hs (by omega), vp_in_nI hr (by omega), ?_⟩)
      rw [nI_clamp (by omega), nI_clamp (by omega), (hh s (lt_cln b16 (by omega) h1.2 (by omega))).1, (hh r (lt_cln b16 (by omega) h2.2 (by omega))).1]
      exact e_tog2 hn9 (hX.1.trans hn) f2 g2 f1 g1 (fun h hh => ht' _ h f2 hh) (fun h hh => ht' _ h g2 hh) (fun h => WK_le) (fun h => WK_le) (fun h _ => rfl) (hp _)
    · rw [if_neg (fun h9 => h9.2 heq)] at hp; exact hp _
  · rw [if_pos (by rw [ea]; exact ⟨by decide, hla⟩), ea] at hp
    have hR : RNG (rowM M 0 (nI 1)) := RNG_M hL (by decide)
    have hLD : LDR (T.1 10) (T.1 11) (T.1 12) (T.1 13) (T.1 14) (T.1 15) (T.1 16) (T.2 10) (T.2 11) (T.2 12) (T.2 13) (T.2 14) (T.2 15) (T.2 16) (T.2 17) (rowM M 0 (nI 1)) := TM_sl h 0 1 (by decide) (by decide) hla
    have hX := LX_of hR hLD
    have hOK : LOK (rowM M 0 (nI 1)) := LK_row hK (by decide) (by rw [TM_cnt h 0 (by decide)]; exact hla)
    obtain ⟨n, hn, hn9⟩ := ln_of hR
    refine ⟨fun h9 => absurd h9 (by decide), fun _ => ?_, fun _ h9 => absurd rfl h9⟩
    have b1' : iv 0 6 (rowM M 0 (nI 1) 1) := hR 1 (by omega)
    have hh := hLD.2.2.2.2.2.2.2.2.2.2.2.1
    have b16 : iv 0 (6 : Nat) (rowM M 0 (nI 1) 1) := hR 1 (by omega)
    refine e_hsX (fun h => iz ?_) (fun h1 => oi (e_hsX (fun h => iz ?_) (fun h2 => oi ⟨fun hne => ?_, fun heq => ?_⟩)))
    · rw [if_neg (fun h9 => h (by rw [hX.2.1]; exact h9.1.1))] at hp; exact hp _
    · rw [if_neg (fun h9 => h (by rw [hX.2.1]; exact h9.1.2))] at hp; exact hp _
    · rw [hX.2.1] at h1 h2
      rw [if_pos ⟨⟨h1, h2⟩, hne⟩] at hp
      obtain ⟨s, hs, eb⟩ := lt_nI (m := 6) b1' h1
      obtain ⟨r, hr, ec⟩ := lt_nI (m := 6) b1' h2
      obtain ⟨f1, f2⟩ := hom_of hR hOK hn hn9 h1 eb hs
      obtain ⟨g1, g2⟩ := hom_of hR hOK hn hn9 h2 ec hr
      subst eb ec
      rw [hn, cN_nI (by omega), cN_nI (by omega), cN_nI (by omega)] at hp
      refine e_walkW hR hn9 (hX.1.trans hn) hX.2.2.2.2.2.2.2.1 (fun t' ht' => ⟨vp_in_nI hs (by omega), vp_in_nI hr (by omega), ?_⟩)
      rw [nI_clamp (by omega), nI_clamp (by omega), (hh s (lt_cln b16 (by omega) h1.2 (by omega))).1, (hh r (lt_cln b16 (by omega) h2.2 (by omega))).1]
      exact e_tog2 hn9 (hX.1.trans hn) f2 g2 f1 g1 (fun h hh => ht' _ h f2 hh) (fun h hh => ht' _ h g2 hh) (fun h => WK_le) (fun h => WK_le) (fun h _ => rfl) (hp _)
    · rw [if_neg (fun h9 => h9.2 heq)] at hp; exact hp _

def CG (td : Nat → Int32) (n f h : Nat) : Nat := if dam td h = true then 1000 else min 1000 (WK td n f h + lastV td n h n)
def AN_carry (M : Nat → Nat → Int32) (a b c : Int32) : Int32 := if 0 ≤ a ∧ a < M 4 0 then (if 0 ≤ b ∧ b < rowM M 0 a 1 then AM (CG (rowM M 0 a) (cN (rowM M 0 a 0)) (hom (rowM M 0 a) (cN b))) (cN (rowM M 0 a 0)) c else -1) else -1
theorem RUN_near {td : Nat → Int32} {sh : Int32} {n a b : Nat} (ha : a < n) (hb1 : b < n) (h : RUN td sh n a b < 1000) : RUN td sh n a b ≤ 9 * n := SD_near WL_le ha hb1 (SD_open (E := EL td sh) (W := WL td) EL_a h) (WL_0 a) h
theorem WK_near {td : Nat → Int32} {n a b : Nat} (ha : a < n) (hb1 : b < n) (h : WK td n a b < 1000) : WK td n a b ≤ 9 * n := SD_near W2_le ha hb1 (E2_0 a) (W2_0 a) h
theorem lastV_near {td : Nat → Int32} {n f : Nat} (hf : f < n) : ∀ m, m ≤ n → lastV td n f m < 1000 → lastV td n f m ≤ 9 * n
  | 0, _, _ => Nat.zero_le _
  | m + 1, hm, h => by
    have e : lastV td n f (m + 1) = if vilB td m = true then max (lastV td n f m) (RUN td (td 3) n f m) else lastV td n f m := rfl
    rw [e] at h ⊢
    by_cases q : vilB td m = true
    · rw [if_pos q] at h ⊢
      have h1 := lastV_near (td := td) hf m (by omega) (by omega)
      have h2 := RUN_near (td := td) (sh := td 3) hf (show m < n by omega) (by omega)
      omega
    · rw [if_neg q] at h ⊢
      exact lastV_near hf m (by omega) h
theorem upF_add {n w l : Nat} (hn : n ≤ 9) (hw : w < 1000 → w ≤ 9 * n) (hl : l < 1000 → l ≤ 9 * n) (hw1 : w ≤ 1000) (hl1 : l ≤ 1000) : ∀ x, x ≤ 1000 → (upF w + upF l < upF x ↔ min 1000 (w + l) < x) ∧ min (upF x) (upF w + upF l) = upF (min x (min 1000 (w + l))) := by
  intro x hx
  unfold upF
  by_cases h1 : w < 1000
  · have := hw h1
    by_cases h2 : l < 1000
    · have := hl h2
      rw [if_pos h1, if_pos h2]
      constructor
      · split <;> omega
      · split <;> split <;> omega
    · rw [if_pos h1, if_neg h2]
      constructor
      · split <;> omega
      · split <;> split <;> omega
  · rw [if_neg h1]
    constructor
    · split <;> split <;> omega
    · split <;> split <;> split <;> omega
set_option maxRecDepth 40000 in
set_option maxHeartbeats 4000000 in
theorem e_m_carry {M : Nat → Nat → Int32} {f_code f_land f_huts f_singers a b c : Int32} {a_run a_far : Nat → Int32} {post : Int32 → (Int32) → (Int32) → (Int32) → (Int32) → (Nat → Int32) → (Nat → Int32) → Prop} (hc : ∀ o, iv 0 2 (M 4 o)) (hL : mLand (M 5)) (hK : LK M) (hp : ∀ z0 z1 z2 z3 z4 z5, post (AN_carry M a b c) z0 z1 z2 z3 z4 z5) : q_m_carry_0 f_code (M 4) (M 5) f_land f_huts f_singers a_run a_far a b c post := by
  unfold AN_carry at hp
  refine e_hand (hc 0) (fun hno => iz ?_) (fun k hk ea hy => oi ?_)
  · rw [if_neg hno] at hp; exact hp _ _ _ _ _ _
  rw [if_pos hy] at hp
  subst ea
  have hO : LOK (rowM M 0 (nI k)) := LK_row hK hk hy.2
  have hR : RNG (rowM M 0 (nI k)) := RNG_M hL hk
  obtain ⟨n, hn, hn9⟩ := ln_of hR
  have b1' : iv 0 6 (tdM M k 1) := hR 1 (by omega)
  refine e_isSgM b1' (fun h => zi ?_) (fun h1 => io ?_)
  · rw [if_neg h] at hp; exact hp _ _ _ _ _ _
  rw [if_pos h1] at hp
  obtain ⟨s, hs, eb⟩ := lt_nI (m := 6) b1' h1
  obtain ⟨f1, f2⟩ := hom_of hR hO hn hn9 h1 eb hs
  subst eb
  rw [hn, cN_nI (by omega), cN_nI (by omega)] at hp
  have hs1 : (25 : Int32) + nI s = nI (25 + s) := jx 25 s
  have ei : ∀ a b : Nat, ((9 : Int32) * nI a) + nI b = nI (9 * a + b) := fun a b => by rw [show (9 : Int32) = nI 9 from rfl, pk_mul, nI_add]
  generalize hom (rowM M 0 (nI k)) s = f at hp f1 f2
  refine e_farM hk hL hn hn9 (fun far hf => ?_)
  intro P hP
  have loop : ∀ m j (run : Nat → Int32), m = n - j → j ≤ n → P (argm (CG (tdM M k) n f) j).1 (nI (upF (argm (CG (tdM M k) n f) j).2)) (nI j) run := by
    intro m
    induction m using Nat.strongRecOn with
    | ind m ih2 =>
      intro j run hm2 hj
      apply hP
      obtain ⟨b1, b2⟩ := argm_ok (g := CG (tdM M k) n f) j
      refine pk_le n j (fun h8 => ?_) (fun h8 => ?_) hn
      · have e : j = n := by omega
        subst e
        unfold AM at hp
        refine ⟨fun q => ?_, fun q => ⟨fun q1 => ?_, fun q1 => ?_⟩⟩
        · rw [if_pos (Or.inl q)] at hp; exact hp _ _ _ _ _ _
        · rw [if_neg (fun q2 => by rcases q2 with q2 | q2; exact q q2; exact q1 q2)] at hp
          rcases b2 with b2 | ⟨_, _, _, b4⟩
          · exact absurd b2 q
          · rw [show upF (argm (CG (tdM M k) j f) j).2 = (argm (CG (tdM M k) j f) j).2 by unfold upF; rw [if_pos b4]]
            exact hp _ _ _ _ _ _
        · rw [if_pos (Or.inr q1)] at hp; exact hp _ _ _ _ _ _
      · have e : argm (CG (tdM M k) n f) (j + 1) = if CG (tdM M k) n f j < (argm (CG (tdM M k) n f) j).2 then (nI j, CG (tdM M k) n f j) else argm (CG (tdM M k) n f) j := rfl
        have q2 : upF (argm (CG (tdM M k) n f) j).2 < 2 ^ 30 := upF_b
        have nx : ∀ (run : Nat → Int32) (y : Nat), y < 2 ^ 30 → (y < upF (argm (CG (tdM M k) n f) j).2 ↔ CG (tdM M k) n f j < (argm (CG (tdM M k) n f) j).2) → min (upF (argm (CG (tdM M k) n f) j).2) y = upF (min (argm (CG (tdM M k) n f) j).2 (CG (tdM M k) n f j)) → ∀ z : Int32, z = nI y → q_m_carry_93 P 0 (M 4) (M 5) (nI k) (tdM M k 0) (tdM M k 1) run far (nI s) c (argm (CG (tdM M k) n f) j).1 (nI (upF (argm (CG (tdM M k) n f) j).2)) (nI j) z post := by
          intro run y hy hlt hmn z hz
          subst hz
          have go : ∀ x : Int32, x = (argm (CG (tdM M k) n f) (j + 1)).1 → q_m_carry_109 P 0 (M 4) (M 5) (nI k) (tdM M k 0) (tdM M k 1) run far (nI s) c (nI (upF (argm (CG (tdM M k) n f) j).2)) (nI j) (nI y) x post := by
            intro x hx
            refine e_lessM (by omega) (by omega) (fun v ev => ?_)
            rw [ev, hx, nI_1, hmn, show min (argm (CG (tdM M k) n f) j).2 (CG (tdM M k) n f j) = (argm (CG (tdM M k) n f) (j + 1)).2 by
              rw [e]
              by_cases hc : CG (tdM M k) n f j < (argm (CG (tdM M k) n f) j).2
              · rw [if_pos hc]; show min _ _ = CG (tdM M k) n f j; omega
              · rw [if_neg hc]; omega]
            exact ih2 (n - (j + 1)) (by omega) (j + 1) run rfl (by omega)
          refine pk_le (upF (argm (CG (tdM M k) n f) j).2) y (fun hle => go _ ?_) (fun hlt2 => go _ ?_) rfl rfl (by omega) (by omega)
          · rw [e, if_neg (fun q => by have := hlt.mpr q; omega)]
          · rw [e, if_pos (hlt.mp hlt2)]
        refine e_run0M hk hL hO hn hn9 h8 rfl (fun run' hr => ?_)
        refine e_damM hk (by omega) (fun hd => iz ?_) (fun hd => oi ?_)
        · have hd' : dam (tdM M k) j = false := hd
          refine e_of (i := 25 + s) hk (by omega) hs1 ?_
          rw [f1, ei]
          refine ⟨vp_in_nI (by omega) (by omega), e_lastVM hk hn hn9 hr ?_⟩
          rw [nI_clamp (by omega), hf f j f2 h8, nI_add]
          have ec : CG (tdM M k) n f j = min 1000 (WK (tdM M k) n f j + lastV (tdM M k) n j n) := by unfold CG; rw [hd', if_neg (by decide)]
          have ad := upF_add hn9 (WK_near (td := tdM M k) f2 h8) (lastV_near (td := tdM M k) h8 n (Nat.le_refl n)) WK_le (lastV_le n) (argm (CG (tdM M k) n f) j).2 b1
          have k1 : upF (WK (tdM M k) n f j) ≤ 1000000 := by unfold upF; split <;> omega
          have k2 : upF (lastV (tdM M k) n j n) ≤ 1000000 := by unfold upF; split <;> omega
          exact nx run' _ (by omega) (by rw [ec]; exact ad.1) (by rw [ec]; exact ad.2) _ rfl
        · have hd' : dam (tdM M k) j = true := hd
          have ec : CG (tdM M k) n f j = 1000 := by unfold CG; rw [hd', if_pos rfl]
          refine nx run' 1000000 (by omega) ?_ ?_ _ rfl
          · rw [ec]
            unfold upF
            split <;> omega
          · rw [ec]
            unfold upF
            split <;> split <;> omega
  exact loop _ 0 _ rfl (by omega)
theorem e_carriedX {td t w : Nat → Int32} {huts villages dams x2 m : Int32} {n f : Nat} {post : Int32 → Prop} (hn : td 0 = nI n) (hn9 : n ≤ 9) (h0 : huts = td 0) (h2 : villages = td 2) (h3 : dams = td 3) (hf : f < n) (hx : x2 = nI f) (ht : ∀ a b, a < n → b < n → t (9 * a + b) = nI (RUN td (td 3) n a b)) (hw : ∀ a b, a < n → b < n → w (9 * a + b) = nI (WK td n a b)) (hp : post (AM (CG td n f) n m)) : q_wp_X7_carried_9_0 t w huts villages dams x2 m post := by
  subst hx
  have ei : ∀ a h : Nat, (nI a * 9) + nI h = nI (9 * a + h) := fun a h => by rw [jx9, Nat.mul_comm]
  intro P hP
  have loop : ∀ s h, s = n - h → h ≤ n → P (argm (CG td n f) h).1 (nI (argm (CG td n f) h).2) (nI h) := by
    intro s
    induction s using Nat.strongRecOn with
    | ind s ih =>
      intro h hs hh
      apply hP
      obtain ⟨b1, b2⟩ := argm_ok (g := CG td n f) h
      refine pk_le n h (fun h9 => ?_) (fun h9 => ?_) (h0.trans hn)
      · have e : h = n := by omega
        subst e
        unfold AM at hp
        refine ⟨fun h8 => ?_, fun h8 => ⟨fun h7 => ?_, fun h7 => ?_⟩⟩
        · rw [if_pos (Or.inl h8)] at hp; exact hp
        · rw [if_pos (Or.inr h7)] at hp; exact hp
        · rw [if_neg (fun q => by rcases q with q | q; exact h8 q; exact h7 q)] at hp; exact hp
      · rw [ei]
        refine ⟨vp_in_nI (by omega) (by omega), e_lastVX hn hn9 h0 h2 h3 h9 rfl ht (fun v ev => ?_)⟩
        rw [nI_clamp (by omega), hw f h hf h9, nI_add] at ev
        have l1 := WK_le (td := td) (n := n) (a := f) (b := h)
        have l2 := lastV_le (td := td) (n := n) (f := h) n
        have e : argm (CG td n f) (h + 1) = if CG td n f h < (argm (CG td n f) h).2 then (nI h, CG td n f h) else argm (CG td n f) h := rfl
        have nx : ∀ x y : Int32, x = (argm (CG td n f) (h + 1)).1 → y = nI (argm (CG td n f) (h + 1)).2 → q_wp_X7_carried_9_66 P t w huts villages dams (nI f) m x y (nI h) post := by
          intro x y hx hy v ev
          rw [ev, hx, hy, nI_1]
          exact ih (n - (h + 1)) (by omega) (h + 1) rfl (by omega)
        refine e_damX (by omega) (fun hd => zi ?_) (fun hd => io ?_)
        · rw [h3] at hd
          have hd' : dam td h = false := hd
          have ec : CG td n f h = min 1000 (WK td n f h + lastV td n h n) := by unfold CG; rw [hd', if_neg (by decide)]
          refine pk_le (argm (CG td n f) h).2 (WK td n f h + lastV td n h n) (fun hle => nx _ _ ?_ ?_) (fun hlt => nx _ _ ?_ ?_) rfl ev (by omega) (by omega)
          · rw [e, if_neg (by omega)]
          · rw [e, if_neg (by omega)]
          · rw [e, if_pos (by omega)]
          · rw [e, if_pos (by omega), ev]
            show _ = nI (CG td n f h)
            rw [ec, show min 1000 (WK td n f h + lastV td n h n) = WK td n f h + lastV td n h n by omega]
        · rw [h3] at hd
          have hd' : dam td h = true := hd
          have ec : CG td n f h = 1000 := by unfold CG; rw [hd', if_pos rfl]
          refine nx _ _ ?_ ?_
          · rw [e, if_neg (by omega)]
          · rw [e, if_neg (by omega)]
  exact loop _ 0 rfl (by omega)
set_option maxRecDepth 40000 in
set_option maxHeartbeats 4000000 in
theorem e_x_carry {T : TT} {M : Nat → Nat → Int32} {a b c : Int32} {pa_heard pa_walked : Nat → Int32} {post : Int32 → (Nat → Int32) → (Nat → Int32) → Prop} (h : TM T M 0) (hB : tB T) (hK : LK M) (hL : mLand (M 5)) (hp : ∀ z0 z1, post (AN_carry M a b c) z0 z1) : q_wx_X10_carry_0 (T.2 1) (T.1 3) (T.1 4) (T.1 5) (T.1 6) (T.1 7) (T.2 2) (T.2 4) (T.2 5) (T.2 6) (T.2 7) (T.1 10) (T.1 11) (T.1 12) (T.1 13) (T.1 14) (T.2 10) (T.2 12) (T.2 13) (T.2 14) (T.2 15) pa_heard pa_walked a b c post := by
  unfold AN_carry at hp
  rw [TM_cnt h 0 (by decide)] at hp
  refine e_at (hB.2.2.1 0) (fun (hno : ¬ (0 ≤ a ∧ a < T.2 1 0)) => ?_) (fun ea hla => ?_) (fun ea hla => ?_)
  · rw [if_neg hno] at hp
    exact ⟨fun _ => hp _ _, fun h9 => absurd h9 (by decide), fun h9 => absurd rfl h9⟩
  · rw [if_pos (by rw [ea]; exact ⟨by decide, hla⟩), ea] at hp
    have hR : RNG (rowM M 0 (nI 0)) := RNG_M hL (by decide)
    have hLD : LDR (T.1 3) (T.1 4) (T.1 5) (T.1 6) (T.1 7) (T.1 8) (T.1 9) (T.2 2) (T.2 3) (T.2 4) (T.2 5) (T.2 6) (T.2 7) (T.2 8) (T.2 9) (rowM M 0 (nI 0)) := TM_sl h 0 0 (by decide) (by decide) hla
    have hX := LX_of hR hLD
    have hOK : LOK (rowM M 0 (nI 0)) := LK_row hK (by decide) (by rw [TM_cnt h 0 (by decide)]; exact hla)
    obtain ⟨n, hn, hn9⟩ := ln_of hR
    refine ⟨fun h9 => absurd h9 (by decide), fun h9 => absurd h9 (by decide), fun _ _ => ?_⟩
    have b1' : iv 0 6 (rowM M 0 (nI 0) 1) := hR 1 (by omega)
    have hh := hLD.2.2.2.2.2.2.2.2.2.2.2.1
    have b16 : iv 0 (6 : Nat) (rowM M 0 (nI 0) 1) := hR 1 (by omega)
    refine e_hsX (fun h => zi ?_) (fun h1 => io ?_)
    · rw [if_neg (fun h9 => h (by rw [hX.2.1]; exact h9))] at hp; exact hp _ _
    · rw [hX.2.1] at h1
      rw [if_pos h1] at hp
      obtain ⟨s, hs, eb⟩ := lt_nI (m := 6) b1' h1
      obtain ⟨f1, f2⟩ := hom_of hR hOK hn hn9 h1 eb hs
      subst eb
      rw [hn, cN_nI (by omega), cN_nI (by omega)] at hp
      refine e_hearX hR hX hn hn9 (fun t' ht' => e_walkW hR hn9 (hX.1.trans hn) hX.2.2.2.2.2.2.2.1 (fun w' hw' => ⟨vp_in_nI hs (by omega), ?_⟩))
      rw [nI_clamp (by omega), (hh s (lt_cln b16 (by omega) h1.2 (by omega))).1]
      exact e_carriedX hn hn9 hX.1 hLD.2.2.1 hX.2.2.1 f2 f1 ht' hw' (hp _ _)
  · rw [if_pos (by rw [ea]; exact ⟨by decide, hla⟩), ea] at hp
    have hR : RNG (rowM M 0 (nI 1)) := RNG_M hL (by decide)
    have hLD : LDR (T.1 10) (T.1 11) (T.1 12) (T.1 13) (T.1 14) (T.1 15) (T.1 16) (T.2 10) (T.2 11) (T.2 12) (T.2 13) (T.2 14) (T.2 15) (T.2 16) (T.2 17) (rowM M 0 (nI 1)) := TM_sl h 0 1 (by decide) (by decide) hla
    have hX := LX_of hR hLD
    have hOK : LOK (rowM M 0 (nI 1)) := LK_row hK (by decide) (by rw [TM_cnt h 0 (by decide)]; exact hla)
    obtain ⟨n, hn, hn9⟩ := ln_of hR
    refine ⟨fun h9 => absurd h9 (by decide), fun _ => ?_, fun _ h9 => absurd rfl h9⟩
    have b1' : iv 0 6 (rowM M 0 (nI 1) 1) := hR 1 (by omega)
    have hh := hLD.2.2.2.2.2.2.2.2.2.2.2.1
    have b16 : iv 0 (6 : Nat) (rowM M 0 (nI 1) 1) := hR 1 (by omega)
    refine e_hsX (fun h => zi ?_) (fun h1 => io ?_)
    · rw [if_neg (fun h9 => h (by rw [hX.2.1]; exact h9))] at hp; exact hp _ _
    · rw [hX.2.1] at h1
      rw [if_pos h1] at hp
      obtain ⟨s, hs, eb⟩ := lt_nI (m := 6) b1' h1
      obtain ⟨f1, f2⟩ := hom_of hR hOK hn hn9 h1 eb hs
      subst eb
      rw [hn, cN_nI (by omega), cN_nI (by omega)] at hp
      refine e_hearX hR hX hn hn9 (fun t' ht' => e_walkW hR hn9 (hX.1.trans hn) hX.2.2.2.2.2.2.2.1 (fun w' hw' => ⟨vp_in_nI hs (by omega), ?_⟩))
      rw [nI_clamp (by omega), (hh s (lt_cln b16 (by omega) h1.2 (by omega))).1]
      exact e_carriedX hn hn9 hX.1 hLD.2.2.1 hX.2.2.1 f2 f1 ht' hw' (hp _ _)
end
section
/-- how many are in a set -/
def cS (s : Int32) : Nat := cntB (hb s) 9
theorem hb_nI {s k : Nat} (hs : s < 2 ^ 31) : hb (nI s) k = s.testBit k := by
  unfold hb
  rw [BitVec.getLsbD, iv_tn hs]
theorem pow_b {n : Nat} (hn : n ≤ 9) : 2 ^ n ≤ 512 := Nat.le_trans (Nat.pow_le_pow_right (by decide) hn) (by decide)
theorem hb_lo {s n k : Nat} (hs : s < 2 ^ n) (hn : n ≤ 9) (hk : n ≤ k) : hb (nI s) k = false := by
  have := pow_b hn
  rw [hb_nI (by omega)]
  exact Nat.testBit_lt_two_pow (Nat.lt_of_lt_of_le hs (Nat.pow_le_pow_right (by decide) hk))
theorem cntB_cut {p : Nat → Bool} {n : Nat} (h : ∀ k, n ≤ k → p k = false) : ∀ m, cntB p (n + m) = cntB p n
  | 0 => rfl
  | m + 1 => by
    show cntB p (n + m) + (if p (n + m) = true then 1 else 0) = _
    rw [h (n + m) (by omega), if_neg (by decide), cntB_cut h m]
    rfl
theorem cS_le {s n : Nat} (hs : s < 2 ^ n) (hn : n ≤ 9) : cS (nI s) ≤ n := by
  unfold cS
  have e : cntB (hb (nI s)) (n + (9 - n)) = cntB (hb (nI s)) n := cntB_cut (fun k hk => hb_lo hs hn hk) (9 - n)
  rw [show n + (9 - n) = 9 by omega] at e
  rw [e]
  exact cnt_le _ n
/-- of the sets that do, the first of the fewest -/
def FS (ok : Nat → Bool) : Nat → Int32
  | 0 => -1
  | s + 1 => if ok s = true ∧ (FS ok s = -1 ∨ cS (nI s) < cS (FS ok s)) then nI s else FS ok s
theorem FS_ok {ok : Nat → Bool} : ∀ m, (FS ok m = -1 ∧ ∀ s, s < m → ok s = false) ∨ ∃ s, s < m ∧ FS ok m = nI s ∧ ok s = true
  | 0 => Or.inl ⟨rfl, fun s hs => absurd hs (Nat.not_lt_zero s)⟩
  | m + 1 => by
    have e : FS ok (m + 1) = if ok m = true ∧ (FS ok m = -1 ∨ cS (nI m) < cS (FS ok m)) then nI m else FS ok m := rfl
    rw [e]
    by_cases hc : ok m = true ∧ (FS ok m = -1 ∨ cS (nI m) < cS (FS ok m))
    · rw [if_pos hc]
      exact Or.inr ⟨m, by omega, rfl, hc.1⟩
    · rw [if_neg hc]
      rcases FS_ok (ok := ok) m with ⟨h1, h2⟩ | ⟨s, a, b, c⟩
      · refine Or.inl ⟨h1, fun s hs => ?_⟩
        by_cases q : s = m
        · subst q
          rw [← Bool.not_eq_true]
          exact fun h => hc ⟨h, Or.inl h1⟩
        · exact h2 s (by omega)
      · exact Or.inr ⟨s, by omega, b, c⟩
/-- what a set covers -/
def cvd (cov : Nat → Int32) (s : Int32) : Nat → Int32
  | 0 => 0
  | m + 1 => if hb s m = true then cvd cov s m ||| cov m else cvd cov s m
theorem cvd_ext {cov cov' : Nat → Int32} {s : Int32} : ∀ m, (∀ h, h < m → cov h = cov' h) → cvd cov s m = cvd cov' s m
  | 0, _ => rfl
  | m + 1, h => by
    show (if hb s m = true then cvd cov s m ||| cov m else cvd cov s m) = (if hb s m = true then cvd cov' s m ||| cov' m else cvd cov' s m)
    rw [cvd_ext m (fun k hk => h k (by omega)), h m (by omega)]
theorem hb_cvd {cov : Nat → Int32} {s : Int32} {k : Nat} : ∀ m, (∃ h, h < m ∧ hb s h = true ∧ hb (cov h) k = true) → hb (cvd cov s m) k = true
  | 0, ⟨h, hh, _⟩ => absurd hh (Nat.not_lt_zero h)
  | m + 1, ⟨h, hh, h1, h2⟩ => by
    have e : cvd cov s (m + 1) = if hb s m = true then cvd cov s m ||| cov m else cvd cov s m := rfl
    rw [e]
    by_cases q : h = m
    · subst q
      rw [if_pos h1, hb_or, h2, Bool.or_true]
    · have ih := hb_cvd (cov := cov) (s := s) (k := k) m ⟨h, by omega, h1, h2⟩
      split
      · rw [hb_or, ih]; rfl
      · exact ih
def cvB (R : Nat → Nat → Nat) (n k a : Nat) : Int32 := mkB (fun b => decide (R a b ≤ k)) n
def okM (R : Nat → Nat → Nat) (n k : Nat) (need : Int32) (s : Nat) : Bool := decide ((need &&& (cvd (cvB R n k) (nI s) n ^^^ (-1))) = 0)
def MSS (td : Nat → Int32) (n k : Nat) (c : Int32) : Int32 := if c = 0 then nI (cS (FS (okM (WK td n) n k (td 2)) (2 ^ n))) else FS (okM (WK td n) n k (td 2)) (2 ^ n)
def AN_masses (M : Nat → Nat → Int32) (a b c : Int32) : Int32 := if 0 ≤ a ∧ a < M 4 0 then (if 0 ≤ b ∧ b ≤ 99 then MSS (rowM M 0 a) (cN (rowM M 0 a 0)) (cN b) c else -1) else -1
theorem sh_pow {n : Nat} (hn : n ≤ 9) : (1 : Int32) <<< (nI n &&& 31) = nI (2 ^ n) := iv_sh1 n (by omega)
theorem WK_0 {td : Nat → Int32} {n a : Nat} : WK td n a a = 0 := by
  have := SD_e (E := E2 td) (W := W2 td) (F := 1000) (n := n) (E2_0 a)
  have h2 := W2_0 (td := td) a
  have h3 : WK td n a a = SD (E2 td) (W2 td) 1000 n a a := rfl
  omega
theorem full_bit {n k : Nat} (hn : n ≤ 9) (hk : k < n) : hb (nI (2 ^ n - 1)) k = true := by
  have := pow_b hn
  rw [hb_nI (by omega), Nat.testBit_two_pow_sub_one]
  exact decide_eq_true hk
theorem okM_all {td : Nat → Int32} {n k : Nat} (hn9 : n ≤ 9) (hn : td 0 = nI n) (hO : LOK td) : okM (WK td n) n k (td 2) (2 ^ n - 1) = true := by
  refine decide_eq_true (hb_eq (fun h hh => ?_))
  rw [hb_0, hb_and, hb_not _ hh]
  cases hv : hb (td 2) h with
  | false => rfl
  | true =>
    have h1 := hO.2.2 h hh hv
    rw [hn] at h1
    have hhn : h < n := (nI_ltI (by omega) (by omega)).mp h1
    rw [hb_cvd n ⟨h, hhn, full_bit hn9 hhn, by unfold cvB; rw [hb_mkB hh n (by omega), decide_eq_true hhn, Bool.true_and]; exact decide_eq_true (by rw [WK_0]; omega)⟩]
    rfl
theorem FS_M {td : Nat → Int32} {n k : Nat} (hn9 : n ≤ 9) (hn : td 0 = nI n) (hO : LOK td) : ∃ s, s < 2 ^ n ∧ FS (okM (WK td n) n k (td 2)) (2 ^ n) = nI s := by
  have hp : 0 < 2 ^ n := Nat.two_pow_pos n
  rcases FS_ok (ok := okM (WK td n) n k (td 2)) (2 ^ n) with ⟨_, h2⟩ | ⟨s, a, b, _⟩
  · have := h2 (2 ^ n - 1) (by omega)
    rw [okM_all hn9 hn hO] at this
    exact absurd this (by decide)
  · exact ⟨s, a, b⟩
theorem e_coverBy2 {t cov : Nat → Int32} {R : Nat → Nat → Nat} {n k : Nat} {x2 x3 : Int32} {post : (Nat → Int32) → Prop} (hn9 : n ≤ 9) (h2 : x2 = nI n) (h3 : x3 = nI k) (hk : k < 1000) (hR : ∀ a b, R a b ≤ 1000) (ht : ∀ a b, a < n → b < n → t (9 * a + b) = nI (R a b)) (hp : ∀ cov', (∀ a, a < n → cov' a = cvB R n k a) → post cov') : q_wp_X7_coverBy_2_0 t cov x2 x3 post := by
  subst h2 h3
  have ei : ∀ a h : Nat, (nI a * 9) + nI h = nI (9 * a + h) := fun a h => by rw [jx9, Nat.mul_comm]
  intro P hP
  have loop : ∀ m a (cov : Nat → Int32), m = n - a → a ≤ n → (∀ a', a' < a → cov a' = cvB R n k a') → P (nI a) cov := by
    intro m
    induction m using Nat.strongRecOn with
    | ind m ih =>
      intro a cov hm ha hI
      apply hP
      refine pk_le n a (fun h9 => hp cov (fun a' ha' => hI a' (by omega))) (fun h9 => ⟨vp_in_nI (by omega) (by omega), fun cov1 e1 => ?_⟩)
      rw [nI_clamp (by omega)] at e1
      intro P2 hP2
      have loop2 : ∀ m b (cov : Nat → Int32), m = n - b → b ≤ n → (∀ a', a' < a → cov a' = cvB R n k a') → cov a = mkB (fun b => decide (R a b ≤ k)) b → P2 (nI b) cov := by
        intro m
        induction m using Nat.strongRecOn with
        | ind m ih2 =>
          intro b cov hm2 hbn hI2 hrow
          apply hP2
          refine pk_le n b (fun h8 v ev => ?_) (fun h8 => ?_)
          · rw [ev, nI_1]
            refine ih (n - (a + 1)) (by omega) (a + 1) cov rfl (by omega) (fun a' ha' => ?_)
            by_cases e : a' = a
            · subst e
              rw [hrow, show b = n by omega]
              rfl
            · exact hI2 a' (by omega)
          · have nx : ∀ cov' : Nat → Int32, (∀ a', a' < a → cov' a' = cvB R n k a') → cov' a = mkB (fun b => decide (R a b ≤ k)) (b + 1) → q_wp_X7_coverBy_2_54 P P2 t cov' (nI n) (nI k) (nI a) (nI b) post := by
              intro cov' k1 k2 v ev
              rw [ev, nI_1]
              exact ih2 (n - (b + 1)) (by omega) (b + 1) cov' rfl (by omega) k1 k2
            have e : mkB (fun b => decide (R a b ≤ k)) (b + 1) = mkB (fun b => decide (R a b ≤ k)) b ||| (if decide (R a b ≤ k) = true then bitI b else 0) := rfl
            have l := hR a b
            have hina : vp_in (nI a) 9 := vp_in_nI (by omega) (by omega)
            rw [ei]
            refine ⟨vp_in_nI (by omega) (by omega), ?_⟩
            rw [nI_clamp (by omega), ht a b h9 h8]
            refine pk_lt k (R a b) (fun hlt => nx cov hI2 ?_) (fun hle => ⟨hina, fun v ev => ⟨hina, fun cov' ec => nx cov' (fun a' ha' => ?_) ?_⟩⟩) rfl rfl (by omega) (by omega)
            · rw [e, if_neg (by rw [decide_eq_false (by omega)]; decide), or_0]; exact hrow
            · rw [ec, nI_clamp (by omega), up_n (by omega)]; exact hI2 a' ha'
            · rw [nI_clamp (by omega)] at ev ec
              rw [ec, up_s, e, if_pos (decide_eq_true (by omega)), ev, hrow]; rfl
      exact loop2 _ 0 cov1 rfl (by omega) (fun a' ha' => by rw [e1, up_n (by omega)]; exact hI a' ha') (by rw [e1, up_s]; rfl)
  exact loop _ 0 cov rfl (by omega) (fun a' ha' => absurd ha' (Nat.not_lt_zero a'))
theorem e_coveredX {cov : Nat → Int32} {s x2 : Int32} {n : Nat} {post : Int32 → Prop} (hn9 : n ≤ 9) (h2 : x2 = nI n) (hp : post (cvd cov s n)) : q_wp_X7_covered_0 cov s x2 post := by
  subst h2
  intro P hP
  have loop : ∀ m h, m = n - h → h ≤ n → P (cvd cov s h) (nI h) := by
    intro m
    induction m using Nat.strongRecOn with
    | ind m ih =>
      intro h hm hh
      apply hP
      refine pk_le n h (fun h9 => by rw [show h = n by omega]; exact hp) (fun h9 => ?_)
      have e : cvd cov s (h + 1) = if hb s h = true then cvd cov s h ||| cov h else cvd cov s h := rfl
      have nx : ∀ y : Int32, y = cvd cov s (h + 1) → q_wp_X7_covered_30 P cov s (nI n) y (nI h) post := by
        intro y hy v ev
        rw [ev, hy, nI_1]
        exact ih (n - (h + 1)) (by omega) (h + 1) rfl (by omega)
      refine e_hasX (by omega) (fun q => iz (nx _ ?_)) (fun q => oi ⟨vp_in_nI (by omega) (by omega), fun v ev => nx _ ?_⟩)
      · rw [e, if_neg (by rw [q]; decide)]
      · rw [nI_clamp (by omega)] at ev
        rw [e, if_pos q, ev]
  exact loop _ 0 rfl (by omega)
theorem e_fewestX {cov : Nat → Int32} {R : Nat → Nat → Nat} {need x1 x2 : Int32} {n k : Nat} {post : Int32 → Prop} (hn9 : n ≤ 9) (h1 : x1 = need) (h2 : x2 = nI n) (hc : ∀ a, a < n → cov a = cvB R n k a) (hp : post (FS (okM R n k need) (2 ^ n))) : q_wp_X7_fewestCovering_0 cov x1 x2 post := by
  subst h1 h2
  have hpw := pow_b hn9
  intro v1 ev1
  rw [nI_1] at ev1
  subst ev1
  intro P hP
  have loop : ∀ m s (z : Nat), m = 2 ^ n - s → s ≤ 2 ^ n → z = (if FS (okM R n k x1) s = -1 then n + 1 else cS (FS (okM R n k x1) s)) → P (FS (okM R n k x1) s) (nI z) (nI s) := by
    intro m
    induction m using Nat.strongRecOn with
    | ind m ih =>
      intro s z hm hs hz
      apply hP
      refine pk_le (2 ^ n) s (fun h9 => by rw [show s = 2 ^ n by omega]; exact hp) (fun h9 => ?_) (sh_pow hn9) rfl (by omega) (by omega)
      have e : FS (okM R n k x1) (s + 1) = if okM R n k x1 s = true ∧ (FS (okM R n k x1) s = -1 ∨ cS (nI s) < cS (FS (okM R n k x1) s)) then nI s else FS (okM R n k x1) s := rfl
      have cs := cS_le h9 hn9
      have zb : z ≤ 10 := by
        rw [hz]
        split
        · omega
        · exact Nat.le_trans (cnt_le _ 9) (by omega)
      have hlt : cS (nI s) < z ↔ (FS (okM R n k x1) s = -1 ∨ cS (nI s) < cS (FS (okM R n k x1) s)) := by
        rw [hz]
        split
        · next q => exact ⟨fun _ => Or.inl q, fun _ => by omega⟩
        · next q => exact ⟨Or.inr, fun h => h.elim (fun h => absurd h q) id⟩
      have ivs : iv 0 511 (nI s) := iv_ofN (by omega) (by omega) (by omega)
      have ocv : okM R n k x1 s = decide ((x1 &&& (cvd cov (nI s) n ^^^ (-1))) = 0) := by
        unfold okM
        rw [cvd_ext n (fun h hh => (hc h hh).symm)]
      have nx : ∀ (x : Int32) (y : Nat), x = FS (okM R n k x1) (s + 1) → y = (if FS (okM R n k x1) (s + 1) = -1 then n + 1 else cS (FS (okM R n k x1) (s + 1))) → q_wp_X7_fewestCovering_52 P cov x1 (nI n) x (nI y) (nI s) post := by
        intro x y hx hy v ev
        rw [ev, hx, nI_1]
        exact ih (2 ^ n - (s + 1)) (by omega) (s + 1) y rfl (by omega) hy
      have stay : ¬ (okM R n k x1 s = true ∧ (FS (okM R n k x1) s = -1 ∨ cS (nI s) < cS (FS (okM R n k x1) s))) → q_wp_X7_fewestCovering_52 P cov x1 (nI n) (FS (okM R n k x1) s) (nI z) (nI s) post := fun hno => nx _ _ (by rw [e, if_neg hno]) (by rw [e, if_neg hno]; exact hz)
      refine e_bc ivs (pk_le z (cS (nI s)) (fun hle => stay (fun q => by have := hlt.mpr q.2; omega)) (fun hl => ?_) rfl rfl (by omega) (by omega))
      refine e_coveredX hn9 rfl ⟨fun hne => stay (fun q => by rw [ocv] at q; exact hne (of_decide_eq_true q.1)), fun heq => e_bc ivs (nx _ _ ?_ ?_)⟩
      · rw [e, if_pos ⟨by rw [ocv]; exact decide_eq_true heq, hlt.mp hl⟩]
      · have e2 : FS (okM R n k x1) (s + 1) = nI s := by rw [e, if_pos ⟨by rw [ocv]; exact decide_eq_true heq, hlt.mp hl⟩]
        rw [e2, if_neg (nIm1' (by omega))]
        rfl
  exact loop _ 0 (n + 1) rfl (Nat.zero_le _) (by rw [show FS (okM R n k x1) 0 = -1 from rfl, if_pos rfl])
theorem e_fewestM {huts : Int32} {cov : Nat → Int32} {R : Nat → Nat → Nat} {some_ need : Int32} {n k : Nat} {post : Int32 → Prop} (hn9 : n ≤ 9) (h0 : huts = nI n) (hs : ∀ s, s < 2 ^ n → (nI s &&& (some_ ^^^ (-1))) = 0) (hc : ∀ a, a < n → cov a = cvB R n k a) (hp : post (FS (okM R n k need) (2 ^ n))) : q_m_fewest_0 huts cov some_ need post := by
  subst h0
  have hpw := pow_b hn9
  intro P hP
  have loop : ∀ m s, m = 2 ^ n - s → s ≤ 2 ^ n → P (FS (okM R n k need) s) (nI s) := by
    intro m
    induction m using Nat.strongRecOn with
    | ind m ih =>
      intro s hm hs2
      apply hP
      refine pk_le (2 ^ n) s (fun h9 => by rw [show s = 2 ^ n by omega]; exact hp) (fun h9 => ?_) (sh_pow hn9) rfl (by omega) (by omega)
      have e : FS (okM R n k need) (s + 1) = if okM R n k need s = true ∧ (FS (okM R n k need) s = -1 ∨ cS (nI s) < cS (FS (okM R n k need) s)) then nI s else FS (okM R n k need) s := rfl
      have nx : ∀ x : Int32, x = FS (okM R n k need) (s + 1) → q_m_fewest_116 P (nI n) cov some_ need (nI s) x post := by
        intro x hx v ev
        rw [ev, hx, nI_1]
        exact ih (2 ^ n - (s + 1)) (by omega) (s + 1) rfl (by omega)
      have ocv : okM R n k need s = decide ((need &&& (cvd cov (nI s) n ^^^ (-1))) = 0) := by
        unfold okM
        rw [cvd_ext n (fun h hh => (hc h hh).symm)]
      have fin : ∀ y0 : Int32, (y0 = 0 → okM R n k need s = false) → (¬ y0 = 0 → okM R n k need s = true) → q_m_fewest_86 P (nI n) cov some_ need (FS (okM R n k need) s) (nI s) y0 post := by
        intro y0 f0 f1
        refine ⟨fun q => nx _ ?_, fun q => ⟨fun q1 => nx _ ?_, fun q1 => e_onesM (e_onesM ?_)⟩⟩
        · rw [e, if_neg (fun h => by rw [f0 q] at h; exact absurd h.1 (by decide))]
        · rw [e, if_pos ⟨f1 q, Or.inl q1⟩]
        · have c1 : cS (nI s) ≤ 9 := cnt_le _ 9
          have c2 : cS (FS (okM R n k need) s) ≤ 9 := cnt_le _ 9
          refine pk_le (cS (FS (okM R n k need) s)) (cS (nI s)) (fun hle => nx _ ?_) (fun hlt => nx _ ?_) rfl rfl (by omega) (by omega)
          · rw [e, if_neg (fun h => by rcases h.2 with h2 | h2; exact q1 h2; omega)]
          · rw [e, if_pos ⟨f1 q, Or.inr hlt⟩]
      intro P2 hP2
      have loop2 : ∀ m h, m = n - h → h ≤ n → P2 (cvd cov (nI s) h) (nI h) := by
        intro m
        induction m using Nat.strongRecOn with
        | ind m ih2 =>
          intro h hm2 hh
          apply hP2
          refine pk_le n h (fun h8 => ?_) (fun h8 => ?_)
          · refine ⟨fun q => absurd (hs s h9) q, fun _ => ⟨fun q => fin 0 (fun _ => ?_) (fun q2 => absurd rfl q2), fun q => fin 1 (fun q2 => absurd q2 (by decide)) (fun _ => ?_)⟩⟩
            · rw [ocv, show n = h by omega]; exact decide_eq_false q
            · rw [ocv, show n = h by omega]; exact decide_eq_true q
          · have e2 : cvd cov (nI s) (h + 1) = if hb (nI s) h = true then cvd cov (nI s) h ||| cov h else cvd cov (nI s) h := rfl
            have nx2 : ∀ y : Int32, cvd cov (nI s) h ||| y = cvd cov (nI s) (h + 1) → q_m_fewest_54 P P2 (nI n) cov some_ need (FS (okM R n k need) s) (nI s) (nI h) (cvd cov (nI s) h) y post := by
              intro y hy v ev v2 ev2
              rw [ev, ev2, hy, nI_1]
              exact ih2 (n - (h + 1)) (by omega) (h + 1) rfl (by omega)
            refine e_hasM (by omega) (fun q => iz (nx2 0 ?_)) (fun q => oi ⟨vp_in_nI (by omega) (by omega), nx2 _ ?_⟩)
            · rw [or_0, e2, if_neg (by rw [q]; decide)]
            · rw [nI_clamp (by omega), e2, if_pos q]
      exact loop2 _ 0 rfl (by omega)
  exact loop _ 0 rfl (Nat.zero_le _)
set_option maxRecDepth 40000 in
set_option maxHeartbeats 4000000 in
theorem e_m_masses {M : Nat → Nat → Int32} {f_code f_land f_huts f_singers a b c : Int32} {a_covers a_far : Nat → Int32} {post : Int32 → (Int32) → (Int32) → (Int32) → (Int32) → (Nat → Int32) → (Nat → Int32) → Prop} (hc : ∀ o, iv 0 2 (M 4 o)) (hL : mLand (M 5)) (hK : LK M) (hp : ∀ z0 z1 z2 z3 z4 z5, post (AN_masses M a b c) z0 z1 z2 z3 z4 z5) : q_m_masses_0 f_code (M 4) (M 5) f_land f_huts f_singers a_covers a_far a b c post := by
  unfold AN_masses at hp
  refine e_hand (hc 0) (fun hno => iz ?_) (fun k hk ea hy => oi ?_)
  · rw [if_neg hno] at hp; exact hp _ _ _ _ _ _
  rw [if_pos hy] at hp
  subst ea
  have hO : LOK (rowM M 0 (nI k)) := LK_row hK hk hy.2
  have hR : RNG (rowM M 0 (nI k)) := RNG_M hL hk
  obtain ⟨n, hn, hn9⟩ := ln_of hR
  refine sp_in (fun h => zi ?_) (fun c1 c2 => io ?_)
  · rw [if_neg h] at hp; exact hp _ _ _ _ _ _
  rw [if_pos ⟨c1, c2⟩] at hp
  obtain ⟨q, hq, eb⟩ := nI_of2 (M := 99) (n := 99) (by decide) (Int32.not_lt.mpr c1) c2
  subst eb
  rw [hn, cN_nI (by omega), cN_nI (by omega)] at hp
  have ei : ∀ a b : Nat, ((9 : Int32) * nI a) + nI b = nI (9 * a + b) := fun a b => by rw [show (9 : Int32) = nI 9 from rfl, pk_mul, nI_add]
  refine e_farM hk hL hn hn9 (fun far hf => ?_)
  obtain ⟨s, hs, es⟩ := FS_M (k := q) hn9 hn hO
  have hpw := pow_b hn9
  intro P hP
  have loop : ∀ m a (cov : Nat → Int32), m = n - a → a ≤ n → (∀ a', a' < a → cov a' = cvB (WK (tdM M k) n) n q a') → P (nI a) cov := by
    intro m
    induction m using Nat.strongRecOn with
    | ind m ih =>
      intro a cov hm ha hI
      apply hP
      refine pk_le n a (fun h9 => ?_) (fun h9 => ⟨vp_in_nI (by omega) (by omega), fun cov1 e1 => ?_⟩) hn
      · refine e_of (i := 2) hk (by omega) rfl (e_fewestM (R := WK (tdM M k) n) (k := q) hn9 hn (fun s' hs' => ?_) (fun a' ha' => hI a' (by omega)) ?_)
        · rw [hn, sh_pow hn9, show nI (2 ^ n) - 1 = nI (2 ^ n - 1) from pk_sub (b := 1) (Nat.two_pow_pos n)]
          apply hb_eq
          intro h hh
          rw [hb_and, hb_not _ hh, hb_0]
          by_cases q2 : h < n
          · rw [full_bit hn9 q2, Bool.not_true, Bool.and_false]
          · rw [hb_lo hs' hn9 (by omega), Bool.false_and]
        · unfold MSS at hp
          refine ⟨fun w => e_onesM ?_, fun w => ?_⟩
          · rw [if_pos w] at hp; exact hp _ _ _ _ _ _
          · rw [if_neg w] at hp; exact hp _ _ _ _ _ _
      · rw [nI_clamp (by omega)] at e1
        intro P2 hP2
        have loop2 : ∀ m b (cov : Nat → Int32), m = n - b → b ≤ n → (∀ a', a' < a → cov a' = cvB (WK (tdM M k) n) n q a') → cov a = mkB (fun b => decide (WK (tdM M k) n a b ≤ q)) b → P2 (nI b) cov := by
          intro m
          induction m using Nat.strongRecOn with
          | ind m ih2 =>
            intro b cov hm2 hbn hI2 hrow
            apply hP2
            refine pk_le n b (fun h8 v ev => ?_) (fun h8 => ?_) hn
            · rw [ev, nI_1]
              refine ih (n - (a + 1)) (by omega) (a + 1) cov rfl (by omega) (fun a' ha' => ?_)
              by_cases e : a' = a
              · subst e
                rw [hrow, show b = n by omega]
                rfl
              · exact hI2 a' (by omega)
            · have hina : vp_in (nI a) 9 := vp_in_nI (by omega) (by omega)
              have e : mkB (fun b => decide (WK (tdM M k) n a b ≤ q)) (b + 1) = mkB (fun b => decide (WK (tdM M k) n a b ≤ q)) b ||| (if decide (WK (tdM M k) n a b ≤ q) = true then bitI b else 0) := rfl
              have nx : ∀ y : Int32, y = (if decide (WK (tdM M k) n a b ≤ q) = true then bitI b else 0) → q_m_masses_94 P P2 0 (M 4) (M 5) (nI k) (tdM M k 0) (tdM M k 1) cov far (nI q) c (nI a) (nI b) (nI a) (cov a) y post := by
                intro y hy v ev
                refine ⟨hina, fun cov' ec v2 ev2 => ?_⟩
                rw [ev2, nI_1]
                rw [nI_clamp (by omega)] at ec
                refine ih2 (n - (b + 1)) (by omega) (b + 1) cov' rfl (by omega) (fun a' ha' => ?_) ?_
                · rw [ec, up_n (by omega)]; exact hI2 a' ha'
                · rw [ec, up_s, ev, hrow, hy, e]
              have l := WK_le (td := tdM M k) (n := n) (a := a) (b := b)
              have hup : q < upF (WK (tdM M k) n a b) ↔ q < WK (tdM M k) n a b := by
                unfold upF
                split <;> omega
              have ub : upF (WK (tdM M k) n a b) < 2 ^ 30 := upF_b
              rw [ei]
              refine ⟨hina, vp_in_nI (by omega) (by omega), ?_⟩
              rw [nI_clamp (by omega), nI_clamp (by omega), hf a b h9 h8]
              refine pk_lt q (upF (WK (tdM M k) n a b)) (fun hlt => nx _ ?_) (fun hle => nx _ ?_) rfl rfl (by omega) (by omega)
              · have := hup.mp hlt
                rw [if_neg (by rw [decide_eq_false (by omega)]; decide)]
              · rw [if_pos (decide_eq_true (by
                  apply Classical.byContradiction
                  intro h3
                  have := hup.mpr (by omega)
                  omega))]
                rfl
        exact loop2 _ 0 cov1 rfl (by omega) (fun a' ha' => by rw [e1, up_n (by omega)]; exact hI a' ha') (by rw [e1, up_s]; rfl)
  exact loop _ 0 _ rfl (by omega) (fun a' ha' => absurd ha' (Nat.not_lt_zero a'))
set_option maxRecDepth 40000 in
set_option maxHeartbeats 4000000 in
theorem e_x_masses {T : TT} {M : Nat → Nat → Int32} {a b c : Int32} {pa_walked pa_cover : Nat → Int32} {post : Int32 → (Nat → Int32) → (Nat → Int32) → Prop} (h : TM T M 0) (hB : tB T) (hK : LK M) (hL : mLand (M 5)) (hp : ∀ z0 z1, post (AN_masses M a b c) z0 z1) : q_wx_X10_masses_0 (T.2 1) (T.1 3) (T.1 5) (T.2 4) (T.1 10) (T.1 12) (T.2 12) pa_walked pa_cover a b c post := by
  unfold AN_masses at hp
  rw [TM_cnt h 0 (by decide)] at hp
  refine e_at (hB.2.2.1 0) (fun (hno : ¬ (0 ≤ a ∧ a < T.2 1 0)) => ?_) (fun ea hla => ?_) (fun ea hla => ?_)
  · rw [if_neg hno] at hp
    exact ⟨fun _ => hp _ _, fun h9 => absurd h9 (by decide), fun h9 => absurd rfl h9⟩
  · rw [if_pos (by rw [ea]; exact ⟨by decide, hla⟩), ea] at hp
    have hR : RNG (rowM M 0 (nI 0)) := RNG_M hL (by decide)
    have hLD : LDR (T.1 3) (T.1 4) (T.1 5) (T.1 6) (T.1 7) (T.1 8) (T.1 9) (T.2 2) (T.2 3) (T.2 4) (T.2 5) (T.2 6) (T.2 7) (T.2 8) (T.2 9) (rowM M 0 (nI 0)) := TM_sl h 0 0 (by decide) (by decide) hla
    have hX := LX_of hR hLD
    have hOK : LOK (rowM M 0 (nI 0)) := LK_row hK (by decide) (by rw [TM_cnt h 0 (by decide)]; exact hla)
    obtain ⟨n, hn, hn9⟩ := ln_of hR
    refine ⟨fun h9 => absurd h9 (by decide), fun h9 => absurd h9 (by decide), fun _ _ => ?_⟩
    refine ⟨fun c1 => ?_, fun c1 => ⟨fun c2 => ?_, fun c2 => ?_⟩⟩
    · rw [if_neg (fun h9 => absurd c1 (Int32.not_lt.mpr h9.1))] at hp; exact hp _ _
    · rw [if_pos ⟨Int32.not_lt.mp c1, c2⟩] at hp
      obtain ⟨q, hq, eb⟩ := nI_of2 (M := 99) (n := 99) (by decide) c1 c2
      subst eb
      rw [hn, cN_nI (by omega), cN_nI (by omega)] at hp
      obtain ⟨s, hs, es⟩ := FS_M (k := q) hn9 hn hOK
      have hpw := pow_b hn9
      unfold MSS at hp
      refine e_walkW hR hn9 (hX.1.trans hn) hX.2.2.2.2.2.2.2.1 (fun w' hw' => e_coverBy2 (R := WK (rowM M 0 (nI 0)) n) (k := q) hn9 (hX.1.trans hn) rfl (by omega) (fun _ _ => WK_le) hw' (fun cov' hc' => e_fewestX (R := WK (rowM M 0 (nI 0)) n) (k := q) hn9 hLD.2.2.1 (hX.1.trans hn) hc' ⟨fun w0 => ?_, fun w0 => ?_⟩))
      · rw [if_pos w0] at hp
        exact e_bc (by rw [es]; exact iv_ofN (by omega) (by omega) (by omega)) (hp _ _)
      · rw [if_neg w0] at hp; exact hp _ _
    · rw [if_neg (fun h9 => c2 h9.2)] at hp; exact hp _ _
  · rw [if_pos (by rw [ea]; exact ⟨by decide, hla⟩), ea] at hp
    have hR : RNG (rowM M 0 (nI 1)) := RNG_M hL (by decide)
    have hLD : LDR (T.1 10) (T.1 11) (T.1 12) (T.1 13) (T.1 14) (T.1 15) (T.1 16) (T.2 10) (T.2 11) (T.2 12) (T.2 13) (T.2 14) (T.2 15) (T.2 16) (T.2 17) (rowM M 0 (nI 1)) := TM_sl h 0 1 (by decide) (by decide) hla
    have hX := LX_of hR hLD
    have hOK : LOK (rowM M 0 (nI 1)) := LK_row hK (by decide) (by rw [TM_cnt h 0 (by decide)]; exact hla)
    obtain ⟨n, hn, hn9⟩ := ln_of hR
    refine ⟨fun h9 => absurd h9 (by decide), fun _ => ?_, fun _ h9 => absurd rfl h9⟩
    refine ⟨fun c1 => ?_, fun c1 => ⟨fun c2 => ?_, fun c2 => ?_⟩⟩
    · rw [if_neg (fun h9 => absurd c1 (Int32.not_lt.mpr h9.1))] at hp; exact hp _ _
    · rw [if_pos ⟨Int32.not_lt.mp c1, c2⟩] at hp
      obtain ⟨q, hq, eb⟩ := nI_of2 (M := 99) (n := 99) (by decide) c1 c2
      subst eb
      rw [hn, cN_nI (by omega), cN_nI (by omega)] at hp
      obtain ⟨s, hs, es⟩ := FS_M (k := q) hn9 hn hOK
      have hpw := pow_b hn9
      unfold MSS at hp
      refine e_walkW hR hn9 (hX.1.trans hn) hX.2.2.2.2.2.2.2.1 (fun w' hw' => e_coverBy2 (R := WK (rowM M 0 (nI 1)) n) (k := q) hn9 (hX.1.trans hn) rfl (by omega) (fun _ _ => WK_le) hw' (fun cov' hc' => e_fewestX (R := WK (rowM M 0 (nI 1)) n) (k := q) hn9 hLD.2.2.1 (hX.1.trans hn) hc' ⟨fun w0 => ?_, fun w0 => ?_⟩))
      · rw [if_pos w0] at hp
        exact e_bc (by rw [es]; exact iv_ofN (by omega) (by omega) (by omega)) (hp _ _)
      · rw [if_neg w0] at hp; exact hp _ _
    · rw [if_neg (fun h9 => c2 h9.2)] at hp; exact hp _ _
end
