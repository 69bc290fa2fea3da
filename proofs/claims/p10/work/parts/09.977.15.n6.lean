theorem hb_bitI {i k : Nat} (hi : i < 31) (hk : k < 31) : hb (bitI i) k = decide (i = k) := hb_bit hi hk
theorem NOK_snd {td : Nat → Int32} {S : Nat → Nat → Int32} {s t : Nat} {sn : Nat → Int32} {mi av : Int32} (hR : RNG td) (h : NOK td S) (hs : s < 6) (ht : t < 5) : NOK td (smk (S 0) (knS td (S 0) (S 1) s t) (S 2) sn (upd (S 4) t (hgh td (S 0) (S 2) s)) (S 5 0 ||| bitI t) mi av) := by
  refine ⟨h.1, fun j hj => ?_, h.2.2.1, ?_, h.2.2.2.2.1, fun t' ht' => ?_, fun t' ht' hf => ?_⟩
  · show iv 0 31 (knS td (S 0) (S 1) s t j)
    unfold knS
    split
    · exact iv_or 5 (h.2.1 j hj) (bit5 t ht) (by decide)
    · exact h.2.1 j hj
  · show iv 0 31 (S 5 0 ||| bitI t)
    exact iv_or 5 h.2.2.2.1 (bit5 t ht) (by decide)
  · show iv (-9) 108 (upd (S 4) t (hgh td (S 0) (S 2) s) t')
    by_cases e : t' = t
    · rw [e, up_s]
      exact hgh_iv hR hs (h.1 s hs) (h.2.2.1 s hs)
    · rw [up_n e]
      exact h.2.2.2.2.2.1 t' ht'
  · show upd (S 4) t (hgh td (S 0) (S 2) s) t' = -1
    have hf' : hb (S 5 0 ||| bitI t) t' = false := hf
    rw [hb_or, Bool.or_eq_false_iff, hb_bitI (by omega) (by omega)] at hf'
    have e : ¬ t' = t := fun e => by
      rw [e] at hf'
      simp at hf'
    rw [up_n e]
    exact h.2.2.2.2.2.2 t' ht' hf'.1
theorem act_ok {td : Nat → Int32} {S : Nat → Nat → Int32} {k s x : Int32} (hR : RNG td) (h : NOK td S) : NOK td (actS td k s x S).2 := by
  have base : NOK td (smk (S 0) (S 1) (S 2) (S 3) (S 4) (S 5 0) (S 5 1) (S 5 2)) := h
  have h1 : iv 0 6 (td 1) := hR 1 (by omega)
  have h0 : iv 0 9 (td 0) := hR 0 (by omega)
  unfold actS act
  by_cases hs : ¬ (0 ≤ s ∧ s < td 1)
  · rw [if_pos hs]; exact base
  rw [if_neg hs]
  obtain ⟨s', hs', es⟩ := lt_nI (m := 6) h1 (Decidable.not_not.mp hs)
  subst es
  rw [cN_nI (by omega)]
  by_cases k0 : k = 0
  · rw [if_pos k0]
    by_cases hm : mayR td (S 0) (S 1) (S 5 0) s' x false = true
    · rw [if_pos hm]
      obtain ⟨t, ht5, ex⟩ := mayR_x hm
      subst ex
      rw [cN_nI (by omega)]
      exact NOK_snd hR h hs' ht5
    · rw [if_neg hm]; exact base
  rw [if_neg k0]
  by_cases k1 : k = 1 ∨ k = 2
  · rw [if_pos k1]
    by_cases hm : mayR td (S 0) (S 1) (S 5 0) s' x true = true
    · rw [if_pos hm]
      obtain ⟨t, ht5, ex⟩ := mayR_x hm
      subst ex
      rw [cN_nI (by omega)]
      exact NOK_snd hR h hs' ht5
    · rw [if_neg hm]; exact base
  rw [if_neg k1]
  by_cases k3 : k = 3
  · rw [if_pos k3]
    by_cases hm : mayW td (S 0) (S 2) (S 3) s' x = true
    · rw [if_pos hm]
      unfold mayW at hm
      simp only [Bool.and_eq_true, decide_eq_true_eq] at hm
      have hx := hm.1.1.1.1
      obtain ⟨y, hy, ex⟩ := lt_nI (m := 9) h0 hx
      refine ⟨fun j hj => ?_, h.2.1, h.2.2.1, h.2.2.2.1, fun j hj hl => ?_, h.2.2.2.2.2⟩
      · show iv 0 8 (upd (S 0) s' x j)
        by_cases e : j = s'
        · rw [e, up_s, ex]; exact iv_ofN (by omega) (by omega) (by omega)
        · rw [up_n e]; exact h.1 j hj
      · show upd (S 0) s' x j < td 0
        by_cases e : j = s'
        · rw [e, up_s]; exact hx.2
        · rw [up_n e]; exact h.2.2.2.2.1 j hj hl
    · rw [if_neg hm]; exact base
  rw [if_neg k3]
  have cl : ∀ v : Int32, v = 0 ∨ v = 1 → NOK td (smk (S 0) (S 1) (upd (S 2) s' v) (S 3) (S 4) (S 5 0) (S 5 1) (S 5 2)) := by
    intro v hv
    refine ⟨h.1, h.2.1, fun j hj => ?_, h.2.2.2⟩
    show upd (S 2) s' v j = 0 ∨ upd (S 2) s' v j = 1
    by_cases e : j = s'
    · rw [e, up_s]; exact hv
    · rw [up_n e]; exact h.2.2.1 j hj
  by_cases k4 : k = 4
  · rw [if_pos k4]
    split
    · exact cl 1 (Or.inr rfl)
    · exact base
  rw [if_neg k4]
  split
  · exact cl 0 (Or.inl rfl)
  · exact base
theorem hgh_ag {td : Nat → Int32} {S' S : Nat → Nat → Int32} {s : Nat} (H : AGs S' S) (hs : s < 6) : hgh td (S' 0) (S' 2) s = hgh td (S 0) (S 2) s := by
  unfold hgh
  rw [(H.1 s hs).1, (H.1 s hs).2.2]
theorem mayR_ag {td : Nat → Int32} {S' S : Nat → Nat → Int32} {s : Nat} {x : Int32} {b : Bool} (H : AGs S' S) (hs : s < 6) : mayR td (S' 0) (S' 1) (S' 5 0) s x b = mayR td (S 0) (S 1) (S 5 0) s x b := by
  unfold mayR
  rw [(H.1 s hs).1, (H.1 s hs).2.1, H.2.2.2.1]
theorem knS_ag {td : Nat → Int32} {S' S : Nat → Nat → Int32} {s t : Nat} (H : AGs S' S) (hs : s < 6) (j : Nat) (hj : j < 6) : knS td (S' 0) (S' 1) s t j = knS td (S 0) (S 1) s t j := by
  unfold knS
  rw [(H.1 s hs).1, (H.1 j hj).1, (H.1 j hj).2.1]
theorem mayR_b {td at_ kn : Nat → Int32} {be : Int32} {s t : Nat} {b : Bool} (ht : t < 5) (h : mayR td at_ kn be s (nI t) b = true) : hb be t = b := by
  unfold mayR at h
  simp only [Bool.and_eq_true, decide_eq_true_eq, beq_iff_eq] at h
  rw [← cN_nI (n := t) (by omega)]
  exact h.1.2
theorem AG_snd {td : Nat → Int32} {S' S : Nat → Nat → Int32} {s t : Nat} {sn' sn : Nat → Int32} {av' av : Int32} (H : AGs S' S) (hs : s < 6) (ht : t < 5) (hsn : ∀ j, j < 9 → sn' j = sn j) (hav : av' = av) : AGs (smk (S' 0) (knS td (S' 0) (S' 1) s t) (S' 2) sn' (upd (S' 4) t (hgh td (S' 0) (S' 2) s)) (S' 5 0 ||| bitI t) (S' 5 1) av') (smk (S 0) (knS td (S 0) (S 1) s t) (S 2) sn (upd (S 4) t (hgh td (S 0) (S 2) s)) (S 5 0 ||| bitI t) (S 5 1) av) := by
  refine ⟨fun j hj => ⟨(H.1 j hj).1, knS_ag H hs j hj, (H.1 j hj).2.2⟩, hsn, fun t' ht' hb' => ?_, ?_, H.2.2.2.2.1, hav⟩
  · show upd (S' 4) t (hgh td (S' 0) (S' 2) s) t' = upd (S 4) t (hgh td (S 0) (S 2) s) t'
    by_cases e : t' = t
    · rw [e, up_s, up_s, hgh_ag H hs]
    · rw [up_n e, up_n e]
      have h2 : hb (S 5 0 ||| bitI t) t' = true := hb'
      rw [hb_or, hb_bitI (by omega) (by omega), de_ne e, Bool.or_false] at h2
      exact H.2.2.1 t' ht' h2
  · show S' 5 0 ||| bitI t = S 5 0 ||| bitI t
    rw [H.2.2.2.1]
theorem mayW_ag {td : Nat → Int32} {S' S : Nat → Nat → Int32} {s : Nat} {x : Int32} (hR : RNG td) (hN : NOK td S) (H : AGs S' S) (hs : s < 6) : mayW td (S' 0) (S' 2) (S' 3) s x = mayW td (S 0) (S 2) (S 3) s x := by
  unfold mayW
  by_cases hx : 0 ≤ x ∧ x < td 0
  · obtain ⟨y, hy, ex⟩ := lt_nI (m := 9) (hR 0 (by omega)) hx
    obtain ⟨a, ea, -, ha8, -⟩ := iv_nI (hN.1 s hs) (by decide)
    rw [(H.1 s hs).1, (H.1 s hs).2.2, ea, ex, cN_nI (by omega), cN_nI (by omega), H.2.1 a (by omega), H.2.1 y hy]
  · rw [decide_eq_false hx]
    simp only [Bool.false_and]
theorem actS_ag {td : Nat → Int32} {S' S : Nat → Nat → Int32} {k s x : Int32} (hR : RNG td) (hN : NOK td S) (H : AGs S' S) : (actS td k s x S').1 = (actS td k s x S).1 ∧ AGs (actS td k s x S').2 (actS td k s x S).2 := by
  have base : AGs (smk (S' 0) (S' 1) (S' 2) (S' 3) (S' 4) (S' 5 0) (S' 5 1) (S' 5 2)) (smk (S 0) (S 1) (S 2) (S 3) (S 4) (S 5 0) (S 5 1) (S 5 2)) := H
  have h1 : iv 0 6 (td 1) := hR 1 (by omega)
  unfold actS act
  by_cases hs : ¬ (0 ≤ s ∧ s < td 1)
  · rw [if_pos hs, if_pos hs]; exact ⟨rfl, base⟩
  rw [if_neg hs, if_neg hs]
  obtain ⟨s', hs', es⟩ := lt_nI (m := 6) h1 (Decidable.not_not.mp hs)
  subst es
  rw [cN_nI (by omega)]
  by_cases k0 : k = 0
  · rw [if_pos k0, if_pos k0, mayR_ag H hs']
    by_cases hm : mayR td (S 0) (S 1) (S 5 0) s' x false = true
    · rw [if_pos hm, if_pos hm]
      obtain ⟨t, ht5, ex⟩ := mayR_x hm
      subst ex
      rw [cN_nI (by omega)]
      exact ⟨rfl, AG_snd H hs' ht5 H.2.1 H.2.2.2.2.2⟩
    · rw [if_neg hm, if_neg hm]; exact ⟨rfl, base⟩
  rw [if_neg k0, if_neg k0]
  by_cases k1 : k = 1 ∨ k = 2
  · rw [if_pos k1, if_pos k1, mayR_ag H hs']
    by_cases hm : mayR td (S 0) (S 1) (S 5 0) s' x true = true
    · rw [if_pos hm, if_pos hm]
      obtain ⟨t, ht5, ex⟩ := mayR_x hm
      subst ex
      rw [cN_nI (by omega)]
      obtain ⟨a, ea, -, ha8, -⟩ := iv_nI (hN.1 s' hs') (by decide)
      have hbt : hb (S 5 0) t = true := mayR_b ht5 hm
      have ew : ∀ w, wrongR td (S' 0) (S' 2) (S' 4) s' t w = wrongR td (S 0) (S 2) (S 4) s' t w := by
        intro w
        unfold wrongR
        rw [hgh_ag H hs', H.2.2.1 t ht5 hbt]
      unfold rais
      rw [ew]
      refine ⟨rfl, AG_snd H hs' ht5 (fun j hj => ?_) (by rw [H.2.2.2.2.2])⟩
      rw [(H.1 s' hs').1, ea, cN_nI (by omega), H.2.1 a (by omega)]
      by_cases e : j = a
      · rw [e, up_s, up_s]
      · rw [up_n e, up_n e]; exact H.2.1 j hj
    · rw [if_neg hm, if_neg hm]; exact ⟨rfl, base⟩
  rw [if_neg k1, if_neg k1]
  by_cases k3 : k = 3
  · rw [if_pos k3, if_pos k3, mayW_ag hR hN H hs']
    by_cases hm : mayW td (S 0) (S 2) (S 3) s' x = true
    · rw [if_pos hm, if_pos hm]
      refine ⟨rfl, fun j hj => ⟨?_, (H.1 j hj).2⟩, H.2.1, H.2.2.1, H.2.2.2.1, ?_, H.2.2.2.2.2⟩
      · show upd (S' 0) s' x j = upd (S 0) s' x j
        by_cases e : j = s'
        · rw [e, up_s, up_s]
        · rw [up_n e, up_n e]; exact (H.1 j hj).1
      · show S' 5 1 + _ = S 5 1 + _
        rw [(H.1 s' hs').1, H.2.2.2.2.1]
    · rw [if_neg hm, if_neg hm]; exact ⟨rfl, base⟩
  rw [if_neg k3, if_neg k3]
  have cl : ∀ v : Int32, AGs (smk (S' 0) (S' 1) (upd (S' 2) s' v) (S' 3) (S' 4) (S' 5 0) (S' 5 1) (S' 5 2)) (smk (S 0) (S 1) (upd (S 2) s' v) (S 3) (S 4) (S 5 0) (S 5 1) (S 5 2)) := by
    intro v
    refine ⟨fun j hj => ⟨(H.1 j hj).1, (H.1 j hj).2.1, ?_⟩, H.2⟩
    show upd (S' 2) s' v j = upd (S 2) s' v j
    by_cases e : j = s'
    · rw [e, up_s, up_s]
    · rw [up_n e, up_n e]; exact (H.1 j hj).2.2
  rw [(H.1 s' hs').1, (H.1 s' hs').2.2]
  by_cases k4 : k = 4
  · rw [if_pos k4, if_pos k4]
    split
    · exact ⟨rfl, cl 1⟩
    · exact ⟨rfl, base⟩
  rw [if_neg k4, if_neg k4]
  split
  · exact ⟨rfl, cl 0⟩
  · exact ⟨rfl, base⟩
/-- an evening from its deed j on, at most m deeds: how many there are, the state behind them -/
def plays (td ev : Nat → Int32) : Nat → Nat → (Nat → Nat → Int32) → Nat × (Nat → Nat → Int32)
  | 0, j, S => (j, S)
  | m + 1, j, S => if (actS td (ev (1 + 3 * j)) (ev (2 + 3 * j)) (ev (3 + 3 * j)) S).1 = true then plays td ev m (j + 1) (actS td (ev (1 + 3 * j)) (ev (2 + 3 * j)) (ev (3 + 3 * j)) S).2 else (j, (actS td (ev (1 + 3 * j)) (ev (2 + 3 * j)) (ev (3 + 3 * j)) S).2)
def S0 (td : Nat → Int32) : Nat → Nat → Int32 := smk (fun j => td (25 + j)) (fun j => td (37 + j)) (fun _ => 0) (fun _ => 0) (fun _ => -1) 0 0 0
theorem S0_ok {td : Nat → Int32} (hR : RNG td) (hL : LOK td) : NOK td (S0 td) := by
  refine ⟨fun j hj => ?_, fun j hj => ?_, fun j hj => Or.inl rfl, iv_lit (l := 0) (h := 31) (x := 0) (by decide), fun j hj hl => hL.1 j hj hl, fun t ht => iv_lit (l := -9) (h := 108) (x := -1) (by decide), fun t ht _ => rfl⟩
  · refine iv_w (hR (25 + j) (by omega)) ?_
    have h2 : j = 0 ∨ j = 1 ∨ j = 2 ∨ j = 3 ∨ j = 4 ∨ j = 5 := by omega
    rcases h2 with rfl | rfl | rfl | rfl | rfl | rfl <;> decide
  · refine iv_w (hR (37 + j) (by omega)) ?_
    have h2 : j = 0 ∨ j = 1 ∨ j = 2 ∨ j = 3 ∨ j = 4 ∨ j = 5 := by omega
    rcases h2 with rfl | rfl | rfl | rfl | rfl | rfl <;> decide
theorem plays_ok {td ev : Nat → Int32} (hR : RNG td) : ∀ m j S, NOK td S → NOK td (plays td ev m j S).2 := by
  intro m
  induction m with
  | zero => intro j S h; exact h
  | succ m ih =>
    intro j S h
    unfold plays
    split
    · exact ih _ _ (act_ok hR h)
    · exact act_ok hR h
theorem plays_le {td ev : Nat → Int32} : ∀ m j S, j ≤ (plays td ev m j S).1 ∧ (plays td ev m j S).1 ≤ j + m := by
  intro m
  induction m with
  | zero => intro j S; exact ⟨Nat.le_refl _, Nat.le_refl _⟩
  | succ m ih =>
    intro j S
    unfold plays
    split
    · have := ih (j + 1) (actS td (ev (1 + 3 * j)) (ev (2 + 3 * j)) (ev (3 + 3 * j)) S).2
      omega
    · exact ⟨Nat.le_refl _, by show j ≤ _; omega⟩
theorem e_playM {M : Nat → Nat → Int32} {k e n : Nat} {at_ kn cl sn lv : Nat → Int32} {be mi av : Int32} {post : NT} (hk : k < 2) (he : e < 2) (hn : n ≤ 40) (hL : mLand (M 5)) (hE : mEve (M 6)) (hO : LOK (tdM M k))
    (hp : ∀ S', AGs S' (plays (tdM M k) (rowM M 1 (nI e)) n 0 (S0 (tdM M k))).2 → nP post (nI (plays (tdM M k) (rowM M 1 (nI e)) n 0 (S0 (tdM M k))).1) S') : q_m_play_0 (M 5) (M 6) (nI k) (tdM M k 0) (tdM M k 1) (nI e) at_ kn cl sn lv be mi av (nI n) post := by
  have hR : RNG (tdM M k) := fun j hj => row_iv hL hk hj
  refine e_beginM hk (fun at1 kn1 cl1 sn1 hI hS => ?_)
  intro P hP
  have loop : ∀ m j (S' S : Nat → Nat → Int32), m = n - j → j ≤ n → NOK (tdM M k) S → AGs S' S → (∀ S2, AGs S2 (plays (tdM M k) (rowM M 1 (nI e)) m j S).2 → nP post (nI (plays (tdM M k) (rowM M 1 (nI e)) m j S).1) S2) → P (nI j) (S' 0) (S' 1) (S' 2) (S' 3) (S' 4) (S' 5 0) (S' 5 1) (S' 5 2) := by
    intro m
    induction m with
    | zero =>
      intro j S' S hm hj hN hA hq
      apply hP
      have e1 : j = n := by omega
      subst e1
      exact pk_le j j (fun _ => hq S' hA) (fun h9 => absurd h9 (by omega))
    | succ m ih =>
      intro j S' S hm hj hN hA hq
      apply hP
      refine pk_le n j (fun h9 => absurd h9 (by omega)) (fun h9 => ?_)
      have g := actS_ag (k := rowM M 1 (nI e) (1 + 3 * j)) (s := rowM M 1 (nI e) (2 + 3 * j)) (x := rowM M 1 (nI e) (3 + 3 * j)) hR hN hA
      have ok := act_ok (k := rowM M 1 (nI e) (1 + 3 * j)) (s := rowM M 1 (nI e) (2 + 3 * j)) (x := rowM M 1 (nI e) (3 + 3 * j)) hR hN
      refine e_doesM hk he (by omega) hL hE (fun i hi => by rw [(hA.1 i hi).1]; exact hN.1 i hi) (fun i hi => by rw [(hA.1 i hi).2.1]; exact hN.2.1 i hi) ?_
      unfold plays at hq
      show nP _ (bI (actS (tdM M k) (rowM M 1 (nI e) (1 + 3 * j)) (rowM M 1 (nI e) (2 + 3 * j)) (rowM M 1 (nI e) (3 + 3 * j)) S').1) (actS (tdM M k) (rowM M 1 (nI e) (1 + 3 * j)) (rowM M 1 (nI e) (2 + 3 * j)) (rowM M 1 (nI e) (3 + 3 * j)) S').2
      rw [g.1]
      by_cases hb1 : (actS (tdM M k) (rowM M 1 (nI e) (1 + 3 * j)) (rowM M 1 (nI e) (2 + 3 * j)) (rowM M 1 (nI e) (3 + 3 * j)) S).1 = true
      · rw [hb1]
        rw [if_pos hb1] at hq
        refine ⟨fun h8 => absurd h8 (by decide), fun _ v ev => ?_⟩
        rw [ev, nI_1]
        exact ih (j + 1) _ _ (by omega) (by omega) ok g.2 hq
      · rw [Bool.not_eq_true] at hb1
        rw [hb1]
        rw [if_neg (by rw [hb1]; decide)] at hq
        exact ⟨fun _ => hq _ g.2, fun h8 => absurd rfl h8⟩
  refine loop n 0 (smk at1 kn1 cl1 sn1 lv 0 0 0) (S0 (tdM M k)) (by omega) (by omega) (S0_ok hR hO) ?_ hp
  exact ⟨hI, hS, fun t ht h9 => absurd (show hb 0 t = true from h9) (by rw [hb_0]; decide), rfl, rfl, rfl⟩
