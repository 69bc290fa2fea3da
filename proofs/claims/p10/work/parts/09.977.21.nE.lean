theorem e_reachN {links : Nat → Int32} {bar : Int32} {n f : Nat} {x0 x2 : Int32} {post : Int32 → Prop} (hn : n ≤ 9) (hf : f < n) (hx : x0 = nI f) (hb2 : x2 = bar) (hl : ∀ a, a < n → ∀ b, b < 32 → hb (links a) b = true → b < n) (hp : ∀ set, (∀ h, h < 32 → hb set h = (decide (h < n) && clB (fun a b => hb (links a) b && !hb bar b) n f h)) → post set) : q_wn_X7_reach_5_0 links x0 x2 post := by
  subst hx
  subst hb2
  intro v1 e1
  have e1' : v1 = bitI f := e1
  intro P hP
  have dn : ∀ (s : Int32), hb s f = true → (∀ k, k < 32 → hb s k = true → k < n) → (∀ C : Nat → Bool, C f = true → (∀ a b, a < n → b < n → C a = true → (hb (links a) b && !hb x2 b) = true → C b = true) → ∀ h, h < n → hb s h = true → C h = true) → (∀ a b, a < n → b < n → hb s a = true → (hb (links a) b && !hb x2 b) = true → hb s b = true) → post s := by
    intro s s1 s2 s3 s4
    refine hp s (fun h hh => ?_)
    by_cases hhn : h < n
    · rw [decide_eq_true hhn, Bool.true_and]
      exact cl_eq (S := hb s) s1 s4 s3 h hhn
    · rw [decide_eq_false hhn, Bool.false_and, ← Bool.not_eq_true]
      exact fun h9 => hhn (s2 h hh h9)
  have loop : ∀ m r (s : Int32), m = 9 - r → r ≤ 9 → hb s f = true → (∀ k, k < 32 → hb s k = true → k < n) → (∀ C : Nat → Bool, C f = true → (∀ a b, a < n → b < n → C a = true → (hb (links a) b && !hb x2 b) = true → C b = true) → ∀ h, h < n → hb s h = true → C h = true) → r + 1 ≤ cntB (hb s) 9 → P s (nI r) := by
    intro m
    induction m using Nat.strongRecOn with
    | ind m ih =>
      intro r s hm hr s1 s2 s3 hc
      apply hP
      refine pk_le 9 r (fun h9 => ?_) (fun h9 => ?_)
      · have := cnt_le (hb s) 9
        omega
      · intro P2 hP2
        have loop2 : ∀ m j (x : Int32), m = 9 - j → j ≤ 9 → (∀ k, k < 32 → hb s k = true → hb x k = true) → (∀ k, k < 32 → hb x k = true → k < n) → (∀ C : Nat → Bool, C f = true → (∀ a b, a < n → b < n → C a = true → (hb (links a) b && !hb x2 b) = true → C b = true) → ∀ h, h < n → hb x h = true → C h = true) → (∀ a b, a < j → b < 32 → hb s a = true → (hb (links a) b && !hb x2 b) = true → hb x b = true) → P2 x (nI j) := by
          intro m
          induction m using Nat.strongRecOn with
          | ind m ih2 =>
            intro j x hm2 hj x1 x2' x3 x4
            apply hP2
            refine pk_le 9 j (fun h8 => ?_) (fun h8 => ?_)
            · refine ⟨fun hne => fun v ev => ?_, fun heq => ?_⟩
              · rw [ev, nI_1]
                refine ih (9 - (r + 1)) (by omega) (r + 1) x rfl (by omega) (x1 f (by omega) s1) x2' x3 ?_
                have hd : ∃ k, k < 9 ∧ hb x k = true ∧ hb s k = false := by
                  apply Classical.byContradiction
                  intro hno
                  apply hne
                  apply hb_eq
                  intro k hk
                  by_cases hsk : hb s k = true
                  · rw [hsk, x1 k hk hsk]
                  · rw [Bool.not_eq_true] at hsk
                    rw [hsk, ← Bool.not_eq_true]
                    intro hxk
                    exact hno ⟨k, by have := x2' k hk hxk; omega, hxk, hsk⟩
                have := cnt_lt 9 (fun k hk => x1 k (by omega)) hd
                omega
              · refine dn s s1 s2 s3 (fun a b ha hb1 hsa hE => ?_)
                rw [← heq]
                exact x4 a b (by omega) (by omega) hsa hE
            · have nx : ∀ y : Int32, (∀ k, k < 32 → hb s k = true → hb y k = true) → (∀ k, k < 32 → hb y k = true → k < n) → (∀ C : Nat → Bool, C f = true → (∀ a b, a < n → b < n → C a = true → (hb (links a) b && !hb x2 b) = true → C b = true) → ∀ h, h < n → hb y h = true → C h = true) → (∀ a b, a < j + 1 → b < 32 → hb s a = true → (hb (links a) b && !hb x2 b) = true → hb y b = true) → q_wn_X7_reach_5_49 P P2 links x2 s (nI r) y (nI j) post := by
                intro y y1 y2 y3 y4 v ev
                rw [ev, nI_1]
                exact ih2 (9 - (j + 1)) (by omega) (j + 1) y rfl (by omega) y1 y2 y3 y4
              refine e_hasX (by omega) (fun hh0 => iz (nx x x1 x2' x3 (fun a b ha hb1 hsa hE => ?_))) (fun hh1 => oi ⟨vp_in_nI h8 (by omega), fun v ev => ?_⟩)
              · by_cases e : a = j
                · subst e; rw [hh0] at hsa; exact absurd hsa (by decide)
                · exact x4 a b (by omega) hb1 hsa hE
              · rw [nI_clamp (by omega)] at ev
                have hv : ∀ k, k < 32 → hb v k = (hb x k || (hb (links j) k && !hb x2 k)) := fun k hk => by rw [ev, hb_or, hb_and, hb_not _ hk]
                have hjn : j < n := s2 j (by omega) hh1
                refine nx v (fun k hk h => by rw [hv k hk, x1 k hk h]; rfl) (fun k hk h => ?_) (fun C c1 c2 k hk h => ?_) (fun a b ha hb1 hsa hE => ?_)
                · rw [hv k hk, Bool.or_eq_true] at h
                  rcases h with h | h
                  · exact x2' k hk h
                  · rw [Bool.and_eq_true] at h
                    exact hl j hjn k hk h.1
                · rw [hv k (by omega), Bool.or_eq_true] at h
                  rcases h with h | h
                  · exact x3 C c1 c2 k hk h
                  · exact c2 j k hjn hk (s3 C c1 c2 j hjn hh1) h
                · rw [hv b hb1]
                  by_cases e : a = j
                  · subst e; rw [hE, Bool.or_true]
                  · rw [x4 a b (by omega) hb1 hsa hE]; rfl
        exact loop2 _ 0 s rfl (by omega) (fun k _ h => h) s2 s3 (fun a b ha => absurd ha (Nat.not_lt_zero a))
  have hbf : ∀ k, k < 32 → hb v1 k = decide (f = k) := fun k hk => by rw [e1']; exact hb_b32 (by omega) hk
  refine loop _ 0 v1 rfl (by omega) (by rw [hbf f (by omega), decide_eq_true rfl]) (fun k hk h => ?_) (fun C c1 c2 h hh hs => ?_) ?_
  · rw [hbf k hk] at h
    have := of_decide_eq_true h
    omega
  · rw [hbf h (by omega)] at hs
    rw [← of_decide_eq_true hs]
    exact c1
  · have g := cnt_lt (p := fun _ => false) (q := hb v1) 9 (fun _ _ h => absurd h (by decide)) ⟨f, by omega, by rw [hbf f (by omega), decide_eq_true rfl], rfl⟩
    omega
