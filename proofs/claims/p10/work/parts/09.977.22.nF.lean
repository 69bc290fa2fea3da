theorem clB_ext {E E' : Nat → Nat → Bool} {n f h : Nat} (e : ∀ a b, a < n → b < n → E a b = E' a b) : clB E n f h = clB E' n f h := by
  have q : ∀ E E' : Nat → Nat → Bool, (∀ a b, a < n → b < n → E a b = E' a b) → clB E n f h = true → clB E' n f h = true := by
    intro E E' e h1
    have h2 := @of_decide_eq_true _ (Classical.propDecidable _) h1
    exact @decide_eq_true _ (Classical.propDecidable _) (fun C c1 c2 => h2 C c1 (fun a b ha hb hc hE => c2 a b ha hb hc (by rw [← e a b ha hb]; exact hE)))
  cases h1 : clB E n f h with
  | true => exact (q E E' e h1).symm
  | false =>
    rw [eq_comm, ← Bool.not_eq_true]
    intro h2
    rw [q E' E (fun a b ha hb => (e a b ha hb).symm) h2] at h1
    exact absurd h1 (by decide)
/-- a way that can be walked -/
def wayB (td sn : Nat → Int32) (a b : Nat) : Bool := decide (0 < td (51 + 9 * a + b)) && decide (sn a < td 5) && decide (sn b < td 5)
theorem e_rchM {M : Nat → Nat → Int32} {at_ sn : Nat → Int32} {k s f n : Nat} {post : Int32 → Prop} (hk : k < 2) (hs : s < 6) (ha : at_ s = nI f) (hf : f < n) (hn : tdM M k 0 = nI n) (hn9 : n ≤ 9) (hp : ∀ set, (∀ h, h < 32 → hb set h = (decide (h < n) && clB (wayB (tdM M k) sn) n f h)) → post set) : q_m_reach_0 (M 5) (nI k) (tdM M k 0) at_ sn (nI s) post := by
  have hin : vp_in (nI s) 6 := vp_in_nI hs (by omega)
  have hbf : ∀ k, k < 32 → hb (bitI f) k = decide (f = k) := fun k hk => hb_b32 (by omega) hk
  have dn : ∀ (s : Int32), hb s f = true → (∀ k, k < 32 → hb s k = true → k < n) → (∀ C : Nat → Bool, C f = true → (∀ a b, a < n → b < n → C a = true → wayB (tdM M k) sn a b = true → C b = true) → ∀ h, h < n → hb s h = true → C h = true) → (∀ a b, a < n → b < n → hb s a = true → wayB (tdM M k) sn a b = true → hb s b = true) → post s := by
    intro s s1 s2 s3 s4
    refine hp s (fun h hh => ?_)
    by_cases hhn : h < n
    · rw [decide_eq_true hhn, Bool.true_and]
      exact cl_eq (S := hb s) s1 s4 s3 h hhn
    · rw [decide_eq_false hhn, Bool.false_and, ← Bool.not_eq_true]
      exact fun h9 => hhn (s2 h hh h9)
  refine ⟨hin, fun v1 e1 => ?_⟩
  rw [nI_clamp (by omega), ha] at e1
  have e1' : v1 = bitI f := e1
  have i1 : hb v1 f = true := by rw [e1', hbf f (by omega), decide_eq_true rfl]
  have i2 : ∀ k, k < 32 → hb v1 k = true → k < n := by
    intro k hk h
    rw [e1', hbf k hk] at h
    have := of_decide_eq_true h
    omega
  have i3 : ∀ C : Nat → Bool, C f = true → (∀ a b, a < n → b < n → C a = true → wayB (tdM M k) sn a b = true → C b = true) → ∀ h, h < n → hb v1 h = true → C h = true := by
    intro C c1 c2 h hh hs
    rw [e1', hbf h (by omega)] at hs
    rw [← of_decide_eq_true hs]
    exact c1
  intro P hP
  have hu : ∀ {A B : Prop} (x : Nat), x < 2 ^ 31 → (n ≤ x → A) → (x < n → B) → (tdM M k 0 ≤ nI x → A) ∧ (¬ tdM M k 0 ≤ nI x → B) := fun x hx f g => pk_le n x f g hn rfl (by omega) hx
  by_cases hcf : sn f < tdM M k 5
  · have loop : ∀ m r (s0 : Int32), m = 9 - r → r ≤ 9 → hb s0 f = true → (∀ k, k < 32 → hb s0 k = true → k < n) → (∀ C : Nat → Bool, C f = true → (∀ a b, a < n → b < n → C a = true → wayB (tdM M k) sn a b = true → C b = true) → ∀ h, h < n → hb s0 h = true → C h = true) → (∀ h, h < n → hb s0 h = true → sn h < tdM M k 5) → (r + 1 ≤ cntB (hb s0) 9 ∨ ∀ a b, a < n → b < n → hb s0 a = true → wayB (tdM M k) sn a b = true → hb s0 b = true) → P s0 (nI r) := by
      intro m
      induction m using Nat.strongRecOn with
      | ind m ih =>
        intro r s0 hm hr s1 s2 s3 s5 hc
        apply hP
        refine pk_le 9 r (fun h9 => ?_) (fun h9 => ⟨hin, ?_⟩)
        · rcases hc with hc | hc
          · have := cnt_le (hb s0) 9
            omega
          · exact dn s0 s1 s2 s3 hc
        · rw [nI_clamp (by omega), ha]
          refine e_cutM hk (by omega) (fun _ => zi ?_) (fun h => absurd hcf h)
          intro P2 hP2
          -- over a
          have loopa : ∀ m a (x : Int32), m = n - a → a ≤ n → (∀ k, k < 32 → hb s0 k = true → hb x k = true) → (∀ k, k < 32 → hb x k = true → k < n) → (∀ C : Nat → Bool, C f = true → (∀ a b, a < n → b < n → C a = true → wayB (tdM M k) sn a b = true → C b = true) → ∀ h, h < n → hb x h = true → C h = true) → (∀ h, h < n → hb x h = true → sn h < tdM M k 5) → (∀ a' b, a' < a → b < n → hb s0 a' = true → wayB (tdM M k) sn a' b = true → hb x b = true) → P2 x (nI a) := by
            intro m
            induction m using Nat.strongRecOn with
            | ind m iha =>
              intro a x hma hale x1 x2 x3 x5 x4
              apply hP2
              refine hu a (by omega) (fun h8 v ev => ?_) (fun h8 => ?_)
              · rw [ev, nI_1]
                refine ih (9 - (r + 1)) (by omega) (r + 1) x rfl (by omega) (x1 f (by omega) s1) x2 x3 x5 ?_
                have clos : (∀ a b, a < n → b < n → hb s0 a = true → wayB (tdM M k) sn a b = true → hb s0 b = true) → ∀ a b, a < n → b < n → hb x a = true → wayB (tdM M k) sn a b = true → hb x b = true := by
                  intro hcl a b ha hb1 hxa hE
                  have hsa : hb s0 a = true := x3 (hb s0) s1 hcl a ha hxa
                  exact x1 b (by omega) (hcl a b ha hb1 hsa hE)
                rcases hc with hc | hc
                · by_cases hcl : ∀ a b, a < n → b < n → hb s0 a = true → wayB (tdM M k) sn a b = true → hb s0 b = true
                  · exact Or.inr (clos hcl)
                  · left
                    have hd : ∃ k, k < 9 ∧ hb x k = true ∧ hb s0 k = false := by
                      apply Classical.byContradiction
                      intro hno
                      apply hcl
                      intro a' b ha' hb1 hsa hE
                      have hxb := x4 a' b (by omega) hb1 hsa hE
                      rw [← Bool.not_eq_false]
                      exact fun hsb => hno ⟨b, by omega, hxb, hsb⟩
                    have := cnt_lt 9 (fun k hk => x1 k (by omega)) hd
                    omega
                · exact Or.inr (clos hc)
              · intro P3 hP3
                have loopb : ∀ m b (y : Int32), m = n - b → b ≤ n → (∀ k, k < 32 → hb s0 k = true → hb y k = true) → (∀ k, k < 32 → hb y k = true → k < n) → (∀ C : Nat → Bool, C f = true → (∀ a b, a < n → b < n → C a = true → wayB (tdM M k) sn a b = true → C b = true) → ∀ h, h < n → hb y h = true → C h = true) → (∀ h, h < n → hb y h = true → sn h < tdM M k 5) → (∀ a' b', a' < a ∨ (a' = a ∧ b' < b) → b' < n → hb s0 a' = true → wayB (tdM M k) sn a' b' = true → hb y b' = true) → P3 y (nI b) := by
                  intro m
                  induction m using Nat.strongRecOn with
                  | ind m ihb =>
                    intro b y hmb hble y1 y2 y3 y5 y4
                    apply hP3
                    refine hu b (by omega) (fun h7 v ev => ?_) (fun h7 => ?_)
                    · rw [ev, nI_1]
                      exact iha (n - (a + 1)) (by omega) (a + 1) y rfl (by omega) y1 y2 y3 y5 (fun a' b' ha' hb' => y4 a' b' (by omega) hb')
                    · have nx : ∀ z : Int32, (∀ k, k < 32 → hb s0 k = true → hb z k = true) → (∀ k, k < 32 → hb z k = true → k < n) → (∀ C : Nat → Bool, C f = true → (∀ a b, a < n → b < n → C a = true → wayB (tdM M k) sn a b = true → C b = true) → ∀ h, h < n → hb z h = true → C h = true) → (∀ h, h < n → hb z h = true → sn h < tdM M k 5) → (∀ a' b', a' < a ∨ (a' = a ∧ b' < b + 1) → b' < n → hb s0 a' = true → wayB (tdM M k) sn a' b' = true → hb z b' = true) → ∀ w : Int32, y ||| w = z → q_m_reach_92 P P2 P3 (M 5) (nI k) (tdM M k 0) at_ sn (nI s) (nI r) (nI a) (nI b) y w post := by
                        intro z z1 z2 z3 z5 z4 w hw v ev v2 ev2
                        rw [ev, ev2, hw, nI_1]
                        exact ihb (n - (b + 1)) (by omega) (b + 1) z rfl (by omega) z1 z2 z3 z5 z4
                      have stay : (hb s0 a = true → wayB (tdM M k) sn a b = true → hb y b = true) → q_m_reach_92 P P2 P3 (M 5) (nI k) (tdM M k 0) at_ sn (nI s) (nI r) (nI a) (nI b) y 0 post := fun hq => nx y y1 y2 y3 y5 (fun a' b' hab hb' hsa hE => by
                        by_cases e : a' = a ∧ b' = b
                        · obtain ⟨ea, eb⟩ := e
                          subst ea eb
                          exact hq hsa hE
                        · exact y4 a' b' (by omega) hb' hsa hE) 0 (or_0 y)
                      refine e_hasM (by omega) (fun hh0 => iz (stay (fun hsa _ => ?_))) (fun hh1 => oi ?_)
                      · rw [y1 a (by omega) hsa] at hh0
                        exact absurd hh0 (by decide)
                      · refine e_of (i := 51 + 9 * a + b) hk (by omega) (ix9 a b) ⟨fun hle => stay (fun _ hE => ?_), fun hlt => e_cutM hk (by omega) (fun hcb => zi ?_) (fun hcb => io (stay (fun _ hE => ?_)))⟩
                        · unfold wayB at hE
                          simp only [Bool.and_eq_true, decide_eq_true_eq] at hE
                          exact absurd hle (Int32.not_le.mpr hE.1.1)
                        · have hE : wayB (tdM M k) sn a b = true := by
                            unfold wayB
                            rw [decide_eq_true (Int32.not_le.mp hlt), decide_eq_true (y5 a h8 hh1), decide_eq_true hcb]
                            rfl
                          have hz : ∀ k, k < 32 → hb (y ||| bitI b) k = (hb y k || decide (b = k)) := fun k hk => by rw [hb_or, hb_b32 (by omega) hk]
                          refine nx (y ||| bitI b) (fun k hk h => by rw [hz k hk, y1 k hk h]; rfl) (fun k hk h => ?_) (fun C c1 c2 h hh hs => ?_) (fun h hh hs => ?_) (fun a' b' hab hb' hsa hE' => ?_) _ rfl
                          · rw [hz k hk, Bool.or_eq_true] at h
                            rcases h with h | h
                            · exact y2 k hk h
                            · have := of_decide_eq_true h
                              omega
                          · rw [hz h (by omega), Bool.or_eq_true] at hs
                            rcases hs with hs | hs
                            · exact y3 C c1 c2 h hh hs
                            · rw [← of_decide_eq_true hs]
                              exact c2 a b h8 h7 (y3 C c1 c2 a h8 hh1) hE
                          · rw [hz h (by omega), Bool.or_eq_true] at hs
                            rcases hs with hs | hs
                            · exact y5 h hh hs
                            · rw [← of_decide_eq_true hs]
                              exact hcb
                          · rw [hz b' (by omega)]
                            by_cases e : b' = b
                            · rw [e, decide_eq_true rfl, Bool.or_true]
                            · rw [y4 a' b' (by omega) hb' hsa hE']; rfl
                        · unfold wayB at hE
                          simp only [Bool.and_eq_true, decide_eq_true_eq] at hE
                          exact absurd hE.2 hcb
                exact loopb _ 0 x rfl (by omega) x1 x2 x3 x5 (fun a' b' hab hb' hsa hE => x4 a' b' (by omega) hb' hsa hE)
          exact loopa _ 0 s0 rfl (by omega) (fun _ _ h => h) s2 s3 s5 (fun a' b ha' => absurd ha' (Nat.not_lt_zero a'))
    refine loop _ 0 v1 rfl (by omega) i1 i2 i3 (fun h hh hs => ?_) (Or.inl ?_)
    · rw [e1', hbf h (by omega)] at hs
      rw [← of_decide_eq_true hs]
      exact hcf
    · have g := cnt_lt (p := fun _ => false) (q := hb v1) 9 (fun _ _ h => absurd h (by decide)) ⟨f, by omega, i1, rfl⟩
      omega
  · apply hP
    refine pk_le 9 0 (fun h9 => absurd h9 (by omega)) (fun h9 => ⟨hin, ?_⟩)
    rw [nI_clamp (by omega), ha]
    refine e_cutM hk (by omega) (fun h => absurd h hcf) (fun _ => io (dn v1 i1 i2 i3 (fun a b ha1 hb1 hsa hE => ?_)))
    rw [e1', hbf a (by omega)] at hsa
    unfold wayB at hE
    simp only [Bool.and_eq_true, decide_eq_true_eq] at hE
    rw [← of_decide_eq_true hsa] at hE
    exact absurd hE.1.2 hcf
