/-- the first take that wins, as a table of verses and steps -/
def tk_f (less : Nat → Int32) (s : Nat) : Nat → Nat → Int32
  | 0, _ => -1
  | n + 1, k => if k ≤ s ∧ less (s - k) = -1 then 10 + nI k else tk_f less s n (k + 1)
def tk_b (C v : Nat) (less : Nat → Int32) (s : Nat) : Int32 := if v = 0 then -1 else tk_f less s C 1
def tk_row (C v : Nat) (less : Nat → Int32) : Nat → Int32
  | 0 => tk_b C v less 0
  | 1 => tk_b C v less 1
  | s + 2 => if tk_row C v less s = -1 then 2 else tk_b C v less (s + 2)
def tk (C : Nat) : Nat → Nat → Int32
  | 0 => tk_row C 0 (fun _ => 0)
  | v + 1 => tk_row C (v + 1) (tk C v)
def tk_p (C : Nat) : Nat → Nat → Int32
  | 0 => fun _ => 0
  | v + 1 => tk C v
theorem tk_out (less : Nat → Int32) (s : Nat) : ∀ (n k : Nat), s < k → tk_f less s n k = -1
  | 0, _, _ => rfl
  | n + 1, k, h => by
    unfold tk_f
    rw [if_neg (fun h2 => by omega)]
    exact tk_out less s n (k + 1) (by omega)
theorem tk_row_eq (C v : Nat) (less : Nat → Int32) (s : Nat) : tk_row C v less s = if 2 ≤ s ∧ tk_row C v less (s - 2) = -1 then 2 else tk_b C v less s := by
  match s with
  | 0 => rw [if_neg (fun h => by omega)]; rfl
  | 1 => rw [if_neg (fun h => by omega)]; rfl
  | s + 2 =>
    show (if tk_row C v less s = -1 then 2 else tk_b C v less (s + 2)) = _
    have e : s + 2 - 2 = s := by omega
    rw [e]
    by_cases h : tk_row C v less s = -1
    · rw [if_pos h, if_pos ⟨by omega, h⟩]
    · rw [if_neg h, if_neg (fun h2 => h h2.2)]
theorem tk_is (C v s : Nat) : tk C v s = tk_row C v (tk_p C v) s := by
  cases v <;> rfl
theorem tk_two {C v s : Nat} (h : 2 ≤ s) (h2 : tk C v (s - 2) = -1) : tk C v s = 2 := by
  rw [tk_is, tk_row_eq, ← tk_is, if_pos ⟨h, h2⟩]
theorem tk_one {C v s : Nat} (h : ¬ (2 ≤ s ∧ tk C v (s - 2) = -1)) : tk C v s = tk_b C v (tk_p C v) s := by
  rw [tk_is, tk_row_eq, ← tk_is, if_neg h]
theorem tk_zero {C s : Nat} (h : ¬ (2 ≤ s ∧ tk C 0 (s - 2) = -1)) : tk C 0 s = -1 := by
  rw [tk_one h]; rfl
theorem tk_succ {C v s : Nat} (h : ¬ (2 ≤ s ∧ tk C (v + 1) (s - 2) = -1)) : tk C (v + 1) s = tk_f (tk C v) s C 1 := by
  rw [tk_one h]
  show (if v + 1 = 0 then -1 else tk_f (tk C v) s C 1) = _
  rw [if_neg (by omega)]
/-- the class's own search -/
theorem sp_xloop {C w s : Nat} {less full : Nat → Int32} {post : Int32 → Prop} (hC : C ≤ 9) (hv : w + 1 ≤ 60) (hs : s ≤ 60) (hl : ∀ j, j < s → less j = tk C w j) (h : post (tk_f (tk C w) s C 1)) : q_wb_X8_firstTake_22 less full (nI (w + 1)) (nI s) (nI C) 1 post := by
  intro P hP
  have loop : ∀ (n k : Nat), n + k = C + 1 → 1 ≤ k → post (tk_f (tk C w) s n k) → P (nI k) := by
    intro n
    induction n with
    | zero =>
      intro k hk h1 hp
      apply hP
      refine ⟨fun h => absurd h (nI_nle (by omega) (by omega)), fun _ => ⟨fun _ => hp, fun h => absurd (nI_lt (by omega) (by omega)) h⟩⟩
    | succ n ih =>
      intro k hk h1 hp
      apply hP
      refine ⟨fun h => absurd h (nI_nle (by omega) (by omega)), fun _ => ⟨fun h => absurd h (nI_nlt (by omega) (by omega)), fun _ => ?_⟩⟩
      by_cases hks : s < k
      · rw [tk_out _ _ _ _ hks] at hp
        exact ⟨fun _ => hp, fun h => absurd (nI_lt hks (by omega)) h⟩
      · refine ⟨fun h => absurd h (nI_nlt (by omega) (by omega)), fun _ => ?_⟩
        rw [pk_sub (by omega)]
        refine ⟨vp_in_nI (by omega) (by omega), ?_⟩
        rw [nI_clamp (by omega), hl (s - k) (by omega)]
        unfold tk_f at hp
        refine ⟨fun hne v1 e1 => ?_, fun heq => ?_⟩
        · rw [if_neg (fun h2 => hne h2.2)] at hp
          rw [e1, nI_1]
          exact ih (k + 1) (by omega) (by omega) hp
        · rw [if_pos ⟨by omega, heq⟩] at hp
          exact hp
  exact loop C 1 (by omega) (by omega) h
theorem sp_xft {C v s : Nat} {less full : Nat → Int32} {post : Int32 → Prop} (hC : C ≤ 9) (hv : v ≤ 60) (hs : s ≤ 60) (hf : ∀ j, j < s → full j = tk C v j) (hl : ∀ w, v = w + 1 → ∀ j, j < s → less j = tk C w j) (h : post (tk C v s)) : q_wb_X8_firstTake_0 less full (nI v) (nI s) (nI C) post := by
  have key : ¬ (2 ≤ s ∧ tk C v (s - 2) = -1) → q_wb_X8_firstTake_19 less full (nI v) (nI s) (nI C) post := by
    intro hn
    cases v with
    | zero =>
      intro P hP
      apply hP
      rw [tk_zero hn] at h
      exact ⟨fun _ => h, fun h2 => absurd (by decide) h2⟩
    | succ w =>
      rw [tk_succ hn] at h
      exact sp_xloop hC hv hs (hl w rfl) h
  have e2 : (2 : Int32) = nI 2 := rfl
  refine ⟨fun h2 => key (fun h3 => absurd h2 ?_), fun h2 => ?_⟩
  · rw [e2]; exact nI_nlt (by omega) (by omega)
  · have h3 : 2 ≤ s := by
      refine Nat.le_of_not_lt (fun h4 => h2 ?_)
      rw [e2]; exact nI_lt h4 (by omega)
    rw [e2, pk_sub h3]
    refine ⟨vp_in_nI (by omega) (by omega), ?_⟩
    rw [nI_clamp (by omega), hf (s - 2) (by omega)]
    refine ⟨fun h4 => key (fun h5 => h4 h5.2), fun h4 => ?_⟩
    rw [tk_two h3 h4] at h
    exact h
/-- the class's table -/
theorem sp_xlay {C A B : Nat} {less full : Nat → Int32} {post : (Nat → Int32) → (Nat → Int32) → Prop} (hC : C ≤ 9) (hA : A ≤ 60) (hB : B ≤ 60) (h : ∀ less full, (∀ j, j ≤ B → full j = tk C A j) → (∀ w, A = w + 1 → ∀ j, j ≤ B → less j = tk C w j) → post less full) : q_wb_X8_lay_0 less full (nI A) (nI B) (nI C) post := by
  intro P hP
  have loop : ∀ (n v : Nat) (less full : Nat → Int32), n + v = A + 1 → (∀ u, v = u + 1 → (∀ j, j ≤ B → full j = tk C u j) ∧ ∀ w, u = w + 1 → ∀ j, j ≤ B → less j = tk C w j) → P (nI v) less full := by
    intro n
    induction n with
    | zero =>
      intro v less full hn hi
      apply hP
      have h1 := hi A (by omega)
      exact ⟨fun _ => h less full h1.1 h1.2, fun h2 => absurd (nI_lt (by omega) (by omega)) h2⟩
    | succ n ih =>
      intro v less full hn hi
      apply hP
      refine ⟨fun h2 => absurd h2 (nI_nlt (by omega) (by omega)), fun _ => ?_⟩
      rw [nI_1, nI_clamp (by omega)]
      refine ⟨nI_pos (by omega), by show 0 + (B + 1) ≤ 61; omega, by show 0 + (B + 1) ≤ 61; omega, ?_⟩
      intro less1 e1 P2 hP2
      have hl1 : ∀ w, v = w + 1 → ∀ j, j ≤ B → less1 j = tk C w j := by
        intro w hw j hj
        rw [e1]
        show (if 0 ≤ j ∧ j < 0 + (B + 1) then full (0 + (j - 0)) else less j) = _
        rw [if_pos ⟨by omega, by omega⟩]
        have e : 0 + (j - 0) = j := by omega
        rw [e]
        exact (hi w hw).1 j hj
      have loop2 : ∀ (n s : Nat) (full : Nat → Int32), n + s = B + 1 → (∀ j, j < s → full j = tk C v j) → P2 (nI s) full := by
        intro n
        induction n with
        | zero =>
          intro s full hs hf
          apply hP2
          refine ⟨fun _ v1 ev => ?_, fun h2 => absurd (nI_lt (by omega) (by omega)) h2⟩
          rw [ev, nI_1]
          refine ih (v + 1) less1 full (by omega) (fun u hu => ⟨fun j hj => ?_, fun w hw j hj => hl1 w (by omega) j hj⟩)
          have : u = v := by omega
          subst this
          exact hf j (by omega)
        | succ n ih2 =>
          intro s full hs hf
          apply hP2
          refine ⟨fun h2 => absurd h2 (nI_nlt (by omega) (by omega)), fun _ => ?_⟩
          refine sp_xft hC (by omega) (by omega) hf (fun w hw j hj => hl1 w hw j (by omega)) ?_
          refine ⟨vp_in_nI (by omega) (by omega), ?_⟩
          intro full1 ef v2 ev
          rw [ev, nI_1]
          refine ih2 (s + 1) full1 (by omega) (fun j hj => ?_)
          rw [ef, nI_clamp (by omega)]
          unfold upd
          by_cases hjs : j = s
          · rw [if_pos hjs, hjs]
          · rw [if_neg hjs]
            exact hf j (by omega)
      exact loop2 (B + 1) 0 full (by omega) (fun j hj => absurd hj (by omega))
  exact loop (A + 1) 0 less full (by omega) (fun u hu => absurd hu (by omega))
/-- the reference's search -/
theorem sp_won {x y : Nat} {w : Nat → Int32} {post : Int32 → Prop} (hx : x ≤ 60) (hy : y ≤ 60) (h0 : w (61 * x + y) = 0 → post 0) (h1 : ¬ w (61 * x + y) = 0 → post 1) : q_m_won_0 w (nI x) (nI y) post := by
  refine ⟨fun h => absurd h (nI_pos (by omega)), fun _ => ⟨fun h => absurd h (nI_pos (by omega)), fun _ => ?_⟩⟩
  have e : (61 : Int32) = nI 61 := rfl
  rw [e, pk_mul, nI_add]
  refine ⟨vp_in_nI (by omega) (by omega), ?_⟩
  rw [nI_clamp (by omega)]
  exact ⟨h0, h1⟩
theorem sp_good {x y vs st : Nat} {w : Nat → Int32} {post : Int32 → Prop} (hx : x ≤ 60) (hy : y ≤ 60) (hv : vs ≤ 9) (hs : st ≤ 60) (h1 : vs ≤ x → st ≤ y → w (61 * (x - vs) + (y - st)) = 0 → post 1) (h0 : ¬ (vs ≤ x ∧ st ≤ y ∧ w (61 * (x - vs) + (y - st)) = 0) → post 0) : q_m_isGood_0 w (nI x) (nI y) (nI vs) (nI st) post := by
  refine ⟨fun h => h0 (fun h2 => absurd h (nI_nlt h2.1 (by omega))), fun h => ⟨fun h2 => h0 (fun h3 => absurd h2 (nI_nlt h3.2.1 (by omega))), fun h2 => ?_⟩⟩
  have a1 : vs ≤ x := Nat.le_of_not_lt (fun h3 => h (nI_lt h3 (by omega)))
  have a2 : st ≤ y := Nat.le_of_not_lt (fun h3 => h2 (nI_lt h3 (by omega)))
  rw [pk_sub a1, pk_sub a2]
  exact sp_won (by omega) (by omega) (fun e => zi (h1 a1 a2 e)) (fun e => io (h0 (fun h3 => e h3.2.2)))
theorem sp_mloop {C v s : Nat} {w : Nat → Int32} {post : Int32 → Prop} (hC : C ≤ 9) (hv : v ≤ 60) (hs : s ≤ 60) (h2 : ∀ u, v = u + 1 → ∀ j, j < s → w (61 * u + j) = if tk C u j = -1 then 0 else 1) (h : post (tk_b C v (tk_p C v) s)) : q_m_firstTake_16 w (nI v) (nI s) (nI C) 1 post := by
  intro P hP
  have e1 : (1 : Int32) = nI 1 := rfl
  have bad : ∀ (n k : Nat), n + k = C + 1 → 1 ≤ k → post (if v = 0 then -1 else tk_f (tk_p C v) s n k) → P (nI k) := by
    intro n
    induction n with
    | zero =>
      intro k hk h1 hp
      apply hP
      refine ⟨fun _ => ?_, fun h3 => absurd (nI_lt (by omega) (by omega)) h3⟩
      by_cases hv0 : v = 0
      · rw [if_pos hv0] at hp; exact hp
      · rw [if_neg hv0] at hp; exact hp
    | succ n ih =>
      intro k hk h1 hp
      apply hP
      refine ⟨fun h3 => absurd h3 (nI_nlt (by omega) (by omega)), fun _ => ?_⟩
      rw [e1]
      refine sp_good hv hs (by omega) (by omega) (fun a1 a2 a3 => oi ?_) (fun hn => iz (fun v1 ev => ?_))
      · obtain ⟨u, rfl⟩ : ∃ u, v = u + 1 := ⟨v - 1, by omega⟩
        rw [if_neg (by omega)] at hp
        have e3 : u + 1 - 1 = u := by omega
        rw [e3, h2 u rfl (s - k) (by omega)] at a3
        have a4 : tk C u (s - k) = -1 := by
          by_cases h5 : tk C u (s - k) = -1
          · exact h5
          · rw [if_neg h5] at a3; exact absurd a3 (by decide)
        unfold tk_f at hp
        have a5 : k ≤ s ∧ tk_p C (u + 1) (s - k) = -1 := ⟨a2, a4⟩
        rw [if_pos a5] at hp
        exact hp
      · rw [ev]
        show P (nI k + 1)
        rw [nI_1]
        refine ih (k + 1) (by omega) (by omega) ?_
        by_cases hv0 : v = 0
        · rw [if_pos hv0] at hp ⊢; exact hp
        · rw [if_neg hv0] at hp ⊢
          unfold tk_f at hp
          rw [if_neg] at hp
          · exact hp
          · intro h5
            obtain ⟨u, rfl⟩ : ∃ u, v = u + 1 := ⟨v - 1, by omega⟩
            refine hn ⟨by omega, h5.1, ?_⟩
            have e3 : u + 1 - 1 = u := by omega
            rw [e3, h2 u rfl (s - k) (by omega)]
            have h6 : tk C u (s - k) = -1 := h5.2
            rw [if_pos h6]
  exact bad C 1 (by omega) (by omega) h
theorem sp_mft {C v s : Nat} {w : Nat → Int32} {post : Int32 → Prop} (hC : C ≤ 9) (hv : v ≤ 60) (hs : s ≤ 60) (h1 : ∀ j, j < s → w (61 * v + j) = if tk C v j = -1 then 0 else 1) (h2 : ∀ u, v = u + 1 → ∀ j, j < s → w (61 * u + j) = if tk C u j = -1 then 0 else 1) (h : post (tk C v s)) : q_m_firstTake_0 w (nI v) (nI s) (nI C) post := by
  refine sp_good (vs := 0) (st := 2) hv hs (by omega) (by omega) (fun _ a2 a3 => oi ?_) (fun hn => iz ?_)
  · rw [Nat.sub_zero, h1 (s - 2) (by omega)] at a3
    have a4 : tk C v (s - 2) = -1 := by
      by_cases h5 : tk C v (s - 2) = -1
      · exact h5
      · rw [if_neg h5] at a3; exact absurd a3 (by decide)
    rw [tk_two a2 a4] at h
    exact h
  · refine sp_mloop hC hv hs h2 ?_
    rw [tk_one] at h
    · exact h
    · intro h5
      refine hn ⟨by omega, h5.1, ?_⟩
      rw [Nat.sub_zero, h1 (s - 2) (by omega), if_pos h5.2]
/-- the reference's table, and its answer -/
theorem sp_mtrade2 {C A B : Nat} {p4 : Int32} {w : Nat → Int32} {post : Int32 → Int32 → (Nat → Int32) → Prop} (hC : C ≤ 9) (hA : A ≤ 60) (hB : B ≤ 60) (h0 : p4 = 0 → ∀ w, post (if tk C A B = -1 then 0 else 1) 0 w) (h1 : ¬ p4 = 0 → ∀ w, post (tk C A B) 0 w) : q_m_trade_41 0 w (nI A) (nI B) (nI C) p4 0 post := by
  intro P hP
  have e61 : (61 : Int32) = nI 61 := rfl
  have nb0 : vp_nar .boolean 0 = 0 := rfl
  have nb1 : vp_nar .boolean 1 = 1 := rfl
  have loop : ∀ (n v : Nat) (w : Nat → Int32), n + v = A + 1 → (∀ x y, x < v → y ≤ B → w (61 * x + y) = if tk C x y = -1 then 0 else 1) → P (nI v) w := by
    intro n
    induction n with
    | zero =>
      intro v w hn hi
      apply hP
      refine ⟨fun _ => ⟨fun hp => ?_, fun hp => ?_⟩, fun h2 => absurd (nI_lt (by omega) (by omega)) h2⟩
      · rw [e61, pk_mul, nI_add]
        refine ⟨vp_in_nI (by omega) (by omega), ?_⟩
        rw [nI_clamp (by omega), hi A B (by omega) (by omega)]
        have h3 := h0 hp
        by_cases ht : tk C A B = -1
        · rw [if_pos ht] at h3 ⊢
          exact iz (h3 _)
        · rw [if_neg ht] at h3 ⊢
          exact oi (h3 _)
      · exact sp_mft hC hA hB (fun j hj => hi A j (by omega) (by omega)) (fun u hu j hj => hi u j (by omega) (by omega)) (h1 hp _)
    | succ n ih =>
      intro v w hn hi
      apply hP
      refine ⟨fun h2 => absurd h2 (nI_nlt (by omega) (by omega)), fun _ => ?_⟩
      intro P2 hP2
      have loop2 : ∀ (n s : Nat) (w : Nat → Int32), n + s = B + 1 → (∀ x y, x < v ∧ y ≤ B ∨ x = v ∧ y < s → w (61 * x + y) = if tk C x y = -1 then 0 else 1) → P2 (nI s) w := by
        intro n
        induction n with
        | zero =>
          intro s w hs hi
          apply hP2
          refine ⟨fun _ v1 ev => ?_, fun h2 => absurd (nI_lt (by omega) (by omega)) h2⟩
          rw [ev, nI_1]
          exact ih (v + 1) w (by omega) (fun x y hx hy => hi x y (by omega))
        | succ n ih2 =>
          intro s w hs hi
          apply hP2
          refine ⟨fun h2 => absurd h2 (nI_nlt (by omega) (by omega)), fun _ => ?_⟩
          refine sp_mft hC (by omega) (by omega) (fun j hj => hi v j (by omega)) (fun u hu j hj => hi u j (by omega)) ?_
          rw [e61, pk_mul, nI_add]
          have go : ∀ b : Int32, vp_nar .boolean b = (if tk C v s = -1 then 0 else 1) → q_m_trade_86 P P2 0 w (nI A) (nI B) (nI C) p4 (nI v) (nI s) (nI (61 * v + s)) b post := by
            intro b hb
            refine ⟨vp_in_nI (by omega) (by omega), ?_⟩
            intro w1 ew v1 ev
            rw [ev, nI_1]
            refine ih2 (s + 1) w1 (by omega) (fun x y hxy => ?_)
            rw [ew, nI_clamp (by omega)]
            unfold upd
            by_cases he : 61 * x + y = 61 * v + s
            · rw [if_pos he, hb]
              have ex : x = v := by omega
              have ey : y = s := by omega
              rw [ex, ey]
            · rw [if_neg he]
              exact hi x y (by omega)
          exact ⟨fun ht => go 0 (by rw [if_pos ht]; exact nb0), fun ht => go 1 (by rw [if_neg ht]; exact nb1)⟩
      exact loop2 (B + 1) 0 w (by omega) (fun x y hxy => hi x y (by omega) (by omega))
  exact loop (A + 1) 0 w (by omega) (fun x y hx hy => absurd hx (by omega))
theorem sp_mbad {p1 p2 p3 p4 : Int32} {w : Nat → Int32} {post : Int32 → Int32 → (Nat → Int32) → Prop} (h : post (-2) 0 w) (hb : ¬ ((0 ≤ p1 ∧ p1 ≤ 60) ∧ (0 ≤ p2 ∧ p2 ≤ 60) ∧ 1 ≤ p3 ∧ p3 ≤ 9)) : q_m_trade_0 0 w p1 p2 p3 p4 post :=
  sp_in (fun _ => iz h) (fun a1 a2 => oi (sp_in (fun _ => iz h) (fun b1 b2 => oi (sp_in (fun _ => zi h) (fun c1 c2 => absurd ⟨⟨a1, a2⟩, ⟨b1, b2⟩, c1, c2⟩ hb)))))
def tT (p1 p2 p3 p4 : Int32) : Int32 := if (0 ≤ p1 ∧ p1 ≤ 60) ∧ (0 ≤ p2 ∧ p2 ≤ 60) ∧ 1 ≤ p3 ∧ p3 ≤ 9 then (if p4 = 0 then (if tk p3.toNatClampNeg p1.toNatClampNeg p2.toNatClampNeg = -1 then 0 else 1) else tk p3.toNatClampNeg p1.toNatClampNeg p2.toNatClampNeg) else -2
theorem tT_bad {p1 p2 p3 p4 : Int32} (h : ¬ ((0 ≤ p1 ∧ p1 ≤ 60) ∧ (0 ≤ p2 ∧ p2 ≤ 60) ∧ 1 ≤ p3 ∧ p3 ≤ 9)) : tT p1 p2 p3 p4 = -2 := if_neg h
theorem tT_good {A B C : Nat} {p4 : Int32} (hA : A ≤ 60) (hB : B ≤ 60) (hC : C ≤ 9) (h : (0 ≤ nI A ∧ nI A ≤ 60) ∧ (0 ≤ nI B ∧ nI B ≤ 60) ∧ 1 ≤ nI C ∧ nI C ≤ 9) : tT (nI A) (nI B) (nI C) p4 = if p4 = 0 then (if tk C A B = -1 then 0 else 1) else tk C A B := by
  unfold tT
  rw [if_pos h, nI_clamp (by omega), nI_clamp (by omega), nI_clamp (by omega)]
theorem tX {less full : Nat → Int32} {p1 p2 p3 p4 : Int32} {post : Int32 → (Nat → Int32) → (Nat → Int32) → Prop} (hp : ∀ less full, post (tT p1 p2 p3 p4) less full) : q_wx_X10_trade_0 less full p1 p2 p3 p4 post := by
  have bad : ¬ ((0 ≤ p1 ∧ p1 ≤ 60) ∧ (0 ≤ p2 ∧ p2 ≤ 60) ∧ 1 ≤ p3 ∧ p3 ≤ 9) → post (-2) less full := fun hb => by
    have := hp less full
    rw [tT_bad hb] at this
    exact this
  refine ⟨fun h => bad (fun h2 => absurd h (Int32.not_lt.mpr h2.1.1)), fun h1 => ⟨fun h => bad (fun h2 => absurd h (Int32.not_lt.mpr h2.1.2)), fun h2 => ⟨fun h => bad (fun h2 => absurd h (Int32.not_lt.mpr h2.2.1.1)), fun h3 => ⟨fun h => bad (fun h2 => absurd h (Int32.not_lt.mpr h2.2.1.2)), fun h4 => ⟨fun h => bad (fun h2 => absurd h (Int32.not_lt.mpr h2.2.2.1)), fun h5 => ⟨fun h6 => ?_, fun h => bad (fun h2 => absurd h2.2.2.2 h)⟩⟩⟩⟩⟩⟩
  have h7 : ¬ p3 < 0 := fun h => h5 (by
    rw [Int32.lt_iff_toInt_lt] at h ⊢
    have a0 : (0 : Int32).toInt = 0 := rfl
    have a1 : (1 : Int32).toInt = 1 := rfl
    omega)
  have good : (0 ≤ p1 ∧ p1 ≤ 60) ∧ (0 ≤ p2 ∧ p2 ≤ 60) ∧ 1 ≤ p3 ∧ p3 ≤ 9 := ⟨⟨Int32.not_lt.mp h1, Int32.not_lt.mp h2⟩, ⟨Int32.not_lt.mp h3, Int32.not_lt.mp h4⟩, Int32.not_lt.mp h5, h6⟩
  obtain ⟨A, hA, rfl⟩ := nI_of2 (M := 60) (n := 60) (by decide) h1 (Int32.not_lt.mp h2)
  obtain ⟨B, hB, rfl⟩ := nI_of2 (M := 60) (n := 60) (by decide) h3 (Int32.not_lt.mp h4)
  obtain ⟨C, hC, rfl⟩ := nI_of2 (M := 9) (n := 9) (by decide) h7 h6
  have e := tT_good (p4 := p4) hA hB hC good
  refine sp_xlay hC hA hB (fun less full hf hl => ?_)
  refine sp_xft hC hA hB (fun j hj => hf j (by omega)) (fun w hw j hj => hl w hw j (by omega)) ?_
  have hp2 := hp less full
  rw [e] at hp2
  refine ⟨fun h0 => ?_, fun h0 => ?_⟩
  · rw [if_pos h0] at hp2
    exact ⟨fun ht => by rw [if_neg ht] at hp2; exact hp2, fun ht => by rw [if_pos ht] at hp2; exact hp2⟩
  · rw [if_neg h0] at hp2; exact hp2
theorem tM {c0 : Int32} {w : Nat → Int32} {p1 p2 p3 p4 : Int32} {post : Int32 → Int32 → (Nat → Int32) → Prop} (hp : ∀ c w, iv 0 0 c → post (tT p1 p2 p3 p4) c w) : q_m_trade_0 c0 w p1 p2 p3 p4 post := by
  show q_m_trade_0 0 w p1 p2 p3 p4 post
  have hp : ∀ w, post (tT p1 p2 p3 p4) 0 w := fun w => hp 0 w (iv_lit (by decide))
  by_cases good : (0 ≤ p1 ∧ p1 ≤ 60) ∧ (0 ≤ p2 ∧ p2 ≤ 60) ∧ 1 ≤ p3 ∧ p3 ≤ 9
  rotate_left
  · exact sp_mbad (by have := hp w; rw [tT_bad good] at this; exact this) good
  have h1 : ¬ p1 < 0 := Int32.not_lt.mpr good.1.1
  have h3 : ¬ p2 < 0 := Int32.not_lt.mpr good.2.1.1
  have h7 : ¬ p3 < 0 := fun h => (Int32.not_lt.mpr good.2.2.1) (by
    rw [Int32.lt_iff_toInt_lt] at h ⊢
    have a0 : (0 : Int32).toInt = 0 := rfl
    have a1 : (1 : Int32).toInt = 1 := rfl
    omega)
  obtain ⟨A, hA, rfl⟩ := nI_of2 (M := 60) (n := 60) (by decide) h1 good.1.2
  obtain ⟨B, hB, rfl⟩ := nI_of2 (M := 60) (n := 60) (by decide) h3 good.2.1.2
  obtain ⟨C, hC, rfl⟩ := nI_of2 (M := 9) (n := 9) (by decide) h7 good.2.2.2
  have e := tT_good (p4 := p4) hA hB hC good
  rw [e] at hp
  refine sp_in (fun h => absurd good.1 h) (fun _ _ => oi ?_)
  refine sp_in (fun h => absurd good.2.1 h) (fun _ _ => oi ?_)
  refine sp_in (fun h => absurd good.2.2 h) (fun _ _ => io ?_)
  exact sp_mtrade2 hC hA hB (fun h w => by have := hp w; rw [if_pos h] at this; exact this) (fun h w => by have := hp w; rw [if_neg h] at this; exact this)
