theorem rg0 : ∀ o, o < 4 → ∀ j, j < 132 → rlo o j ≤ 0 ∧ 0 ≤ rhi o j := by decide +kernel
theorem PI0 {o : Nat} {told : Nat → Int32} (ho : o ≤ 3) (h : ∀ j, j < 132 → told j = 0) : PI o 0 told := by
  have z0 : (0 : Int32).toInt = 0 := rfl
  have q : ∀ j, j < 132 → iv (rlo o j) (rhi o j) (told j) := by
    intro j hj
    rw [h j hj]
    have := rg0 o (by omega) j hj
    exact ⟨by rw [z0]; exact this.1, by rw [z0]; exact this.2⟩
  refine ⟨?_, fun _ => ⟨by rw [h 1 (by omega)]; exact iv_lit (by decide), by rw [h 4 (by omega)]; exact iv_lit (by decide)⟩, fun _ => q⟩
  rw [h 0 (by omega)]
  exact ⟨by rw [z0]; exact Int.le_refl 0, by rw [z0]; exact (rg0 o (by omega) 0 (by omega)).2⟩
/-- a row that is taken over -/
def okRow (o : Nat) (told : Nat → Int32) : Prop := (∀ j, j < 132 → iv (rlo o j) (rhi o j) (told j)) ∧ (o = 0 → ¬ told 1 = 0 → ¬ told 0 = 0)
theorem sp_readTextT {tp fa fp told rd : Nat → Int32} {re be so va wr lf lp fh fs gd : Int32} {wd : Int64} {n o : Nat} {post : Int32 → (Nat → Int32) → (Nat → Int32) → Int32 → Int32 → Int32 → Int32 → Int64 → Int32 → Int32 → Int32 → (Nat → Int32) → (Nat → Int32) → Int32 → Int32 → Int32 → Prop} (ho : o ≤ 3) (hn : n ≤ 600)
    (h0 : ∀ fa fp re be so va wd wr lf lp told rd fh fs gd, post 0 fa fp re be so va wd wr lf lp told rd fh fs gd)
    (h1 : ∀ fa fp re be so va wd wr lf lp told rd fh fs gd, okRow o told → post 1 fa fp re be so va wd wr lf lp told rd fh fs gd) : q_m_readText_0 tp fa fp re (nI n) be so va wd wr lf lp told rd fh fs gd (nI o) post := by
  have hne : ∀ h : ¬ o = 0, ¬ nI o = 0 := fun h => nI_ne0 (by omega) (by omega)
  intro P hP
  have k0 : ∀ (re be so va : Int32) (wd : Int64) (wr lf lp : Int32) (told rd : Nat → Int32) (fh fs gd : Int32), q_m_readText_121 tp fa fp re (nI n) be so va wd wr lf lp told rd fh fs gd 0 post := by
    intro re be so va wd wr lf lp told rd fh fs gd
    refine iz ⟨by unfold vp_in; decide, fun fa1 e1 => zi ⟨by unfold vp_in; decide, fun fp1 _ => ⟨fun _ => h0 _ _ _ _ _ _ _ _ _ _ _ _ _ _ _, fun h => ?_⟩⟩⟩
    rw [e1, up_s] at h
    exact absurd h (by decide)
  have k1 : ∀ (re be so va : Int32) (wd : Int64) (wr lf lp : Int32) (told rd : Nat → Int32) (fh fs gd : Int32), (lf = 0 → okRow o told) → q_m_readText_121 tp fa fp re (nI n) be so va wd wr lf lp told rd fh fs gd 1 post := by
    intro re be so va wd wr lf lp told rd fh fs gd hok
    have k170 : ∀ (fa1 : Nat → Int32) (y : Int32), fa1 0 = lf → q_m_readText_170 tp fa1 fp re (nI n) be so va wd wr lf lp told rd fh fs gd 0 y post := by
      intro fa1 y e1
      refine ⟨by unfold vp_in; decide, fun fp1 _ => ⟨fun _ => h0 _ _ _ _ _ _ _ _ _ _ _ _ _ _ _, fun h => h1 _ _ _ _ _ _ _ _ _ _ _ _ _ _ _ (hok ?_)⟩⟩
      rw [c_0, e1] at h
      exact h
    refine oi ⟨by unfold vp_in; decide, fun fa1 e1 => io ⟨fun _ => k170 fa1 _ ?_, fun _ => k170 fa1 _ ?_⟩⟩
    · rw [e1, c_0]; exact up_s
    · rw [e1, c_0]; exact up_s
  have fin_ : ∀ told : Nat → Int32, PI o 0 told → told 1 = 0 → q_m_readText_41 tp fa fp re (nI n) be so va wd wr lf lp told rd fh fs gd (nI o) post := by
    intro told hp h1z
    refine sp_tokenT (re := 0) hn ⟨0, by omega, rfl⟩ (fun r1 b1 s1 v1 w1 g1 _ => ?_)
    refine sp_linesT ho hn g1 ⟨hp, fun _ _ h => absurd h1z h⟩ (fun _ _ _ _ _ _ _ _ _ _ _ _ _ => iz (k0 _ _ _ _ _ _ _ _ _ _ _ _ _)) (fun re be so va wd wr lf lp told rd fh fs gd hL => oi ⟨fun hx => ?_, fun hx => ⟨fun hl => k1 _ _ _ _ _ _ _ _ _ _ _ _ _ (fun h => absurd h hl), fun hl => ?_⟩⟩)
    · refine k1 _ _ _ _ _ _ _ _ _ _ _ _ _ (fun h => ⟨hL.1.2.2 h, fun h9 => ?_⟩)
      subst h9
      exact absurd rfl hx
    · have ho0 : o = 0 := (nI_eq (b := 0) (by omega) (by omega)).mp hx
      subst ho0
      have k112 : q_m_readText_112 tp fa fp re (nI n) be so va wd wr lf lp told rd fh fs gd 1 post := sp_later (by decide) (fun l2 p2 h2 => k1 _ _ _ _ _ _ _ _ _ _ _ _ _ (fun h => absurd h h2))
      refine ⟨fun _ => k112, fun h3 => ⟨fun _ => ?_, fun _ => k112⟩⟩
      refine k1 _ _ _ _ _ _ _ _ _ _ _ _ _ (fun h => ⟨hL.1.2.2 h, fun _ h4 h5 => ?_⟩)
      have q1 := hL.2 rfl hl h4
      have q2 := r_nle h3
      rw [c_0, h5] at q2
      have e0 : (0 : Int32).toInt = 0 := rfl
      omega
  have loop : ∀ (m k : Nat) (told : Nat → Int32), m + k = 132 → (∀ j, j < k → told j = 0) → P (nI k) told := by
    intro m
    induction m with
    | zero =>
      intro k told hk ht
      apply hP
      have hz : ∀ j, j < 132 → told j = 0 := fun j hj => ht j (by omega)
      refine ⟨fun _ => ⟨fun _ => fin_ told (PI0 ho hz) (hz 1 (by omega)), fun hx t1 e1 t2 e2 => ?_⟩, fun h2 => absurd (nI_le (a := 132) (by omega) (by omega)) h2⟩
      have ho0 : o = 0 := (nI_eq (b := 0) (by omega) (by omega)).mp hx
      subst ho0
      have e5 : Int32.toNatClampNeg 5 = 5 := rfl
      have e6 : Int32.toNatClampNeg 6 = 6 := rfl
      rw [e5] at e1
      rw [e6] at e2
      subst e1 e2
      refine fin_ _ (PI_upd (PI_upd (PI0 ho hz) (fun h => ⟨h, iv_lit (by decide)⟩) (by omega) (fun _ => ⟨by omega, by omega⟩)) (fun h => ⟨h, iv_lit (by decide)⟩) (by omega) (fun _ => ⟨by omega, by omega⟩)) ?_
      rw [up_n (by omega), up_n (by omega)]
      exact hz 1 (by omega)
    | succ m ih =>
      intro k told hk ht
      apply hP
      refine ⟨fun h2 => absurd h2 (nI_ge (b := 132) (by omega) (by omega)), fun _ => ⟨vp_in_nI (by omega) (by omega), fun t1 e1 v1 e2 => ?_⟩⟩
      rw [e2, nI_1]
      rw [nI_clamp (by omega)] at e1
      refine ih (k + 1) t1 (by omega) (fun j hj => ?_)
      rw [e1]
      unfold upd
      split
      · rfl
      · exact ht j (by omega)
  exact loop 132 0 told rfl (fun j hj => absurd hj (by omega))
theorem sp_store6E {a told : Nat → Int32} {k : Nat} {post : (Nat → Int32) → Prop} (hk : k ≤ 1) (h : ∀ a', (∀ i, i < 132 → a' (132 * k + i) = told i) → (∀ j, j < 132 * k ∨ 132 * k + 132 ≤ j → a' j = a j) → post a') : q_m_store_6_0 a told 132 (nI k) post := by
  intro P hP
  have e0 : (132 : Int32) * nI k = nI (132 * k) := pk_mul 132 k
  have loop : ∀ (n i : Nat) (b : Nat → Int32), n + i = 132 → (∀ q, q < i → b (132 * k + q) = told q) → (∀ j, j < 132 * k ∨ 132 * k + 132 ≤ j → b j = a j) → P (nI i) b := by
    intro n
    induction n with
    | zero =>
      intro i b hi h1 h2
      apply hP
      exact ⟨fun _ => h b (fun q hq => h1 q (by omega)) h2, fun h9 => absurd (nI_le (a := 132) (by omega) (by omega)) h9⟩
    | succ n ih =>
      intro i b hi h1 h2
      apply hP
      refine ⟨fun h9 => absurd h9 (nI_ge (b := 132) (by omega) (by omega)), fun _ => ⟨vp_in_nI (by omega) (by omega), fun v1 e1 => ?_⟩⟩
      rw [e0, nI_add]
      refine ⟨vp_in_nI (by omega) (by omega), fun b1 e2 v2 e3 => ?_⟩
      rw [nI_clamp (by omega)] at e1 e2
      rw [e3, nI_1]
      subst e1 e2
      refine ih (i + 1) _ (by omega) (fun q hq => ?_) (fun j hj => ?_)
      · by_cases hqi : q = i
        · subst hqi; exact up_s
        · rw [up_n (by omega)]; exact h1 q (by omega)
      · rw [up_n (by omega)]; exact h2 j hj
  exact loop 132 0 a (by omega) (fun q hq => absurd hq (by omega)) (fun j _ => rfl)
theorem sp_store7E {a told : Nat → Int32} {k : Nat} {post : (Nat → Int32) → Prop} (hk : k ≤ 1) (h : ∀ a', (∀ i, i < 121 → a' (121 * k + i) = told i) → (∀ j, j < 121 * k ∨ 121 * k + 121 ≤ j → a' j = a j) → post a') : q_m_store_7_0 a told 121 (nI k) post := by
  intro P hP
  have e0 : (121 : Int32) * nI k = nI (121 * k) := pk_mul 121 k
  have loop : ∀ (n i : Nat) (b : Nat → Int32), n + i = 121 → (∀ q, q < i → b (121 * k + q) = told q) → (∀ j, j < 121 * k ∨ 121 * k + 121 ≤ j → b j = a j) → P (nI i) b := by
    intro n
    induction n with
    | zero =>
      intro i b hi h1 h2
      apply hP
      exact ⟨fun _ => h b (fun q hq => h1 q (by omega)) h2, fun h9 => absurd (nI_le (a := 121) (by omega) (by omega)) h9⟩
    | succ n ih =>
      intro i b hi h1 h2
      apply hP
      refine ⟨fun h9 => absurd h9 (nI_ge (b := 121) (by omega) (by omega)), fun _ => ⟨vp_in_nI (by omega) (by omega), fun v1 e1 => ?_⟩⟩
      rw [e0, nI_add]
      refine ⟨vp_in_nI (by omega) (by omega), fun b1 e2 v2 e3 => ?_⟩
      rw [nI_clamp (by omega)] at e1 e2
      rw [e3, nI_1]
      subst e1 e2
      refine ih (i + 1) _ (by omega) (fun q hq => ?_) (fun j hj => ?_)
      · by_cases hqi : q = i
        · subst hqi; exact up_s
        · rw [up_n (by omega)]; exact h1 q (by omega)
      · rw [up_n (by omega)]; exact h2 j hj
  exact loop 121 0 a (by omega) (fun q hq => absurd hq (by omega)) (fun j _ => rfl)
theorem sp_store8E {a told : Nat → Int32} {k : Nat} {post : (Nat → Int32) → Prop} (hk : k ≤ 1) (h : ∀ a', (∀ i, i < 31 → a' (31 * k + i) = told i) → (∀ j, j < 31 * k ∨ 31 * k + 31 ≤ j → a' j = a j) → post a') : q_m_store_8_0 a told 31 (nI k) post := by
  intro P hP
  have e0 : (31 : Int32) * nI k = nI (31 * k) := pk_mul 31 k
  have loop : ∀ (n i : Nat) (b : Nat → Int32), n + i = 31 → (∀ q, q < i → b (31 * k + q) = told q) → (∀ j, j < 31 * k ∨ 31 * k + 31 ≤ j → b j = a j) → P (nI i) b := by
    intro n
    induction n with
    | zero =>
      intro i b hi h1 h2
      apply hP
      exact ⟨fun _ => h b (fun q hq => h1 q (by omega)) h2, fun h9 => absurd (nI_le (a := 31) (by omega) (by omega)) h9⟩
    | succ n ih =>
      intro i b hi h1 h2
      apply hP
      refine ⟨fun h9 => absurd h9 (nI_ge (b := 31) (by omega) (by omega)), fun _ => ⟨vp_in_nI (by omega) (by omega), fun v1 e1 => ?_⟩⟩
      rw [e0, nI_add]
      refine ⟨vp_in_nI (by omega) (by omega), fun b1 e2 v2 e3 => ?_⟩
      rw [nI_clamp (by omega)] at e1 e2
      rw [e3, nI_1]
      subst e1 e2
      refine ih (i + 1) _ (by omega) (fun q hq => ?_) (fun j hj => ?_)
      · by_cases hqi : q = i
        · subst hqi; exact up_s
        · rw [up_n (by omega)]; exact h1 q (by omega)
      · rw [up_n (by omega)]; exact h2 j hj
  exact loop 31 0 a (by omega) (fun q hq => absurd hq (by omega)) (fun j _ => rfl)
theorem sp_store9E {a told : Nat → Int32} {k : Nat} {post : (Nat → Int32) → Prop} (hk : k ≤ 1) (h : ∀ a', (∀ i, i < 20 → a' (20 * k + i) = told i) → (∀ j, j < 20 * k ∨ 20 * k + 20 ≤ j → a' j = a j) → post a') : q_m_store_9_0 a told 20 (nI k) post := by
  intro P hP
  have e0 : (20 : Int32) * nI k = nI (20 * k) := pk_mul 20 k
  have loop : ∀ (n i : Nat) (b : Nat → Int32), n + i = 20 → (∀ q, q < i → b (20 * k + q) = told q) → (∀ j, j < 20 * k ∨ 20 * k + 20 ≤ j → b j = a j) → P (nI i) b := by
    intro n
    induction n with
    | zero =>
      intro i b hi h1 h2
      apply hP
      exact ⟨fun _ => h b (fun q hq => h1 q (by omega)) h2, fun h9 => absurd (nI_le (a := 20) (by omega) (by omega)) h9⟩
    | succ n ih =>
      intro i b hi h1 h2
      apply hP
      refine ⟨fun h9 => absurd h9 (nI_ge (b := 20) (by omega) (by omega)), fun _ => ⟨vp_in_nI (by omega) (by omega), fun v1 e1 => ?_⟩⟩
      rw [e0, nI_add]
      refine ⟨vp_in_nI (by omega) (by omega), fun b1 e2 v2 e3 => ?_⟩
      rw [nI_clamp (by omega)] at e1 e2
      rw [e3, nI_1]
      subst e1 e2
      refine ih (i + 1) _ (by omega) (fun q hq => ?_) (fun j hj => ?_)
      · by_cases hqi : q = i
        · subst hqi; exact up_s
        · rw [up_n (by omega)]; exact h1 q (by omega)
      · rw [up_n (by omega)]; exact h2 j hj
  exact loop 20 0 a (by omega) (fun q hq => absurd hq (by omega)) (fun j _ => rfl)
theorem row_L {a b told : Nat → Int32} {k : Nat} (hk : k ≤ 1) (ha : mLand a) (hr : okRow 0 told) (h1 : ∀ i, i < 132 → b (132 * k + i) = told i) (h2 : ∀ j, j < 132 * k ∨ 132 * k + 132 ≤ j → b j = a j) : mLand b := by
  refine ⟨fun r j hr8 hj => ?_, fun r hr8 hn => ?_⟩
  · by_cases hrk : r = k
    · subst hrk; rw [h1 j hj]; exact hr.1 j hj
    · rw [h2 _ (by omega)]; exact ha.1 r j hr8 hj
  · by_cases hrk : r = k
    · subst hrk
      have e := h1 0 (by omega)
      rw [Nat.add_zero] at e
      rw [h1 1 (by omega)] at hn
      rw [e]
      exact hr.2 rfl hn
    · rw [h2 _ (by omega)] at hn ⊢
      exact ha.2 r hr8 hn
theorem row_E {a b told : Nat → Int32} {k : Nat} (hk : k ≤ 1) (ha : mEve a) (hr : okRow 1 told) (h1 : ∀ i, i < 121 → b (121 * k + i) = told i) (h2 : ∀ j, j < 121 * k ∨ 121 * k + 121 ≤ j → b j = a j) : mEve b := by
  intro r hr8
  by_cases hrk : r = k
  · subst hrk
    refine ⟨?_, fun q hq => ?_⟩
    · have e := h1 0 (by omega)
      rw [Nat.add_zero] at e
      rw [e]; exact hr.1 0 (by omega)
    · have e0 := h1 (1 + 3 * q + 0) (by omega)
      have e1 := h1 (1 + 3 * q + 1) (by omega)
      have e2 := h1 (1 + 3 * q + 2) (by omega)
      have r0 := rg1 hq (show 0 < 3 by omega)
      have r1 := rg1 hq (show 1 < 3 by omega)
      have r2 := rg1 hq (show 2 < 3 by omega)
      have g0 := hr.1 (1 + 3 * q + 0) (by omega)
      have g1 := hr.1 (1 + 3 * q + 1) (by omega)
      have g2 := hr.1 (1 + 3 * q + 2) (by omega)
      rw [r0.1, r0.2] at g0
      rw [r1.1, r1.2] at g1
      rw [r2.1, r2.2] at g2
      rw [show 121 * r + 1 + 3 * q = 121 * r + (1 + 3 * q + 0) by omega, show 121 * r + (1 + 3 * q + 0) + 1 = 121 * r + (1 + 3 * q + 1) by omega, show 121 * r + (1 + 3 * q + 0) + 2 = 121 * r + (1 + 3 * q + 2) by omega, e0, e1, e2]
      exact ⟨g0, g1, g2⟩
  · refine ⟨by rw [h2 _ (by omega)]; exact (ha r hr8).1, fun q hq => ?_⟩
    rw [h2 _ (by omega), h2 _ (by omega), h2 _ (by omega)]
    exact (ha r hr8).2 q hq
theorem row_S {a b told : Nat → Int32} {k : Nat} (hk : k ≤ 1) (ha : mSig a) (hr : okRow 2 told) (h1 : ∀ i, i < 31 → b (31 * k + i) = told i) (h2 : ∀ j, j < 31 * k ∨ 31 * k + 31 ≤ j → b j = a j) : mSig b := by
  intro r hr8
  by_cases hrk : r = k
  · subst hrk
    refine ⟨?_, fun q hq => ?_⟩
    · have e := h1 0 (by omega)
      rw [Nat.add_zero] at e
      rw [e]; exact hr.1 0 (by omega)
    · have e0 := h1 (1 + 3 * q + 0) (by omega)
      have e1 := h1 (1 + 3 * q + 1) (by omega)
      have e2 := h1 (1 + 3 * q + 2) (by omega)
      have r0 := rg2 hq (show 0 < 3 by omega)
      have r1 := rg2 hq (show 1 < 3 by omega)
      have r2 := rg2 hq (show 2 < 3 by omega)
      have g0 := hr.1 (1 + 3 * q + 0) (by omega)
      have g1 := hr.1 (1 + 3 * q + 1) (by omega)
      have g2 := hr.1 (1 + 3 * q + 2) (by omega)
      rw [r0.1, r0.2] at g0
      rw [r1.1, r1.2] at g1
      rw [r2.1, r2.2] at g2
      rw [show 31 * r + 1 + 3 * q = 31 * r + (1 + 3 * q + 0) by omega, show 31 * r + (1 + 3 * q + 0) + 1 = 31 * r + (1 + 3 * q + 1) by omega, show 31 * r + (1 + 3 * q + 0) + 2 = 31 * r + (1 + 3 * q + 2) by omega, e0, e1, e2]
      exact ⟨g0, g1, g2⟩
  · refine ⟨by rw [h2 _ (by omega)]; exact (ha r hr8).1, fun q hq => ?_⟩
    rw [h2 _ (by omega), h2 _ (by omega), h2 _ (by omega)]
    exact (ha r hr8).2 q hq
theorem row_C {a b told : Nat → Int32} {k : Nat} (hk : k ≤ 1) (ha : mCho a) (hr : okRow 3 told) (h1 : ∀ i, i < 20 → b (20 * k + i) = told i) (h2 : ∀ j, j < 20 * k ∨ 20 * k + 20 ≤ j → b j = a j) : mCho b := by
  intro r hr8
  by_cases hrk : r = k
  · subst hrk
    refine ⟨?_, ?_, fun q hq => ?_⟩
    · have e := h1 0 (by omega)
      rw [Nat.add_zero] at e
      rw [e]; exact hr.1 0 (by omega)
    · rw [h1 19 (by omega)]; exact hr.1 19 (by omega)
    · have e0 := h1 (1 + 2 * q + 0) (by omega)
      have e1 := h1 (1 + 2 * q + 1) (by omega)
      have r0 := rg3 hq (show 0 < 2 by omega)
      have r1 := rg3 hq (show 1 < 2 by omega)
      have g0 := hr.1 (1 + 2 * q + 0) (by omega)
      have g1 := hr.1 (1 + 2 * q + 1) (by omega)
      rw [r0.1, r0.2] at g0
      rw [r1.1, r1.2] at g1
      rw [show 20 * r + 1 + 2 * q = 20 * r + (1 + 2 * q + 0) by omega, show 20 * r + (1 + 2 * q + 0) + 1 = 20 * r + (1 + 2 * q + 1) by omega, e0, e1]
      exact ⟨g0, g1⟩
  · refine ⟨by rw [h2 _ (by omega)]; exact (ha r hr8).1, by rw [h2 _ (by omega)]; exact (ha r hr8).2.1, fun q hq => ?_⟩
    rw [h2 _ (by omega), h2 _ (by omega)]
    exact (ha r hr8).2.2 q hq
theorem sp_storeAllT {l e s c told : Nat → Int32} {o k : Nat} {post : (Nat → Int32) → (Nat → Int32) → (Nat → Int32) → (Nat → Int32) → Prop} (ho : o ≤ 3) (hk : k ≤ 1) (hl : mLand l) (he : mEve e) (hs : mSig s) (hc : mCho c) (hr : okRow o told) (h : ∀ l e s c, mLand l → mEve e → mSig s → mCho c → post l e s c) : q_m_storeAll_0 l e s c told (nI o) (nI k) post := by
  refine ⟨fun g => ?_, fun g => ?_, fun g => ?_, fun g => ?_⟩
  · rw [nI_toInt (by omega)] at g
    have e3 : o = 3 := by omega
    subst e3
    exact sp_store9E hk (fun b h1 h2 => h _ _ _ _ hl he hs (row_C hk hc hr h1 h2))
  · have e3 : o = 0 := (nI_eq (b := 0) (by omega) (by omega)).mp g
    subst e3
    exact sp_store6E hk (fun b h1 h2 => h _ _ _ _ (row_L hk hl hr h1 h2) he hs hc)
  · have e3 : o = 1 := (nI_eq (b := 1) (by omega) (by omega)).mp g
    subst e3
    exact sp_store7E hk (fun b h1 h2 => h _ _ _ _ hl (row_E hk he hr h1 h2) hs hc)
  · have e3 : o = 2 := (nI_eq (b := 2) (by omega) (by omega)).mp g
    subst e3
    exact sp_store8E hk (fun b h1 h2 => h _ _ _ _ hl he (row_S hk hs hr h1 h2) hc)
theorem s_m_text_0 {f_code : Int32} {a_tape : Nat → Int32} {a_size : Nat → Int32} {a_fault : Nat → Int32} {a_faultPlace : Nat → Int32} {a_many : Nat → Int32} {a_lands : Nat → Int32} {a_evenings : Nat → Int32} {a_sights : Nat → Int32} {a_choirs : Nat → Int32} {f_reached : Int32} {f_length : Int32} {f_begins : Int32} {f_sort : Int32} {f_value : Int32} {f_word : Int64} {f_wrongAt : Int32} {f_laterFault : Int32} {f_laterPlace : Int32} {a_told : Nat → Int32} {a_read : Nat → Int32} {f_farHut : Int32} {f_farSinger : Int32} {f_good : Int32} {x1 : Int32} {x2 : Int32} {post : Int32 → (Int32) → (Nat → Int32) → (Nat → Int32) → (Nat → Int32) → (Nat → Int32) → (Nat → Int32) → (Nat → Int32) → (Nat → Int32) → (Nat → Int32) → (Int32) → (Int32) → (Int32) → (Int32) → (Int32) → (Int64) → (Int32) → (Int32) → (Int32) → (Nat → Int32) → (Nat → Int32) → (Int32) → (Int32) → (Int32) → Prop} (k_f_code : iv 0 0 f_code) (k_a_tape : ∀ j, iv (-128) 127 (a_tape j)) (k_a_size : ∀ j, iv 0 600 (a_size j)) (k_a_many : ∀ j, iv 0 2 (a_many j)) (k_a_lands : mLand a_lands) (k_a_evenings : mEve a_evenings) (k_a_sights : mSig a_sights) (k_a_choirs : mCho a_choirs) (hpost : ∀ (r : Int32) (f_code : Int32) (a_size : Nat → Int32) (a_fault : Nat → Int32) (a_faultPlace : Nat → Int32) (a_many : Nat → Int32) (a_lands : Nat → Int32) (a_evenings : Nat → Int32) (a_sights : Nat → Int32) (a_choirs : Nat → Int32) (f_reached : Int32) (f_length : Int32) (f_begins : Int32) (f_sort : Int32) (f_value : Int32) (f_word : Int64) (f_wrongAt : Int32) (f_laterFault : Int32) (f_laterPlace : Int32) (a_told : Nat → Int32) (a_read : Nat → Int32) (f_farHut : Int32) (f_farSinger : Int32) (f_good : Int32), (iv 0 0 f_code) → (∀ j, iv 0 600 (a_size j)) → (∀ j, iv 0 2 (a_many j)) → (mLand a_lands) → (mEve a_evenings) → (mSig a_sights) → (mCho a_choirs) → post r f_code a_size a_fault a_faultPlace a_many a_lands a_evenings a_sights a_choirs f_reached f_length f_begins f_sort f_value f_word f_wrongAt f_laterFault f_laterPlace a_told a_read f_farHut f_farSinger f_good) : q_m_text_0 f_code a_tape a_size a_fault a_faultPlace a_many a_lands a_evenings a_sights a_choirs f_reached f_length f_begins f_sort f_value f_word f_wrongAt f_laterFault f_laterPlace a_told a_read f_farHut f_farSinger f_good x1 x2 post := by
  intro vl el z ez fa ef fp ep
  have hz : ∀ j, iv 0 600 (z j) := iv_upd ez k_a_size (iv_lit (by decide))
  have hvl : iv 0 600 vl := iv_eq el (k_a_size _)
  obtain ⟨n, rfl, -, hn, hn2⟩ := iv_nI hvl (by omega)
  refine sp_in (fun _ => iz (hpost _ _ _ _ _ _ _ _ _ _ _ _ _ _ _ _ _ _ _ _ _ _ _ _ (iv_lit (by decide)) hz k_a_many k_a_lands k_a_evenings k_a_sights k_a_choirs)) (fun a1 a2 => oi ?_)
  obtain ⟨o, rfl, -, ho, ho2⟩ := iv_nI (iv_of (l := 0) (h := 3) rfl rfl a1 a2) (by omega)
  have hx : vp_in (nI o) 16 := vp_in_nI (by omega) (by omega)
  rw [nI_clamp (by omega)]
  have hmo := k_a_many o
  have k75 : (x2 = -1 → ¬ a_many o = 2) → (¬ x2 = -1 → ∃ K, K ≤ 1 ∧ x2 = nI K) → q_m_text_75 0 a_tape z fa fp a_many a_lands a_evenings a_sights a_choirs f_reached (nI n) f_begins f_sort f_value f_word f_wrongAt f_laterFault f_laterPlace a_told a_read f_farHut f_farSinger f_good (nI o) x2 post := by
    intro q1 q2
    refine sp_readTextT (by omega) (by omega) (fun _ _ _ _ _ _ _ _ _ _ _ _ _ _ _ => zi (hpost _ _ _ _ _ _ _ _ _ _ _ _ _ _ _ _ _ _ _ _ _ _ _ _ (iv_lit (by decide)) hz k_a_many k_a_lands k_a_evenings k_a_sights k_a_choirs)) (fun fa fp re be so va wd wr lf lp told rd fh fs gd hok => io ?_)
    have k118 : ∀ (k : Nat) (y : Int32), k ≤ 1 → iv 0 2 (a_many o + y) → q_m_text_118 0 a_tape z fa fp a_many a_lands a_evenings a_sights a_choirs re (nI n) be so va wd wr lf lp told rd fh fs gd (nI o) (nI k) (nI o) (a_many o) y post := by
      intro k y hk hy v1 e1
      refine ⟨hx, fun m1 em => ?_⟩
      refine sp_storeAllT (by omega) hk k_a_lands k_a_evenings k_a_sights k_a_choirs hok (fun l e s c h1 h2 h3 h4 => hpost _ _ _ _ _ _ _ _ _ _ _ _ _ _ _ _ _ _ _ _ _ _ _ _ (iv_lit (by decide)) hz (iv_upd em k_a_many (iv_eq e1 hy)) h1 h2 h3 h4)
    have y0 : iv 0 2 (a_many o + 0) := iv_add hmo (iv_lit (l := 0) (h := 0) (by decide)) (by decide)
    refine ⟨fun h => ?_, fun h => ⟨hx, ?_⟩⟩
    · obtain ⟨K, hK, rfl⟩ := q2 h
      refine ⟨hx, fun _ => ?_, fun h9 => absurd h9 h⟩
      rw [nI_clamp (by omega)]
      exact k118 K 0 hK y0
    · have hm1 : iv 0 1 (a_many o) := iv_ne (q1 h) hmo (iv_lit (l := 2) (h := 2) (by decide)) (by decide)
      obtain ⟨K, hKe, -, hK, hK2⟩ := iv_nI hm1 (by omega)
      refine ⟨hx, fun h9 => absurd h h9, fun _ => ?_⟩
      rw [nI_clamp (by omega)]
      have h9 := k118 K 1 (by omega) (iv_add hm1 (iv_lit (l := 1) (h := 1) (by decide)) (by decide))
      rw [← hKe] at h9
      exact h9
  refine ⟨fun hne => ?_, fun hm => ⟨hx, fun h2 => k75 (fun _ => h2) (fun h => absurd hm h), fun _ => hpost _ _ _ _ _ _ _ _ _ _ _ _ _ _ _ _ _ _ _ _ _ _ _ _ (iv_lit (by decide)) hz k_a_many k_a_lands k_a_evenings k_a_sights k_a_choirs⟩⟩
  refine ⟨hx, ?_⟩
  rw [nI_clamp (by omega)]
  refine sp_in (fun _ => ⟨rfl, zi (hpost _ _ _ _ _ _ _ _ _ _ _ _ _ _ _ _ _ _ _ _ _ _ _ _ (iv_lit (by decide)) hz k_a_many k_a_lands k_a_evenings k_a_sights k_a_choirs)⟩) (fun g1 g2 => ⟨rfl, io (k75 (fun h => absurd h hne) (fun _ => ?_))⟩)
  have hxx : iv 0 1 x2 := iv_lea (r_le g2) (iv_leb (l := 0) (h := 2147483647) (r_le g1) (iv_lit (l := 0) (h := 0) (by decide)) (iv_top x2) (by decide)) (iv_sub (l := -1) (h := 1) hmo (iv_lit (l := 1) (h := 1) (by decide)) (by decide)) (by decide)
  obtain ⟨K, hKe, -, hK, hK2⟩ := iv_nI hxx (by omega)
  exact ⟨K, by omega, hKe⟩
theorem sp_fourT {t z : Nat → Int32} {s : Nat} {v : Int32} {post : (Nat → Int32) → (Nat → Int32) → Prop} (hs : z 0 = nI s) (h4 : s + 4 ≤ 600) (hz : ∀ j, iv 0 600 (z j)) (ht : ∀ j, iv (-128) 127 (t j)) (h : ∀ t' z', z' 0 = nI (s + 4) → (∀ j, iv 0 600 (z' j)) → (∀ j, iv (-128) 127 (t' j)) → post t' z') : q_m_four_0 t z v post := by
  intro P hP
  have st : ∀ (x y : Int32) (t z : Nat → Int32) (m : Nat), ¬ x < 0 → y = x + -8 → z 0 = nI m → m + 1 ≤ 600 → (∀ j, iv 0 600 (z j)) → (∀ j, iv (-128) 127 (t j)) → (∀ t' z', z' 0 = nI (m + 1) → (∀ j, iv 0 600 (z' j)) → (∀ j, iv (-128) 127 (t' j)) → P y t' z') → P x t z := by
    intro x y t z m h1 h2 h3 h4 h5 h6 h7
    apply hP
    refine ⟨fun h => absurd h h1, fun _ v1 e1 => ?_⟩
    rw [c_0, h3]
    refine ⟨vp_in_nI (by omega) (by omega), fun t1 e2 v2 e3 z1 e4 v3 e5 => ?_⟩
    rw [nI_1] at e3
    rw [e5, ← h2]
    refine h7 t1 z1 ?_ (iv_upd e4 h5 (by rw [e3]; exact iv_ofN (by omega) (by omega) (by omega))) (iv_updB e2 h6)
    rw [e4, e3]; exact up_s
  refine st 24 16 _ _ s (by decide) (by decide) hs (by omega) hz ht fun t1 z1 a1 b1 d1 => ?_
  refine st 16 8 _ _ (s + 1) (by decide) (by decide) a1 (by omega) b1 d1 fun t2 z2 a2 b2 d2 => ?_
  refine st 8 0 _ _ (s + 2) (by decide) (by decide) a2 (by omega) b2 d2 fun t3 z3 a3 b3 d3 => ?_
  refine st 0 (-8) _ _ (s + 3) (by decide) (by decide) a3 (by omega) b3 d3 fun t4 z4 a4 b4 d4 => ?_
  apply hP
  exact ⟨fun _ => h t4 z4 a4 b4 d4, fun h => absurd (by decide) h⟩
theorem s_m_feed_0 {f_code : Int32} {a_tape : Nat → Int32} {a_size : Nat → Int32} {x1 : Int32} {x2 : Int32} {x3 : Int32} {x4 : Int32} {x5 : Int32} {post : Int32 → (Int32) → (Nat → Int32) → (Nat → Int32) → Prop} (k_f_code : iv 0 0 f_code) (k_a_tape : ∀ j, iv (-128) 127 (a_tape j)) (k_a_size : ∀ j, iv 0 600 (a_size j)) (hpost : ∀ (r : Int32) (f_code : Int32) (a_tape : Nat → Int32) (a_size : Nat → Int32), (iv 0 0 f_code) → (∀ j, iv (-128) 127 (a_tape j)) → (∀ j, iv 0 600 (a_size j)) → post r f_code a_tape a_size) : q_m_feed_0 f_code a_tape a_size x1 x2 x3 x4 x5 post := by
  refine ⟨fun hc => ?_, fun _ => hpost _ _ _ _ (iv_lit (by decide)) k_a_tape k_a_size⟩
  obtain ⟨s, hs, -, hs6, hs2⟩ := iv_nI (k_a_size 0) (by omega)
  have hle : s + 20 ≤ 600 := by
    have e20 : (20 : Int32) = nI 20 := rfl
    have e600 : (600 : Int32) = nI 600 := rfl
    rw [c_0, hs, e20, e600, nI_add] at hc
    exact (nI_leI (by omega) (by omega)).mp hc
  refine sp_fourT hs (by omega) k_a_size k_a_tape fun t1 z1 a1 b1 d1 => ?_
  refine sp_fourT a1 (by omega) b1 d1 fun t2 z2 a2 b2 d2 => ?_
  refine sp_fourT a2 (by omega) b2 d2 fun t3 z3 a3 b3 d3 => ?_
  refine sp_fourT a3 (by omega) b3 d3 fun t4 z4 a4 b4 d4 => ?_
  refine sp_fourT a4 (by omega) b4 d4 fun t5 z5 a5 b5 d5 => ?_
  exact hpost _ _ _ _ (iv_lit (by decide)) d5 b5
theorem sp_row2E {a : Nat → Int32} {f g : Nat} {post : (Nat → Int32) → Prop} (hf : f ≤ 3) (hg : g ≤ 3) (hne : ¬ f = g) (h : ∀ a', (∀ i, i < 1 → a' (1 * g + i) = a (1 * f + i)) → (∀ j, j < 1 * g ∨ 1 * g + 1 ≤ j → a' j = a j) → post a') : q_m_copyRow_2_0 a 1 (nI f) (nI g) post := by
  intro P hP
  have ef : (1 : Int32) * nI f = nI (1 * f) := pk_mul 1 f
  have eg : (1 : Int32) * nI g = nI (1 * g) := pk_mul 1 g
  have loop : ∀ (n i : Nat) (b : Nat → Int32), n + i = 1 → (∀ q, q < i → b (1 * g + q) = a (1 * f + q)) → (∀ j, j < 1 * g ∨ 1 * g + 1 ≤ j → b j = a j) → P (nI i) b := by
    intro n
    induction n with
    | zero =>
      intro i b hi h1 h2
      apply hP
      exact ⟨fun _ => h b (fun q hq => h1 q (by omega)) h2, fun h9 => absurd (nI_le (a := 1) (by omega) (by omega)) h9⟩
    | succ n ih =>
      intro i b hi h1 h2
      apply hP
      refine ⟨fun h9 => absurd h9 (nI_ge (b := 1) (by omega) (by omega)), fun _ => ?_⟩
      rw [ef, eg, nI_add, nI_add]
      refine ⟨vp_in_nI (by omega) (by omega), fun v1 e1 => ⟨vp_in_nI (by omega) (by omega), fun b1 e2 v2 e3 => ?_⟩⟩
      rw [nI_clamp (by omega)] at e1 e2
      rw [e3, nI_1]
      rw [h2 _ (by omega)] at e1
      subst e1 e2
      refine ih (i + 1) _ (by omega) (fun q hq => ?_) (fun j hj => ?_)
      · by_cases hqi : q = i
        · subst hqi; exact up_s
        · rw [up_n (by omega)]; exact h1 q (by omega)
      · rw [up_n (by omega)]; exact h2 j hj
  exact loop 1 0 a (by omega) (fun q hq => absurd hq (by omega)) (fun j _ => rfl)
theorem sp_row3E {a : Nat → Int32} {f g : Nat} {post : (Nat → Int32) → Prop} (hf : f ≤ 3) (hg : g ≤ 3) (hne : ¬ f = g) (h : ∀ a', (∀ i, i < 1 → a' (1 * g + i) = a (1 * f + i)) → (∀ j, j < 1 * g ∨ 1 * g + 1 ≤ j → a' j = a j) → post a') : q_m_copyRow_3_0 a 1 (nI f) (nI g) post := by
  intro P hP
  have ef : (1 : Int32) * nI f = nI (1 * f) := pk_mul 1 f
  have eg : (1 : Int32) * nI g = nI (1 * g) := pk_mul 1 g
  have loop : ∀ (n i : Nat) (b : Nat → Int32), n + i = 1 → (∀ q, q < i → b (1 * g + q) = a (1 * f + q)) → (∀ j, j < 1 * g ∨ 1 * g + 1 ≤ j → b j = a j) → P (nI i) b := by
    intro n
    induction n with
    | zero =>
      intro i b hi h1 h2
      apply hP
      exact ⟨fun _ => h b (fun q hq => h1 q (by omega)) h2, fun h9 => absurd (nI_le (a := 1) (by omega) (by omega)) h9⟩
    | succ n ih =>
      intro i b hi h1 h2
      apply hP
      refine ⟨fun h9 => absurd h9 (nI_ge (b := 1) (by omega) (by omega)), fun _ => ?_⟩
      rw [ef, eg, nI_add, nI_add]
      refine ⟨vp_in_nI (by omega) (by omega), fun v1 e1 => ⟨vp_in_nI (by omega) (by omega), fun b1 e2 v2 e3 => ?_⟩⟩
      rw [nI_clamp (by omega)] at e1 e2
      rw [e3, nI_1]
      rw [h2 _ (by omega)] at e1
      subst e1 e2
      refine ih (i + 1) _ (by omega) (fun q hq => ?_) (fun j hj => ?_)
      · by_cases hqi : q = i
        · subst hqi; exact up_s
        · rw [up_n (by omega)]; exact h1 q (by omega)
      · rw [up_n (by omega)]; exact h2 j hj
  exact loop 1 0 a (by omega) (fun q hq => absurd hq (by omega)) (fun j _ => rfl)
theorem sp_row4E {a : Nat → Int32} {f g : Nat} {post : (Nat → Int32) → Prop} (hf : f ≤ 3) (hg : g ≤ 3) (hne : ¬ f = g) (h : ∀ a', (∀ i, i < 1 → a' (1 * g + i) = a (1 * f + i)) → (∀ j, j < 1 * g ∨ 1 * g + 1 ≤ j → a' j = a j) → post a') : q_m_copyRow_4_0 a 1 (nI f) (nI g) post := by
  intro P hP
  have ef : (1 : Int32) * nI f = nI (1 * f) := pk_mul 1 f
  have eg : (1 : Int32) * nI g = nI (1 * g) := pk_mul 1 g
  have loop : ∀ (n i : Nat) (b : Nat → Int32), n + i = 1 → (∀ q, q < i → b (1 * g + q) = a (1 * f + q)) → (∀ j, j < 1 * g ∨ 1 * g + 1 ≤ j → b j = a j) → P (nI i) b := by
    intro n
    induction n with
    | zero =>
      intro i b hi h1 h2
      apply hP
      exact ⟨fun _ => h b (fun q hq => h1 q (by omega)) h2, fun h9 => absurd (nI_le (a := 1) (by omega) (by omega)) h9⟩
    | succ n ih =>
      intro i b hi h1 h2
      apply hP
      refine ⟨fun h9 => absurd h9 (nI_ge (b := 1) (by omega) (by omega)), fun _ => ?_⟩
      rw [ef, eg, nI_add, nI_add]
      refine ⟨vp_in_nI (by omega) (by omega), fun v1 e1 => ⟨vp_in_nI (by omega) (by omega), fun b1 e2 v2 e3 => ?_⟩⟩
      rw [nI_clamp (by omega)] at e1 e2
      rw [e3, nI_1]
      rw [h2 _ (by omega)] at e1
      subst e1 e2
      refine ih (i + 1) _ (by omega) (fun q hq => ?_) (fun j hj => ?_)
      · by_cases hqi : q = i
        · subst hqi; exact up_s
        · rw [up_n (by omega)]; exact h1 q (by omega)
      · rw [up_n (by omega)]; exact h2 j hj
  exact loop 1 0 a (by omega) (fun q hq => absurd hq (by omega)) (fun j _ => rfl)
theorem sp_row5E {a : Nat → Int32} {f g : Nat} {post : (Nat → Int32) → Prop} (hf : f ≤ 3) (hg : g ≤ 3) (hne : ¬ f = g) (h : ∀ a', (∀ i, i < 4 → a' (4 * g + i) = a (4 * f + i)) → (∀ j, j < 4 * g ∨ 4 * g + 4 ≤ j → a' j = a j) → post a') : q_m_copyRow_5_0 a 4 (nI f) (nI g) post := by
  intro P hP
  have ef : (4 : Int32) * nI f = nI (4 * f) := pk_mul 4 f
  have eg : (4 : Int32) * nI g = nI (4 * g) := pk_mul 4 g
  have loop : ∀ (n i : Nat) (b : Nat → Int32), n + i = 4 → (∀ q, q < i → b (4 * g + q) = a (4 * f + q)) → (∀ j, j < 4 * g ∨ 4 * g + 4 ≤ j → b j = a j) → P (nI i) b := by
    intro n
    induction n with
    | zero =>
      intro i b hi h1 h2
      apply hP
      exact ⟨fun _ => h b (fun q hq => h1 q (by omega)) h2, fun h9 => absurd (nI_le (a := 4) (by omega) (by omega)) h9⟩
    | succ n ih =>
      intro i b hi h1 h2
      apply hP
      refine ⟨fun h9 => absurd h9 (nI_ge (b := 4) (by omega) (by omega)), fun _ => ?_⟩
      rw [ef, eg, nI_add, nI_add]
      refine ⟨vp_in_nI (by omega) (by omega), fun v1 e1 => ⟨vp_in_nI (by omega) (by omega), fun b1 e2 v2 e3 => ?_⟩⟩
      rw [nI_clamp (by omega)] at e1 e2
      rw [e3, nI_1]
      rw [h2 _ (by omega)] at e1
      subst e1 e2
      refine ih (i + 1) _ (by omega) (fun q hq => ?_) (fun j hj => ?_)
      · by_cases hqi : q = i
        · subst hqi; exact up_s
        · rw [up_n (by omega)]; exact h1 q (by omega)
      · rw [up_n (by omega)]; exact h2 j hj
  exact loop 4 0 a (by omega) (fun q hq => absurd hq (by omega)) (fun j _ => rfl)
theorem sp_row6E {a : Nat → Int32} {f g : Nat} {post : (Nat → Int32) → Prop} (hf : f ≤ 3) (hg : g ≤ 3) (hne : ¬ f = g) (h : ∀ a', (∀ i, i < 264 → a' (264 * g + i) = a (264 * f + i)) → (∀ j, j < 264 * g ∨ 264 * g + 264 ≤ j → a' j = a j) → post a') : q_m_copyRow_6_0 a 264 (nI f) (nI g) post := by
  intro P hP
  have ef : (264 : Int32) * nI f = nI (264 * f) := pk_mul 264 f
  have eg : (264 : Int32) * nI g = nI (264 * g) := pk_mul 264 g
  have loop : ∀ (n i : Nat) (b : Nat → Int32), n + i = 264 → (∀ q, q < i → b (264 * g + q) = a (264 * f + q)) → (∀ j, j < 264 * g ∨ 264 * g + 264 ≤ j → b j = a j) → P (nI i) b := by
    intro n
    induction n with
    | zero =>
      intro i b hi h1 h2
      apply hP
      exact ⟨fun _ => h b (fun q hq => h1 q (by omega)) h2, fun h9 => absurd (nI_le (a := 264) (by omega) (by omega)) h9⟩
    | succ n ih =>
      intro i b hi h1 h2
      apply hP
      refine ⟨fun h9 => absurd h9 (nI_ge (b := 264) (by omega) (by omega)), fun _ => ?_⟩
      rw [ef, eg, nI_add, nI_add]
      refine ⟨vp_in_nI (by omega) (by omega), fun v1 e1 => ⟨vp_in_nI (by omega) (by omega), fun b1 e2 v2 e3 => ?_⟩⟩
      rw [nI_clamp (by omega)] at e1 e2
      rw [e3, nI_1]
      rw [h2 _ (by omega)] at e1
      subst e1 e2
      refine ih (i + 1) _ (by omega) (fun q hq => ?_) (fun j hj => ?_)
      · by_cases hqi : q = i
        · subst hqi; exact up_s
        · rw [up_n (by omega)]; exact h1 q (by omega)
      · rw [up_n (by omega)]; exact h2 j hj
  exact loop 264 0 a (by omega) (fun q hq => absurd hq (by omega)) (fun j _ => rfl)
theorem sp_row7E {a : Nat → Int32} {f g : Nat} {post : (Nat → Int32) → Prop} (hf : f ≤ 3) (hg : g ≤ 3) (hne : ¬ f = g) (h : ∀ a', (∀ i, i < 242 → a' (242 * g + i) = a (242 * f + i)) → (∀ j, j < 242 * g ∨ 242 * g + 242 ≤ j → a' j = a j) → post a') : q_m_copyRow_7_0 a 242 (nI f) (nI g) post := by
  intro P hP
  have ef : (242 : Int32) * nI f = nI (242 * f) := pk_mul 242 f
  have eg : (242 : Int32) * nI g = nI (242 * g) := pk_mul 242 g
  have loop : ∀ (n i : Nat) (b : Nat → Int32), n + i = 242 → (∀ q, q < i → b (242 * g + q) = a (242 * f + q)) → (∀ j, j < 242 * g ∨ 242 * g + 242 ≤ j → b j = a j) → P (nI i) b := by
    intro n
    induction n with
    | zero =>
      intro i b hi h1 h2
      apply hP
      exact ⟨fun _ => h b (fun q hq => h1 q (by omega)) h2, fun h9 => absurd (nI_le (a := 242) (by omega) (by omega)) h9⟩
    | succ n ih =>
      intro i b hi h1 h2
      apply hP
      refine ⟨fun h9 => absurd h9 (nI_ge (b := 242) (by omega) (by omega)), fun _ => ?_⟩
      rw [ef, eg, nI_add, nI_add]
      refine ⟨vp_in_nI (by omega) (by omega), fun v1 e1 => ⟨vp_in_nI (by omega) (by omega), fun b1 e2 v2 e3 => ?_⟩⟩
      rw [nI_clamp (by omega)] at e1 e2
      rw [e3, nI_1]
      rw [h2 _ (by omega)] at e1
      subst e1 e2
      refine ih (i + 1) _ (by omega) (fun q hq => ?_) (fun j hj => ?_)
      · by_cases hqi : q = i
        · subst hqi; exact up_s
        · rw [up_n (by omega)]; exact h1 q (by omega)
      · rw [up_n (by omega)]; exact h2 j hj
  exact loop 242 0 a (by omega) (fun q hq => absurd hq (by omega)) (fun j _ => rfl)
theorem sp_row8E {a : Nat → Int32} {f g : Nat} {post : (Nat → Int32) → Prop} (hf : f ≤ 3) (hg : g ≤ 3) (hne : ¬ f = g) (h : ∀ a', (∀ i, i < 62 → a' (62 * g + i) = a (62 * f + i)) → (∀ j, j < 62 * g ∨ 62 * g + 62 ≤ j → a' j = a j) → post a') : q_m_copyRow_8_0 a 62 (nI f) (nI g) post := by
  intro P hP
  have ef : (62 : Int32) * nI f = nI (62 * f) := pk_mul 62 f
  have eg : (62 : Int32) * nI g = nI (62 * g) := pk_mul 62 g
  have loop : ∀ (n i : Nat) (b : Nat → Int32), n + i = 62 → (∀ q, q < i → b (62 * g + q) = a (62 * f + q)) → (∀ j, j < 62 * g ∨ 62 * g + 62 ≤ j → b j = a j) → P (nI i) b := by
    intro n
    induction n with
    | zero =>
      intro i b hi h1 h2
      apply hP
      exact ⟨fun _ => h b (fun q hq => h1 q (by omega)) h2, fun h9 => absurd (nI_le (a := 62) (by omega) (by omega)) h9⟩
    | succ n ih =>
      intro i b hi h1 h2
      apply hP
      refine ⟨fun h9 => absurd h9 (nI_ge (b := 62) (by omega) (by omega)), fun _ => ?_⟩
      rw [ef, eg, nI_add, nI_add]
      refine ⟨vp_in_nI (by omega) (by omega), fun v1 e1 => ⟨vp_in_nI (by omega) (by omega), fun b1 e2 v2 e3 => ?_⟩⟩
      rw [nI_clamp (by omega)] at e1 e2
      rw [e3, nI_1]
      rw [h2 _ (by omega)] at e1
      subst e1 e2
      refine ih (i + 1) _ (by omega) (fun q hq => ?_) (fun j hj => ?_)
      · by_cases hqi : q = i
        · subst hqi; exact up_s
        · rw [up_n (by omega)]; exact h1 q (by omega)
      · rw [up_n (by omega)]; exact h2 j hj
  exact loop 62 0 a (by omega) (fun q hq => absurd hq (by omega)) (fun j _ => rfl)
theorem sp_row9E {a : Nat → Int32} {f g : Nat} {post : (Nat → Int32) → Prop} (hf : f ≤ 3) (hg : g ≤ 3) (hne : ¬ f = g) (h : ∀ a', (∀ i, i < 40 → a' (40 * g + i) = a (40 * f + i)) → (∀ j, j < 40 * g ∨ 40 * g + 40 ≤ j → a' j = a j) → post a') : q_m_copyRow_9_0 a 40 (nI f) (nI g) post := by
  intro P hP
  have ef : (40 : Int32) * nI f = nI (40 * f) := pk_mul 40 f
  have eg : (40 : Int32) * nI g = nI (40 * g) := pk_mul 40 g
  have loop : ∀ (n i : Nat) (b : Nat → Int32), n + i = 40 → (∀ q, q < i → b (40 * g + q) = a (40 * f + q)) → (∀ j, j < 40 * g ∨ 40 * g + 40 ≤ j → b j = a j) → P (nI i) b := by
    intro n
    induction n with
    | zero =>
      intro i b hi h1 h2
      apply hP
      exact ⟨fun _ => h b (fun q hq => h1 q (by omega)) h2, fun h9 => absurd (nI_le (a := 40) (by omega) (by omega)) h9⟩
    | succ n ih =>
      intro i b hi h1 h2
      apply hP
      refine ⟨fun h9 => absurd h9 (nI_ge (b := 40) (by omega) (by omega)), fun _ => ?_⟩
      rw [ef, eg, nI_add, nI_add]
      refine ⟨vp_in_nI (by omega) (by omega), fun v1 e1 => ⟨vp_in_nI (by omega) (by omega), fun b1 e2 v2 e3 => ?_⟩⟩
      rw [nI_clamp (by omega)] at e1 e2
      rw [e3, nI_1]
      rw [h2 _ (by omega)] at e1
      subst e1 e2
      refine ih (i + 1) _ (by omega) (fun q hq => ?_) (fun j hj => ?_)
      · by_cases hqi : q = i
        · subst hqi; exact up_s
        · rw [up_n (by omega)]; exact h1 q (by omega)
      · rw [up_n (by omega)]; exact h2 j hj
  exact loop 40 0 a (by omega) (fun q hq => absurd hq (by omega)) (fun j _ => rfl)
theorem cp_any {l h : Int} {a b : Nat → Int32} {W f g : Nat} (ha : ∀ j, iv l h (a j)) (h1 : ∀ i, i < W → b (W * g + i) = a (W * f + i)) (h2 : ∀ j, j < W * g ∨ W * g + W ≤ j → b j = a j) : ∀ j, iv l h (b j) := by
  intro j
  by_cases hj : j < W * g ∨ W * g + W ≤ j
  · rw [h2 j hj]; exact ha j
  · have e := h1 (j - W * g) (by omega)
    rw [show W * g + (j - W * g) = j by omega] at e
    rw [e]; exact ha _
theorem cp_L {a b : Nat → Int32} {f g : Nat} (hf : f ≤ 3) (hg : g ≤ 3) (ha : mLand a) (h1 : ∀ i, i < 264 → b (264 * g + i) = a (264 * f + i)) (h2 : ∀ j, j < 264 * g ∨ 264 * g + 264 ≤ j → b j = a j) : mLand b := by
  have key : ∀ r, r < 8 → ∃ r', r' < 8 ∧ ∀ i, i < 132 → b (132 * r + i) = a (132 * r' + i) := by
    intro r hr
    by_cases hrg : r / 2 = g
    · refine ⟨2 * f + r % 2, by omega, fun i hi => ?_⟩
      have e := h1 (132 * (r % 2) + i) (by omega)
      rw [show 264 * g + (132 * (r % 2) + i) = 132 * r + i by omega, show 264 * f + (132 * (r % 2) + i) = 132 * (2 * f + r % 2) + i by omega] at e
      exact e
    · exact ⟨r, hr, fun i hi => h2 _ (by omega)⟩
  refine ⟨fun r j hr hj => ?_, fun r hr hn => ?_⟩
  · obtain ⟨r', hr', hk⟩ := key r hr
    rw [hk j hj]; exact ha.1 r' j hr' hj
  · obtain ⟨r', hr', hk⟩ := key r hr
    have e0 := hk 0 (by omega)
    rw [Nat.add_zero, Nat.add_zero] at e0
    rw [hk 1 (by omega)] at hn
    rw [e0]; exact ha.2 r' hr' hn
theorem cp_E {a b : Nat → Int32} {f g : Nat} (hf : f ≤ 3) (hg : g ≤ 3) (ha : mEve a) (h1 : ∀ i, i < 242 → b (242 * g + i) = a (242 * f + i)) (h2 : ∀ j, j < 242 * g ∨ 242 * g + 242 ≤ j → b j = a j) : mEve b := by
  have key : ∀ r, r < 8 → ∃ r', r' < 8 ∧ ∀ i, i < 121 → b (121 * r + i) = a (121 * r' + i) := by
    intro r hr
    by_cases hrg : r / 2 = g
    · refine ⟨2 * f + r % 2, by omega, fun i hi => ?_⟩
      have e := h1 (121 * (r % 2) + i) (by omega)
      rw [show 242 * g + (121 * (r % 2) + i) = 121 * r + i by omega, show 242 * f + (121 * (r % 2) + i) = 121 * (2 * f + r % 2) + i by omega] at e
      exact e
    · exact ⟨r, hr, fun i hi => h2 _ (by omega)⟩
  intro r hr
  obtain ⟨r', hr', hk⟩ := key r hr
  have e0 := hk 0 (by omega)
  rw [Nat.add_zero, Nat.add_zero] at e0
  refine ⟨by rw [e0]; exact (ha r' hr').1, fun q hq => ?_⟩
  have g := (ha r' hr').2 q hq
  rw [Nat.add_assoc (121 * r) 1 (3 * q), Nat.add_assoc (121 * r), Nat.add_assoc (121 * r), hk _ (by omega), hk _ (by omega), hk _ (by omega)]
  rw [Nat.add_assoc (121 * r') 1 (3 * q), Nat.add_assoc (121 * r'), Nat.add_assoc (121 * r')] at g
  exact g
theorem cp_S {a b : Nat → Int32} {f g : Nat} (hf : f ≤ 3) (hg : g ≤ 3) (ha : mSig a) (h1 : ∀ i, i < 62 → b (62 * g + i) = a (62 * f + i)) (h2 : ∀ j, j < 62 * g ∨ 62 * g + 62 ≤ j → b j = a j) : mSig b := by
  have key : ∀ r, r < 8 → ∃ r', r' < 8 ∧ ∀ i, i < 31 → b (31 * r + i) = a (31 * r' + i) := by
    intro r hr
    by_cases hrg : r / 2 = g
    · refine ⟨2 * f + r % 2, by omega, fun i hi => ?_⟩
      have e := h1 (31 * (r % 2) + i) (by omega)
      rw [show 62 * g + (31 * (r % 2) + i) = 31 * r + i by omega, show 62 * f + (31 * (r % 2) + i) = 31 * (2 * f + r % 2) + i by omega] at e
      exact e
    · exact ⟨r, hr, fun i hi => h2 _ (by omega)⟩
  intro r hr
  obtain ⟨r', hr', hk⟩ := key r hr
  have e0 := hk 0 (by omega)
  rw [Nat.add_zero, Nat.add_zero] at e0
  refine ⟨by rw [e0]; exact (ha r' hr').1, fun q hq => ?_⟩
  have g := (ha r' hr').2 q hq
  rw [Nat.add_assoc (31 * r) 1 (3 * q), Nat.add_assoc (31 * r), Nat.add_assoc (31 * r), hk _ (by omega), hk _ (by omega), hk _ (by omega)]
  rw [Nat.add_assoc (31 * r') 1 (3 * q), Nat.add_assoc (31 * r'), Nat.add_assoc (31 * r')] at g
  exact g
theorem cp_C {a b : Nat → Int32} {f g : Nat} (hf : f ≤ 3) (hg : g ≤ 3) (ha : mCho a) (h1 : ∀ i, i < 40 → b (40 * g + i) = a (40 * f + i)) (h2 : ∀ j, j < 40 * g ∨ 40 * g + 40 ≤ j → b j = a j) : mCho b := by
  have key : ∀ r, r < 8 → ∃ r', r' < 8 ∧ ∀ i, i < 20 → b (20 * r + i) = a (20 * r' + i) := by
    intro r hr
    by_cases hrg : r / 2 = g
    · refine ⟨2 * f + r % 2, by omega, fun i hi => ?_⟩
      have e := h1 (20 * (r % 2) + i) (by omega)
      rw [show 40 * g + (20 * (r % 2) + i) = 20 * r + i by omega, show 40 * f + (20 * (r % 2) + i) = 20 * (2 * f + r % 2) + i by omega] at e
      exact e
    · exact ⟨r, hr, fun i hi => h2 _ (by omega)⟩
  intro r hr
  obtain ⟨r', hr', hk⟩ := key r hr
  have e0 := hk 0 (by omega)
  rw [Nat.add_zero, Nat.add_zero] at e0
  refine ⟨by rw [e0]; exact (ha r' hr').1, by rw [hk 19 (by omega)]; exact (ha r' hr').2.1, fun q hq => ?_⟩
  have g := (ha r' hr').2.2 q hq
  rw [Nat.add_assoc (20 * r) 1 (2 * q), Nat.add_assoc (20 * r), hk _ (by omega), hk _ (by omega)]
  rw [Nat.add_assoc (20 * r') 1 (2 * q), Nat.add_assoc (20 * r')] at g
  exact g
theorem sp_copyAllT {t z fa fp mn l e s c : Nat → Int32} {f g : Nat} {post : (Nat → Int32) → (Nat → Int32) → (Nat → Int32) → (Nat → Int32) → (Nat → Int32) → (Nat → Int32) → (Nat → Int32) → (Nat → Int32) → (Nat → Int32) → Prop} (hf : f ≤ 3) (hg : g ≤ 3) (hne : ¬ f = g) (ht : ∀ j, iv (-128) 127 (t j)) (hz : ∀ j, iv 0 600 (z j)) (hm : ∀ j, iv 0 2 (mn j)) (hl : mLand l) (he : mEve e) (hs : mSig s) (hc : mCho c)
    (h : ∀ t z fa fp mn l e s c, (∀ j, iv (-128) 127 (t j)) → (∀ j, iv 0 600 (z j)) → (∀ j, iv 0 2 (mn j)) → mLand l → mEve e → mSig s → mCho c → post t z fa fp mn l e s c) : q_m_copyAll_0 t z fa fp mn l e s c (nI f) (nI g) post := by
  intro P hP
  have ef : (600 : Int32) * nI f = nI (600 * f) := pk_mul 600 f
  have eg : (600 : Int32) * nI g = nI (600 * g) := pk_mul 600 g
  have loop : ∀ (n i : Nat) (t : Nat → Int32), n + i = 600 → (∀ j, iv (-128) 127 (t j)) → P (nI i) t := by
    intro n
    induction n with
    | zero =>
      intro i t hi ht
      apply hP
      refine ⟨fun _ => ?_, fun h2 => absurd (nI_le (a := 600) (by omega) (by omega)) h2⟩
      exact sp_row2E hf hg hne fun z' z1 z2 => sp_row3E hf hg hne fun _ _ _ => sp_row4E hf hg hne fun _ _ _ => sp_row5E hf hg hne fun m' m1 m2 => sp_row6E hf hg hne fun l' l1 l2 => sp_row7E hf hg hne fun e' e1 e2 => sp_row8E hf hg hne fun s' s1 s2 => sp_row9E hf hg hne fun c' c1 c2 => h _ _ _ _ _ _ _ _ _ ht (cp_any hz z1 z2) (cp_any hm m1 m2) (cp_L hf hg hl l1 l2) (cp_E hf hg he e1 e2) (cp_S hf hg hs s1 s2) (cp_C hf hg hc c1 c2)
    | succ n ih =>
      intro i t hi ht
      apply hP
      refine ⟨fun h2 => absurd h2 (nI_ge (b := 600) (by omega) (by omega)), fun _ => ?_⟩
      rw [ef, eg, nI_add, nI_add]
      refine ⟨vp_in_nI (by omega) (by omega), fun v1 _ => ⟨vp_in_nI (by omega) (by omega), fun t1 e1 v2 e2 => ?_⟩⟩
      rw [e2, nI_1]
      exact ih (i + 1) t1 (by omega) (iv_updB e1 ht)
  exact loop 600 0 t rfl ht
theorem s_m_image_0 {f_code : Int32} {a_tape : Nat → Int32} {a_size : Nat → Int32} {a_fault : Nat → Int32} {a_faultPlace : Nat → Int32} {a_many : Nat → Int32} {a_lands : Nat → Int32} {a_evenings : Nat → Int32} {a_sights : Nat → Int32} {a_choirs : Nat → Int32} {a_kept : Nat → Int32} {x1 : Int32} {post : Int32 → (Int32) → (Nat → Int32) → (Nat → Int32) → (Nat → Int32) → (Nat → Int32) → (Nat → Int32) → (Nat → Int32) → (Nat → Int32) → (Nat → Int32) → (Nat → Int32) → (Nat → Int32) → Prop} (k_f_code : iv 0 0 f_code) (k_a_tape : ∀ j, iv (-128) 127 (a_tape j)) (k_a_size : ∀ j, iv 0 600 (a_size j)) (k_a_many : ∀ j, iv 0 2 (a_many j)) (k_a_lands : mLand a_lands) (k_a_evenings : mEve a_evenings) (k_a_sights : mSig a_sights) (k_a_choirs : mCho a_choirs) (k_a_kept : ∀ j, iv 0 1 (a_kept j)) (hpost : ∀ (r : Int32) (f_code : Int32) (a_tape : Nat → Int32) (a_size : Nat → Int32) (a_fault : Nat → Int32) (a_faultPlace : Nat → Int32) (a_many : Nat → Int32) (a_lands : Nat → Int32) (a_evenings : Nat → Int32) (a_sights : Nat → Int32) (a_choirs : Nat → Int32) (a_kept : Nat → Int32), (iv 0 0 f_code) → (∀ j, iv (-128) 127 (a_tape j)) → (∀ j, iv 0 600 (a_size j)) → (∀ j, iv 0 2 (a_many j)) → (mLand a_lands) → (mEve a_evenings) → (mSig a_sights) → (mCho a_choirs) → (∀ j, iv 0 1 (a_kept j)) → post r f_code a_tape a_size a_fault a_faultPlace a_many a_lands a_evenings a_sights a_choirs a_kept) : q_m_image_0 f_code a_tape a_size a_fault a_faultPlace a_many a_lands a_evenings a_sights a_choirs a_kept x1 post := by
  refine sp_in (fun _ => zi (hpost _ _ _ _ _ _ _ _ _ _ _ _ (iv_lit (by decide)) k_a_tape k_a_size k_a_many k_a_lands k_a_evenings k_a_sights k_a_choirs k_a_kept)) (fun a1 a2 => io ?_)
  obtain ⟨j, rfl, -, hj, hj2⟩ := iv_nI (iv_of (l := 0) (h := 2) rfl rfl a1 a2) (by omega)
  rw [nI_1]
  refine sp_copyAllT (f := 0) (by omega) (by omega) (by omega) k_a_tape k_a_size k_a_many k_a_lands k_a_evenings k_a_sights k_a_choirs (fun t z fa fp mn l e s c h1 h2 h3 h4 h5 h6 h7 => ⟨vp_in_nI (by omega) (by omega), fun kp ek => ?_⟩)
  exact hpost _ _ _ _ _ _ _ _ _ _ _ _ (iv_lit (by decide)) h1 h2 h3 h4 h5 h6 h7 (iv_updZ ek k_a_kept)
theorem s_m_again_0 {f_code : Int32} {a_tape : Nat → Int32} {a_size : Nat → Int32} {a_fault : Nat → Int32} {a_faultPlace : Nat → Int32} {a_many : Nat → Int32} {a_lands : Nat → Int32} {a_evenings : Nat → Int32} {a_sights : Nat → Int32} {a_choirs : Nat → Int32} {a_kept : Nat → Int32} {x1 : Int32} {post : Int32 → (Int32) → (Nat → Int32) → (Nat → Int32) → (Nat → Int32) → (Nat → Int32) → (Nat → Int32) → (Nat → Int32) → (Nat → Int32) → (Nat → Int32) → (Nat → Int32) → Prop} (k_f_code : iv 0 0 f_code) (k_a_tape : ∀ j, iv (-128) 127 (a_tape j)) (k_a_size : ∀ j, iv 0 600 (a_size j)) (k_a_many : ∀ j, iv 0 2 (a_many j)) (k_a_lands : mLand a_lands) (k_a_evenings : mEve a_evenings) (k_a_sights : mSig a_sights) (k_a_choirs : mCho a_choirs) (k_a_kept : ∀ j, iv 0 1 (a_kept j)) (hpost : ∀ (r : Int32) (f_code : Int32) (a_tape : Nat → Int32) (a_size : Nat → Int32) (a_fault : Nat → Int32) (a_faultPlace : Nat → Int32) (a_many : Nat → Int32) (a_lands : Nat → Int32) (a_evenings : Nat → Int32) (a_sights : Nat → Int32) (a_choirs : Nat → Int32), (iv 0 0 f_code) → (∀ j, iv (-128) 127 (a_tape j)) → (∀ j, iv 0 600 (a_size j)) → (∀ j, iv 0 2 (a_many j)) → (mLand a_lands) → (mEve a_evenings) → (mSig a_sights) → (mCho a_choirs) → post r f_code a_tape a_size a_fault a_faultPlace a_many a_lands a_evenings a_sights a_choirs) : q_m_again_0 f_code a_tape a_size a_fault a_faultPlace a_many a_lands a_evenings a_sights a_choirs a_kept x1 post := by
  have no := hpost 0 0 a_tape a_size a_fault a_faultPlace a_many a_lands a_evenings a_sights a_choirs (iv_lit (by decide)) k_a_tape k_a_size k_a_many k_a_lands k_a_evenings k_a_sights k_a_choirs
  refine sp_in (fun _ => iz no) (fun a1 a2 => oi ?_)
  obtain ⟨j, rfl, -, hj, hj2⟩ := iv_nI (iv_of (l := 0) (h := 2) rfl rfl a1 a2) (by omega)
  rw [nI_1]
  refine ⟨vp_in_nI (by omega) (by omega), fun _ => ?_, fun _ => no⟩
  exact sp_copyAllT (g := 0) (by omega) (by omega) (by omega) k_a_tape k_a_size k_a_many k_a_lands k_a_evenings k_a_sights k_a_choirs (fun t z fa fp mn l e s c h1 h2 h3 h4 h5 h6 h7 => hpost _ _ _ _ _ _ _ _ _ _ _ (iv_lit (by decide)) h1 h2 h3 h4 h5 h6 h7)
