theorem lz {A B C : Prop} (a : A) : ((0 : Nat) = 0 → A) ∧ ((0 : Nat) = 1 → B) ∧ (¬ (0 : Nat) = 0 → ¬ (0 : Nat) = 1 → C) := ⟨fun _ => a, fun h => absurd h (by decide), fun h => absurd rfl h⟩
theorem iz {A B : Prop} (a : A) : ((0 : Int32) = 0 → A) ∧ (¬ (0 : Int32) = 0 → B) := ⟨fun _ => a, fun h => absurd rfl h⟩
theorem zi {A B : Prop} (a : A) : (¬ (0 : Int32) = 0 → B) ∧ ((0 : Int32) = 0 → A) := ⟨fun h => absurd rfl h, fun _ => a⟩
theorem oi {A B : Prop} (b : B) : ((1 : Int32) = 0 → A) ∧ (¬ (1 : Int32) = 0 → B) := ⟨fun h => absurd h (by decide), fun _ => b⟩
theorem io {A B : Prop} (b : B) : (¬ (1 : Int32) = 0 → B) ∧ ((1 : Int32) = 0 → A) := ⟨fun _ => b, fun h => absurd h (by decide)⟩
theorem sp_in {x lo hi : Int32} {post : Int32 → Prop} (h0 : ¬ (lo ≤ x ∧ x ≤ hi) → post 0) (h1 : lo ≤ x → x ≤ hi → post 1) : q_m_in_0 x lo hi post := ⟨fun h => h0 (fun h2 => absurd h (Int32.not_lt.mpr h2.1)), fun h => ⟨fun h2 => h0 (fun h3 => absurd h2 (Int32.not_lt.mpr h3.2)), fun h2 => h1 (Int32.not_lt.mp h) (Int32.not_lt.mp h2)⟩⟩
/-- the greatest value at a place of a land's row -/
def mRh (j : Nat) : Int := if j = 0 then 9 else if j = 1 then 6 else if j ≤ 3 then 511 else if j = 4 then 4 else if j = 5 then 9 else if j = 6 then 10 else if j ≤ 15 then 99 else if j ≤ 24 then 9 else if j ≤ 30 then 8 else if j ≤ 36 then 9 else if j ≤ 42 then 31 else if j ≤ 50 then 8 else 9
def mLand (a : Nat → Int32) : Prop := (∀ r j, r < 8 → j < 132 → iv 0 (mRh j) (a (132 * r + j))) ∧ ∀ r, r < 8 → ¬ a (132 * r + 1) = 0 → ¬ a (132 * r) = 0
def mEve (a : Nat → Int32) : Prop := ∀ r, r < 8 → iv 0 40 (a (121 * r)) ∧ ∀ k, k < 40 → iv 0 5 (a (121 * r + 1 + 3 * k)) ∧ iv 0 5 (a (121 * r + 1 + 3 * k + 1)) ∧ iv (-1) 8 (a (121 * r + 1 + 3 * k + 2))
def mSig (a : Nat → Int32) : Prop := ∀ r, r < 8 → iv 0 10 (a (31 * r)) ∧ ∀ k, k < 10 → iv 0 1 (a (31 * r + 1 + 3 * k)) ∧ iv 0 8 (a (31 * r + 1 + 3 * k + 1)) ∧ iv 0 60 (a (31 * r + 1 + 3 * k + 2))
def mCho (a : Nat → Int32) : Prop := ∀ r, r < 8 → iv 0 9 (a (20 * r)) ∧ iv 0 9 (a (20 * r + 19)) ∧ ∀ k, k < 9 → iv 0 3 (a (20 * r + 1 + 2 * k)) ∧ iv 0 9 (a (20 * r + 1 + 2 * k + 1))
def mOK (l h a b : Int) : Bool := decide (0 ≤ l) && decide (h < 132) && (List.range 132).all (fun j => !(decide (l ≤ (j : Int)) && decide ((j : Int) ≤ h)) || (decide (a ≤ 0) && decide (mRh j ≤ b)))
theorem sp_of {a b l h : Int} {f : Nat → Int32} {ld x : Int32} {post : Int32 → Prop} (hL : mLand f) (hl : iv 0 1 ld) (hx : iv l h x) (hs : mOK l h a b = true) (hp : ∀ r, iv a b r → r = f (Int32.toNatClampNeg (((132 : Int32) * ld) + x)) → post r) : q_m_of_0 f ld x post := by
  unfold mOK at hs
  simp only [Bool.and_eq_true, decide_eq_true_eq] at hs
  obtain ⟨⟨s1, s2⟩, s3⟩ := hs
  obtain ⟨r, rfl, -, h2, hr⟩ := iv_nI hl (by omega)
  obtain ⟨j, rfl, h3, h4, hj⟩ := iv_nI hx s1
  have e : (132 : Int32) = nI 132 := rfl
  have hj2 : j < 132 := by omega
  have s4 := List.all_eq_true.mp s3 j (List.mem_range.mpr hj2)
  simp only [Bool.or_eq_true, Bool.and_eq_true, Bool.not_eq_true', Bool.and_eq_false_iff, decide_eq_true_eq, decide_eq_false_iff_not] at s4
  have s5 : a ≤ 0 ∧ mRh j ≤ b := by
    rcases s4 with (s4 | s4) | s4
    · omega
    · omega
    · exact s4
  have e2 : ((132 : Int32) * nI r) + nI j = nI (132 * r + j) := by rw [e, pk_mul, nI_add]
  refine ⟨by rw [e2]; exact vp_in_nI (by omega) (by omega), hp _ ?_ rfl⟩
  rw [e2, nI_clamp (by omega)]
  exact iv_w (hL.1 r j (by omega) hj2) s5
theorem sp_deeds {f : Nat → Int32} {e : Int32} {post : Int32 → Prop} (hE : mEve f) (he : iv 0 1 e) (hp : ∀ r, iv 0 40 r → post r) : q_m_deeds_0 f e post := by
  obtain ⟨r, rfl, -, h2, hr⟩ := iv_nI he (by omega)
  have e1 : (121 : Int32) = nI 121 := rfl
  unfold q_m_deeds_0
  rw [e1, pk_mul]
  refine ⟨vp_in_nI (by omega) (by omega), ?_⟩
  rw [nI_clamp (by omega)]
  exact hp _ (hE r (by omega)).1
theorem sp_facts {f : Nat → Int32} {e : Int32} {post : Int32 → Prop} (hE : mSig f) (he : iv 0 1 e) (hp : ∀ r, iv 0 10 r → post r) : q_m_facts_0 f e post := by
  obtain ⟨r, rfl, -, h2, hr⟩ := iv_nI he (by omega)
  have e1 : (31 : Int32) = nI 31 := rfl
  unfold q_m_facts_0
  rw [e1, pk_mul]
  refine ⟨vp_in_nI (by omega) (by omega), ?_⟩
  rw [nI_clamp (by omega)]
  exact hp _ (hE r (by omega)).1
theorem sp_stepOf {f : Nat → Int32} {e : Int32} {post : Int32 → Prop} (hE : mCho f) (he : iv 0 1 e) (hp : ∀ r, iv 0 9 r → post r) : q_m_stepOf_0 f e post := by
  obtain ⟨r, rfl, -, h2, hr⟩ := iv_nI he (by omega)
  have e1 : (20 : Int32) = nI 20 := rfl
  have e2 : (19 : Int32) = nI 19 := rfl
  unfold q_m_stepOf_0
  rw [e1, e2, pk_mul, nI_add]
  refine ⟨vp_in_nI (by omega) (by omega), ?_⟩
  rw [nI_clamp (by omega)]
  exact hp _ (hE r (by omega)).2.1
theorem cho_0 {f : Nat → Int32} {k : Int32} (hE : mCho f) (he : iv 0 1 k) : iv 0 9 (f (Int32.toNatClampNeg ((20 : Int32) * k))) := by
  obtain ⟨r, rfl, -, h2, hr⟩ := iv_nI he (by omega)
  have e1 : (20 : Int32) = nI 20 := rfl
  rw [e1, pk_mul, nI_clamp (by omega)]
  exact (hE r (by omega)).1
theorem ix3 (W : Nat) {r k w : Nat} : (((nI W * nI r) + 1) + ((3 : Int32) * nI k)) + nI w = nI (W * r + 1 + 3 * k + w) := by
  have e1 : (1 : Int32) = nI 1 := rfl
  have e3 : (3 : Int32) = nI 3 := rfl
  rw [e1, e3, pk_mul, pk_mul, nI_add, nI_add, nI_add]
theorem ix2 (W : Nat) {r k w : Nat} : (((nI W * nI r) + 1) + ((2 : Int32) * nI k)) + nI w = nI (W * r + 1 + 2 * k + w) := by
  have e1 : (1 : Int32) = nI 1 := rfl
  have e3 : (2 : Int32) = nI 2 := rfl
  rw [e1, e3, pk_mul, pk_mul, nI_add, nI_add, nI_add]
theorem sp_deedOf_n {f : Nat → Int32} {e k : Int32} {w : Nat} {l h : Int} {post : Int32 → Prop} (hE : mEve f) (he : iv 0 1 e) (hk : iv 0 39 k) (hw : w ≤ 2) (hr : ∀ r k, r < 8 → k < 40 → iv l h (f (121 * r + 1 + 3 * k + w))) (hp : ∀ r, iv l h r → post r) : q_m_deedOf_0 f e k (nI w) post := by
  obtain ⟨r, rfl, -, h2, hr2⟩ := iv_nI he (by omega)
  obtain ⟨j, rfl, h3, h4, hj⟩ := iv_nI hk (by omega)
  have e1 : (121 : Int32) = nI 121 := rfl
  unfold q_m_deedOf_0
  rw [e1, ix3 121]
  refine ⟨vp_in_nI (by omega) (by omega), ?_⟩
  rw [nI_clamp (by omega)]
  exact hp _ (hr r j (by omega) (by omega))
theorem sp_deedOf_0 {f : Nat → Int32} {e k : Int32} {post : Int32 → Prop} (hE : mEve f) (he : iv 0 1 e) (hk : iv 0 39 k) (hp : ∀ r, iv 0 5 r → post r) : q_m_deedOf_0 f e k 0 post := sp_deedOf_n (w := 0) hE he hk (by omega) (fun r k hr hk => ((hE r hr).2 k hk).1) hp
theorem sp_deedOf_1 {f : Nat → Int32} {e k : Int32} {post : Int32 → Prop} (hE : mEve f) (he : iv 0 1 e) (hk : iv 0 39 k) (hp : ∀ r, iv 0 5 r → post r) : q_m_deedOf_0 f e k 1 post := sp_deedOf_n (w := 1) hE he hk (by omega) (fun r k hr hk => ((hE r hr).2 k hk).2.1) hp
theorem sp_deedOf_2 {f : Nat → Int32} {e k : Int32} {post : Int32 → Prop} (hE : mEve f) (he : iv 0 1 e) (hk : iv 0 39 k) (hp : ∀ r, iv (-1) 8 r → post r) : q_m_deedOf_0 f e k 2 post := sp_deedOf_n (w := 2) hE he hk (by omega) (fun r k hr hk => ((hE r hr).2 k hk).2.2) hp
theorem iv_012 {w : Int32} (hw : iv 0 2 w) : w = 0 ∨ w = 1 ∨ w = 2 := by
  obtain ⟨h1, h2⟩ := hw
  rcases (show w.toInt = 0 ∨ w.toInt = 1 ∨ w.toInt = 2 by omega) with h | h | h
  · exact Or.inl (Int32.toInt_inj.mp h)
  · exact Or.inr (Or.inl (Int32.toInt_inj.mp h))
  · exact Or.inr (Or.inr (Int32.toInt_inj.mp h))
theorem sp_deedOf_w {f : Nat → Int32} {e k w : Int32} {post : Int32 → Prop} (hE : mEve f) (he : iv 0 1 e) (hk : iv 0 39 k) (hw : iv 0 2 w) (hp : ∀ r, iv (-1) 8 r → post r) : q_m_deedOf_0 f e k w post := by
  rcases iv_012 hw with h | h | h <;> subst h
  · exact sp_deedOf_0 hE he hk (fun r hr => hp r (iv_w hr (by decide)))
  · exact sp_deedOf_1 hE he hk (fun r hr => hp r (iv_w hr (by decide)))
  · exact sp_deedOf_2 hE he hk hp
theorem sp_factOf_n {f : Nat → Int32} {e k : Int32} {w : Nat} {l h : Int} {post : Int32 → Prop} (hE : mSig f) (he : iv 0 1 e) (hk : iv 0 9 k) (hw : w ≤ 2) (hr : ∀ r k, r < 8 → k < 10 → iv l h (f (31 * r + 1 + 3 * k + w))) (hp : ∀ r, iv l h r → post r) : q_m_factOf_0 f e k (nI w) post := by
  obtain ⟨r, rfl, -, h2, hr2⟩ := iv_nI he (by omega)
  obtain ⟨j, rfl, h3, h4, hj⟩ := iv_nI hk (by omega)
  have e1 : (31 : Int32) = nI 31 := rfl
  unfold q_m_factOf_0
  rw [e1, ix3 31]
  refine ⟨vp_in_nI (by omega) (by omega), ?_⟩
  rw [nI_clamp (by omega)]
  exact hp _ (hr r j (by omega) (by omega))
theorem sp_factOf_0 {f : Nat → Int32} {e k : Int32} {post : Int32 → Prop} (hE : mSig f) (he : iv 0 1 e) (hk : iv 0 9 k) (hp : ∀ r, iv 0 1 r → post r) : q_m_factOf_0 f e k 0 post := sp_factOf_n (w := 0) hE he hk (by omega) (fun r k hr hk => ((hE r hr).2 k hk).1) hp
theorem sp_factOf_1 {f : Nat → Int32} {e k : Int32} {post : Int32 → Prop} (hE : mSig f) (he : iv 0 1 e) (hk : iv 0 9 k) (hp : ∀ r, iv 0 8 r → post r) : q_m_factOf_0 f e k 1 post := sp_factOf_n (w := 1) hE he hk (by omega) (fun r k hr hk => ((hE r hr).2 k hk).2.1) hp
theorem sp_factOf_2 {f : Nat → Int32} {e k : Int32} {post : Int32 → Prop} (hE : mSig f) (he : iv 0 1 e) (hk : iv 0 9 k) (hp : ∀ r, iv 0 60 r → post r) : q_m_factOf_0 f e k 2 post := sp_factOf_n (w := 2) hE he hk (by omega) (fun r k hr hk => ((hE r hr).2 k hk).2.2) hp
theorem sp_factOf_w {f : Nat → Int32} {e k w : Int32} {post : Int32 → Prop} (hE : mSig f) (he : iv 0 1 e) (hk : iv 0 9 k) (hw : iv 0 2 w) (hp : ∀ r, iv 0 60 r → post r) : q_m_factOf_0 f e k w post := by
  rcases iv_012 hw with h | h | h <;> subst h
  · exact sp_factOf_0 hE he hk (fun r hr => hp r (iv_w hr (by decide)))
  · exact sp_factOf_1 hE he hk (fun r hr => hp r (iv_w hr (by decide)))
  · exact sp_factOf_2 hE he hk hp
theorem sp_voice_n {f : Nat → Int32} {e k : Int32} {w : Nat} {l h : Int} {post : Int32 → Prop} (hE : mCho f) (he : iv 0 1 e) (hk : iv 0 8 k) (hw : w ≤ 1) (hr : ∀ r k, r < 8 → k < 9 → iv l h (f (20 * r + 1 + 2 * k + w))) (hp : ∀ r, iv l h r → post r) : q_m_voice_0 f e k (nI w) post := by
  obtain ⟨r, rfl, -, h2, hr2⟩ := iv_nI he (by omega)
  obtain ⟨j, rfl, h3, h4, hj⟩ := iv_nI hk (by omega)
  have e1 : (20 : Int32) = nI 20 := rfl
  unfold q_m_voice_0
  rw [e1, ix2 20]
  refine ⟨vp_in_nI (by omega) (by omega), ?_⟩
  rw [nI_clamp (by omega)]
  exact hp _ (hr r j (by omega) (by omega))
theorem sp_voice_0 {f : Nat → Int32} {e k : Int32} {post : Int32 → Prop} (hE : mCho f) (he : iv 0 1 e) (hk : iv 0 8 k) (hp : ∀ r, iv 0 3 r → post r) : q_m_voice_0 f e k 0 post := sp_voice_n (w := 0) hE he hk (by omega) (fun r k hr hk => ((hE r hr).2.2 k hk).1) hp
theorem sp_voice_1 {f : Nat → Int32} {e k : Int32} {post : Int32 → Prop} (hE : mCho f) (he : iv 0 1 e) (hk : iv 0 8 k) (hp : ∀ r, iv 0 9 r → post r) : q_m_voice_0 f e k 1 post := sp_voice_n (w := 1) hE he hk (by omega) (fun r k hr hk => ((hE r hr).2.2 k hk).2) hp
theorem hut1 {f : Nat → Int32} {ld h s : Int32} (hL : mLand f) (hl : iv 0 1 ld) (hh : iv 0 9 h) (e1 : h = f (Int32.toNatClampNeg (((132 : Int32) * ld) + 0))) (e2 : s = f (Int32.toNatClampNeg (((132 : Int32) * ld) + 1))) (hs : ¬ s = 0) : iv 1 9 h := by
  obtain ⟨r, rfl, -, h2, hr⟩ := iv_nI hl (by omega)
  have e : (132 : Int32) = nI 132 := rfl
  have a0 : (0 : Int32) = nI 0 := rfl
  have a1 : (1 : Int32) = nI 1 := rfl
  rw [e, a0, pk_mul, nI_add, nI_clamp (by omega)] at e1
  rw [e, a1, pk_mul, nI_add, nI_clamp (by omega)] at e2
  have h3 := hL.2 r (by omega) (by rw [← e2]; exact hs)
  have h4 : ¬ h = 0 := by rw [e1]; exact h3
  exact iv_ne h4 hh (iv_lit (l := 0) (h := 0) (by decide)) (by decide)
theorem zc_aux : True := trivial
def zc (f : Nat → Int32) : Nat → Nat
  | 0 => 0
  | n + 1 => zc f n + (if f n = 0 then 1 else 0)
theorem zc_pos {f : Nat → Int32} : ∀ {n : Nat}, 0 < zc f n → ∃ h, h < n ∧ f h = 0
  | 0, h => absurd h (by unfold zc; omega)
  | n + 1, h => by
    by_cases hn : f n = 0
    · exact ⟨n, by omega, hn⟩
    · unfold zc at h
      rw [if_neg hn] at h
      obtain ⟨k, hk, e⟩ := zc_pos (n := n) (by omega)
      exact ⟨k, by omega, e⟩
theorem zc_all {f : Nat → Int32} : ∀ {n : Nat}, (∀ h, h < n → f h = 0) → zc f n = n
  | 0, _ => rfl
  | n + 1, h => by
    unfold zc
    rw [zc_all (n := n) (fun k hk => h k (by omega)), if_pos (h n (by omega))]
theorem zc_out {f : Nat → Int32} {a : Nat} {v : Int32} : ∀ {n : Nat}, n ≤ a → zc (upd f a v) n = zc f n
  | 0, _ => rfl
  | n + 1, h => by
    unfold zc
    rw [zc_out (n := n) (by omega)]
    have e : upd f a v n = f n := by unfold upd; rw [if_neg (by omega)]
    rw [e]
theorem zc_upd {f : Nat → Int32} {a : Nat} {v : Int32} (ha : f a = 0) (hv : ¬ v = 0) : ∀ {n : Nat}, a < n → zc (upd f a v) n + 1 = zc f n
  | 0, h => absurd h (by omega)
  | n + 1, h => by
    by_cases hn : a = n
    · subst hn
      unfold zc
      rw [zc_out (Nat.le_refl _)]
      have e : upd f a v a = v := by unfold upd; rw [if_pos rfl]
      rw [e, if_neg hv, if_pos ha]
    · unfold zc
      have e : upd f a v n = f n := by unfold upd; rw [if_neg (by omega)]
      have := zc_upd ha hv (n := n) (by omega)
      rw [e]
      omega
theorem sp_height {f : Nat → Int32} {ld h : Int32} {post : Int32 → Prop} (hL : mLand f) (hl : iv 0 1 ld) (hh : iv 0 8 h) (hp : ∀ r, post r) : q_m_height_0 f ld h post := sp_of (a := 0) (b := 99) hL hl (iv_add (l := 7) (h := 15) (iv_lit (l := 7) (h := 7) (by decide)) hh (by decide)) (by decide +kernel) (fun r _ _ => hp r)
theorem sp_isDam {f : Nat → Int32} {ld h : Int32} {post : Int32 → Prop} (hL : mLand f) (hl : iv 0 1 ld) (h0 : post 0) (h1 : post 1) : q_m_isDam_0 f ld h post := sp_of (a := 0) (b := 511) hL hl (iv_lit (l := 3) (h := 3) (by decide)) (by decide +kernel) (fun _ _ _ => ⟨fun _ => ⟨rfl, h0⟩, fun _ => ⟨rfl, h1⟩⟩)
theorem sp_high {f at_ cl : Nat → Int32} {ld s : Int32} {post : Int32 → Prop} (hL : mLand f) (hl : iv 0 1 ld) (ha : ∀ j, iv 0 8 (at_ j)) (hs : iv 0 5 s) (hp : ∀ r, post r) : q_m_high_0 f ld at_ cl s post := by
  refine ⟨iv_in hs (by decide), sp_height hL hl (ha _) (fun r1 => ?_)⟩
  refine sp_of (a := 0) (b := 9) hL hl (iv_add (l := 31) (h := 36) (iv_lit (l := 31) (h := 31) (by decide)) hs (by decide)) (by decide +kernel) (fun r2 _ _ => ?_)
  refine ⟨iv_in hs (by decide), iv_in hs (by decide), ?_⟩
  exact sp_of (a := 0) (b := 9) hL hl (iv_add (l := 16) (h := 24) (iv_lit (l := 16) (h := 16) (by decide)) (ha _) (by decide)) (by decide +kernel) (fun r3 _ _ => hp _)
