theorem de_ne {a b : Nat} (h : ¬ b = a) : decide (a = b) = false := decide_eq_false (fun h2 => h h2.symm)
theorem eve_iv {M : Nat → Nat → Int32} {e j : Nat} (hE : mEve (M 6)) (he : e < 2) (hj : j < 40) : iv 0 5 (rowM M 1 (nI e) (1 + 3 * j)) ∧ iv 0 5 (rowM M 1 (nI e) (2 + 3 * j)) ∧ iv (-1) 8 (rowM M 1 (nI e) (3 + 3 * j)) := by
  have g := (hE e (by omega)).2 j hj
  have w : ∀ i, rowM M 1 (nI e) i = M 6 (121 * e + i) := by
    intro i
    unfold rowM
    rw [nI_clamp (by omega)]
    rfl
  rw [w, w, w]
  rw [show 121 * e + (1 + 3 * j) = 121 * e + 1 + 3 * j by omega, show 121 * e + (2 + 3 * j) = 121 * e + 1 + 3 * j + 1 by omega, show 121 * e + (3 + 3 * j) = 121 * e + 1 + 3 * j + 2 by omega]
  exact g
theorem iv_k5 {K : Int32} (hK : iv 0 5 K) (h : K.toInt < 0 ∨ 4 < K.toInt) : K = 5 := by
  apply Int32.toInt_inj.mp
  have := hK.1
  have := hK.2
  have e5 : (5 : Int32).toInt = 5 := rfl
  omega
theorem e_beginM {M : Nat → Nat → Int32} {at_ kn cl sn : Nat → Int32} {be mi av : Int32} {k : Nat} {post : (Nat → Int32) → (Nat → Int32) → (Nat → Int32) → (Nat → Int32) → Int32 → Int32 → Int32 → Prop} (hk : k < 2)
    (hp : ∀ at1 kn1 cl1 sn1, (∀ j, j < 6 → at1 j = tdM M k (25 + j) ∧ kn1 j = tdM M k (37 + j) ∧ cl1 j = 0) → (∀ j, j < 9 → sn1 j = 0) → post at1 kn1 cl1 sn1 0 0 0) : q_m_begin_0 (M 5) (nI k) at_ kn cl sn be mi av post := by
  intro P hP
  have loop : ∀ m i (at1 kn1 cl1 : Nat → Int32), m = 6 - i → i ≤ 6 → (∀ j, j < i → at1 j = tdM M k (25 + j) ∧ kn1 j = tdM M k (37 + j) ∧ cl1 j = 0) → P (nI i) at1 kn1 cl1 := by
    intro m
    induction m using Nat.strongRecOn with
    | ind m ih =>
      intro i at1 kn1 cl1 hm hi hI
      apply hP
      refine pk_le 6 i (fun h6 => ?_) (fun h6 => ?_)
      · have e6 : i = 6 := by omega
        subst e6
        intro P2 hP2
        have loop2 : ∀ m i (sn1 : Nat → Int32), m = 9 - i → i ≤ 9 → (∀ j, j < i → sn1 j = 0) → P2 (nI i) sn1 := by
          intro m
          induction m using Nat.strongRecOn with
          | ind m ih2 =>
            intro i sn1 hm hi hS
            apply hP2
            refine pk_le 9 i (fun h9 => ?_) (fun h9 => ⟨vp_in_nI h9 (by omega), fun sn2 e1 v e2 => ?_⟩)
            · exact hp at1 kn1 cl1 sn1 hI (fun j hj => hS j (by omega))
            · rw [e2, nI_1]
              refine ih2 (9 - (i + 1)) (by omega) (i + 1) sn2 rfl (by omega) (fun j hj => ?_)
              rw [e1, nI_clamp (by omega)]
              by_cases hji : j = i
              · rw [hji, up_s]
              · rw [up_n hji]; exact hS j (by omega)
        exact loop2 _ 0 sn rfl (by omega) (fun j hj => absurd hj (by omega))
      · have hin : vp_in (nI i) 6 := vp_in_nI h6 (by omega)
        refine e_of (i := 25 + i) hk (by omega) (jx 25 i) ⟨hin, fun at2 e1 => ?_⟩
        refine e_of (i := 37 + i) hk (by omega) (jx 37 i) ⟨hin, fun kn2 e2 => ⟨hin, fun cl2 e3 v e4 => ?_⟩⟩
        rw [nI_clamp (by omega)] at e1 e2 e3
        rw [e4, nI_1]
        refine ih (6 - (i + 1)) (by omega) (i + 1) at2 kn2 cl2 rfl (by omega) (fun j hj => ?_)
        by_cases hji : j = i
        · subst hji
          rw [e1, e2, e3, up_s, up_s, up_s]
          exact ⟨rfl, rfl, rfl⟩
        · rw [e1, e2, e3, up_n hji, up_n hji, up_n hji]
          exact hI j (by omega)
  exact loop _ 0 at_ kn cl rfl (by omega) (fun j hj => absurd hj (by omega))
theorem e_doesM {M : Nat → Nat → Int32} {k e j : Nat} {at_ kn cl sn lv : Nat → Int32} {be mi av : Int32} {post : NT} (hk : k < 2) (he : e < 2) (hj : j < 40) (hL : mLand (M 5)) (hE : mEve (M 6)) (ha : ∀ j, j < 6 → iv 0 8 (at_ j)) (hkn : ∀ j, j < 6 → iv 0 31 (kn j))
    (hp : nP post (bI (actR (tdM M k) (rowM M 1 (nI e)) j at_ kn cl sn lv be mi av).1) (actR (tdM M k) (rowM M 1 (nI e)) j at_ kn cl sn lv be mi av).2) : q_m_does_0 (M 5) (M 6) (nI k) (tdM M k 0) (tdM M k 1) (nI e) at_ kn cl sn lv be mi av (nI j) post := by
  have hs1 : iv 0 6 (tdM M k 1) := row_iv hL hk (by omega)
  obtain ⟨hK, hS, hX⟩ := eve_iv hE he hj
  unfold actR at hp
  generalize eK : rowM M 1 (nI e) (1 + 3 * j) = K at hp hK
  generalize eS : rowM M 1 (nI e) (2 + 3 * j) = s at hp hS
  generalize eX : rowM M 1 (nI e) (3 + 3 * j) = x at hp hX
  have dK : ∀ {post : Int32 → Prop}, post K → q_m_deedOf_0 (M 6) (nI e) (nI j) 0 post := fun h => e_deedOfM he hj (i := 0) (by omega) rfl (by rw [Nat.add_zero, eK]; exact h)
  have dS : ∀ {post : Int32 → Prop}, post s → q_m_deedOf_0 (M 6) (nI e) (nI j) 1 post := fun h => e_deedOfM he hj (i := 1) (by omega) rfl (by rw [show 1 + 3 * j + 1 = 2 + 3 * j by omega, eS]; exact h)
  have dX : ∀ {post : Int32 → Prop}, post x → q_m_deedOf_0 (M 6) (nI e) (nI j) 2 post := fun h => e_deedOfM he hj (i := 2) (by omega) rfl (by rw [show 1 + 3 * j + 2 = 3 + 3 * j by omega, eX]; exact h)
  clear eS eX
  refine dS (dX ?_)
  unfold q_m_isSinger_0
  unfold act at hp
  refine sp_in (fun hn => ⟨rfl, zi ?_⟩) (fun g1 g2 => ⟨rfl, io ?_⟩)
  · rw [if_pos (fun h9 => hn ((in_lt (iv_w hs1 (by decide))).mpr h9))] at hp
    exact hp
  · have hlt := (in_lt (iv_w hs1 (by decide))).mp ⟨g1, g2⟩
    rw [if_neg (fun h9 => h9 hlt)] at hp
    obtain ⟨s', hs', es⟩ := lt_nI (m := 6) hs1 hlt
    subst es
    rw [cN_nI (by omega)] at hp
    have hin : vp_in (nI s') 6 := vp_in_nI hs' (by omega)
    refine dK ⟨fun hd => ?_, fun h0 => ?_, fun h1 => ?_, fun h2 => ?_, fun h3 => ?_, fun h4 => ?_⟩
    · have h5 : K = 5 := iv_k5 hK hd
      subst h5
      rw [if_neg (by decide), if_neg (by decide), if_neg (by decide), if_neg (by decide)] at hp
      refine ⟨hin, ?_⟩
      rw [nI_clamp (by omega)]
      refine ⟨fun hne => ⟨hin, fun c2 e2 => ?_⟩, fun he0 => ?_⟩
      · rw [if_pos hne] at hp
        rw [e2]
        exact hp
      · rw [if_neg (fun h9 => h9 he0)] at hp
        exact hp
    · subst h0
      rw [if_pos rfl] at hp
      refine e_mayBeginM hk hs' (ha s' hs') (hkn s' hs') hX (fun hf => zi ?_) (fun ht => io ?_)
      · rw [if_neg (by rw [hf]; decide)] at hp
        exact hp
      · rw [if_pos ht] at hp
        obtain ⟨t, ht5, ex⟩ := mayR_x ht
        subst ex
        rw [cN_nI (by omega)] at hp
        exact e_soundsM hk hs' ht5 hL ha hp
    · subst h1
      rw [if_neg (by decide), if_pos (Or.inl rfl)] at hp
      refine e_maySingM hk hs' (ha s' hs') (hkn s' hs') hX (fun hf => zi ?_) (fun ht => io ?_)
      · rw [if_neg (by rw [hf]; decide)] at hp
        exact hp
      · rw [if_pos ht] at hp
        obtain ⟨t, ht5, ex⟩ := mayR_x ht
        subst ex
        rw [cN_nI (by omega)] at hp
        refine dK ⟨fun _ => ?_, fun h9 => absurd h9 (by decide)⟩
        exact e_singsM (w := false) hk hs' ht5 hL ha rfl (fun g eg => by rw [eg]; exact hp)
    · subst h2
      rw [if_neg (by decide), if_pos (Or.inr rfl)] at hp
      refine e_maySingM hk hs' (ha s' hs') (hkn s' hs') hX (fun hf => zi ?_) (fun ht => io ?_)
      · rw [if_neg (by rw [hf]; decide)] at hp
        exact hp
      · rw [if_pos ht] at hp
        obtain ⟨t, ht5, ex⟩ := mayR_x ht
        subst ex
        rw [cN_nI (by omega)] at hp
        refine dK ⟨fun h9 => absurd rfl h9, fun _ => ?_⟩
        exact e_singsM (w := true) hk hs' ht5 hL ha rfl (fun g eg => by rw [eg]; exact hp)
    · subst h3
      rw [if_neg (by decide), if_neg (by decide), if_pos rfl] at hp
      refine e_walksM hk hs' hL (ha s' hs') (fun hf => ⟨rfl, ?_⟩) (fun ht => ⟨rfl, ?_⟩)
      · rw [if_neg (by rw [hf]; decide)] at hp
        exact hp
      · rw [if_pos ht] at hp
        exact hp
    · subst h4
      rw [if_neg (by decide), if_neg (by decide), if_neg (by decide), if_pos rfl] at hp
      obtain ⟨a, ea, -, ha8, -⟩ := iv_nI (ha s' hs') (by decide)
      rw [ea, cN_nI (by omega)] at hp
      refine ⟨hin, ?_⟩
      rw [nI_clamp (by omega), ea]
      refine e_of (i := 16 + a) hk (by omega) (jx 16 a) ⟨fun hz => ?_, fun hz => ⟨hin, fun hc => ⟨hin, fun c2 e2 => ?_⟩, fun hc => ?_⟩⟩
      · rw [if_neg (fun h9 => h9.1 hz)] at hp
        exact hp
      · rw [if_pos ⟨hz, hc⟩] at hp
        rw [e2]
        exact hp
      · rw [if_neg (fun h9 => h9.2 hc)] at hp
        exact hp
/-- a state, packed -/
def actS (td : Nat → Int32) (k s x : Int32) (S : Nat → Nat → Int32) : Bool × (Nat → Nat → Int32) := act td k s x (S 0) (S 1) (S 2) (S 3) (S 4) (S 5 0) (S 5 1) (S 5 2)
/-- a land's row, as told -/
def RNG (td : Nat → Int32) : Prop := ∀ j, j < 132 → iv 0 (mRh j) (td j)
def LOK (td : Nat → Int32) : Prop := (∀ s : Nat, s < 6 → nI s < td 1 → td (25 + s) < td 0) ∧ (∀ k : Nat, k < 4 → nI k < td 4 → td (43 + 2 * k) < td 0 ∧ td (44 + 2 * k) < td 0) ∧ ∀ h : Nat, h < 32 → hb (td 2) h = true → nI h < td 0
/-- a state's ranges -/
def NOK (td : Nat → Int32) (S : Nat → Nat → Int32) : Prop := (∀ j, j < 6 → iv 0 8 (S 0 j)) ∧ (∀ j, j < 6 → iv 0 31 (S 1 j)) ∧ (∀ j, j < 6 → S 2 j = 0 ∨ S 2 j = 1) ∧ iv 0 31 (S 5 0) ∧ (∀ j, j < 6 → nI j < td 1 → S 0 j < td 0) ∧ (∀ t, t < 5 → iv (-9) 108 (S 4 t)) ∧ (∀ t, t < 5 → hb (S 5 0) t = false → S 4 t = -1)
/-- two states are alike in what they show -/
def AGs (S' S : Nat → Nat → Int32) : Prop := (∀ j, j < 6 → S' 0 j = S 0 j ∧ S' 1 j = S 1 j ∧ S' 2 j = S 2 j) ∧ (∀ j, j < 9 → S' 3 j = S 3 j) ∧ (∀ t, t < 5 → hb (S 5 0) t = true → S' 4 t = S 4 t) ∧ S' 5 0 = S 5 0 ∧ S' 5 1 = S 5 1 ∧ S' 5 2 = S 5 2
theorem bit5 : ∀ t, t < 5 → iv 0 31 (bitI t) := by
  intro t ht
  have : t = 0 ∨ t = 1 ∨ t = 2 ∨ t = 3 ∨ t = 4 := by omega
  rcases this with rfl | rfl | rfl | rfl | rfl <;> exact iv_lit (by decide)
theorem hgh_iv {td : Nat → Int32} {at_ cl : Nat → Int32} {s : Nat} (hR : RNG td) (hs : s < 6) (ha : iv 0 8 (at_ s)) (hc : cl s = 0 ∨ cl s = 1) : iv (-9) 108 (hgh td at_ cl s) := by
  obtain ⟨a, ea, -, ha8, -⟩ := iv_nI ha (by decide)
  unfold hgh
  rw [ea, cN_nI (by omega)]
  have r1 : iv 0 99 (td (7 + a)) := iv_w (hR (7 + a) (by omega)) (by
    have h2 : a = 0 ∨ a = 1 ∨ a = 2 ∨ a = 3 ∨ a = 4 ∨ a = 5 ∨ a = 6 ∨ a = 7 ∨ a = 8 := by omega
    rcases h2 with rfl | rfl | rfl | rfl | rfl | rfl | rfl | rfl | rfl <;> decide)
  have r2 : iv 0 9 (td (31 + s)) := iv_w (hR (31 + s) (by omega)) (by
    have h2 : s = 0 ∨ s = 1 ∨ s = 2 ∨ s = 3 ∨ s = 4 ∨ s = 5 := by omega
    rcases h2 with rfl | rfl | rfl | rfl | rfl | rfl <;> decide)
  have r3 : iv 0 9 (td (16 + a)) := iv_w (hR (16 + a) (by omega)) (by
    have h2 : a = 0 ∨ a = 1 ∨ a = 2 ∨ a = 3 ∨ a = 4 ∨ a = 5 ∨ a = 6 ∨ a = 7 ∨ a = 8 := by omega
    rcases h2 with rfl | rfl | rfl | rfl | rfl | rfl | rfl | rfl | rfl <;> decide)
  have r4 : iv 0 9 (cl s * td (16 + a)) := by
    rcases hc with e | e
    · rw [e, Int32.zero_mul]; exact iv_lit (by decide)
    · rw [e, Int32.one_mul]; exact r3
  exact iv_add (l := -9) (h := 108) (iv_sub (l := -9) (h := 99) r1 r2 (by decide)) r4 (by decide)
