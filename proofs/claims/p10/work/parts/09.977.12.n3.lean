/-- the land's row of the reference -/
abbrev tdM (M : Nat → Nat → Int32) (k : Nat) : Nat → Int32 := rowM M 0 (nI k)
theorem cN_nI {n : Nat} (h : n < 2 ^ 31) : cN (nI n) = n := nI_clamp h
theorem e_highM {M : Nat → Nat → Int32} {at_ cl : Nat → Int32} {k s : Nat} {post : Int32 → Prop} (hk : k < 2) (hs : s < 6) (ha : iv 0 8 (at_ s)) (hp : post (hgh (tdM M k) at_ cl s)) : q_m_high_0 (M 5) (nI k) at_ cl (nI s) post := by
  have hin : vp_in (nI s) 6 := vp_in_nI hs (by omega)
  obtain ⟨a, ea, -, ha8, -⟩ := iv_nI ha (by decide)
  unfold hgh at hp
  rw [ea, cN_nI (by omega)] at hp
  refine ⟨hin, ?_⟩
  rw [nI_clamp (by omega), ea]
  refine e_of (i := 7 + a) hk (by omega) (jx 7 a) ?_
  refine e_of (i := 31 + s) hk (by omega) (jx 31 s) ⟨hin, hin, ?_⟩
  exact e_of (i := 16 + a) hk (by omega) (jx 16 a) hp
theorem e_damM {M : Nat → Nat → Int32} {k h : Nat} {post : Int32 → Prop} (hk : k < 2) (hh : h < 31) (h0 : dam (tdM M k) h = false → post 0) (h1 : dam (tdM M k) h = true → post 1) : q_m_isDam_0 (M 5) (nI k) (nI h) post :=
  e_of (i := 3) hk (by omega) rfl (e_hasM hh (fun e => ⟨rfl, h0 e⟩) (fun e => ⟨rfl, h1 e⟩))
theorem e_cutM {M : Nat → Nat → Int32} {sn : Nat → Int32} {k h : Nat} {post : Int32 → Prop} (hk : k < 2) (hh : h < 9) (h0 : sn h < tdM M k 5 → post 0) (h1 : ¬ sn h < tdM M k 5 → post 1) : q_m_isCut_0 (M 5) (nI k) sn (nI h) post := by
  refine ⟨vp_in_nI hh (by omega), e_of (i := 5) hk (by omega) rfl ?_⟩
  rw [nI_clamp (by omega)]
  exact ⟨h0, h1⟩
theorem e_hearM {M : Nat → Nat → Int32} {k h : Nat} {post : Int32 → Prop} (hk : k < 2) (hh : h < 9) (hL : mLand (M 5)) (hp : ∀ set, (∀ x, x < 31 → hb set x = hear (tdM M k) h x) → post set) : q_m_hearing_0 (M 5) (nI k) (nI h) post := by
  have h4 : iv 0 4 (tdM M k 4) := row_iv hL hk (by omega)
  obtain ⟨c, hc, -, hc4, -⟩ := iv_nI h4 (by decide)
  intro v ev P hP
  have loop : ∀ m j (x2 : Int32), m + j = c → (∀ x, x < 31 → hb x2 x = (decide (x = h) || ech (tdM M k) h x j)) → P x2 (nI j) := by
    intro m
    induction m with
    | zero =>
      intro j x2 hj hx
      apply hP
      refine e_of (i := 4) hk (by omega) rfl ?_
      rw [show rowM M 0 (nI k) 4 = nI c from hc]
      refine pk_le c j (fun _ => e_of (i := 3) hk (by omega) rfl (hp _ (fun x hx9 => ?_))) (fun h9 => absurd h9 (by omega))
      rw [hb_and, hb_not _ (by omega), hx x hx9]
      unfold hear
      rw [hc, cN_nI (by omega), show c = j by omega, Bool.and_comm]
      rfl
    | succ m ih =>
      intro j x2 hj hx
      apply hP
      refine e_of (i := 4) hk (by omega) rfl ?_
      rw [show rowM M 0 (nI k) 4 = nI c from hc]
      refine pk_le c j (fun h9 => absurd h9 (by omega)) (fun _ => ?_)
      have hi : (43 : Int32) + 2 * nI j = nI (43 + 2 * j) := by rw [show (43 : Int32) = nI 43 from rfl, show (2 : Int32) = nI 2 from rfl, pk_mul, nI_add]
      have st : ∀ y : Int32, (∀ x, x < 31 → hb y x = (decide (tdM M k (43 + 2 * j) = nI h) && decide (tdM M k (44 + 2 * j) = nI x))) → q_m_hearing_48 P (M 5) (nI k) (nI h) (nI j) x2 y post := by
        intro y hy v1 e1 v2 e2
        rw [e1, e2, nI_1]
        refine ih (j + 1) _ (by omega) (fun x hx9 => ?_)
        rw [hb_or, hx x hx9, hy x hx9]
        show _ = (decide (x = h) || (ech (tdM M k) h x j || _))
        rw [Bool.or_assoc]
      refine e_of (i := 43 + 2 * j) hk (by omega) hi ⟨fun hne => st 0 (fun x hx9 => ?_), fun he => ?_⟩
      · rw [hb_0, decide_eq_false hne]; rfl
      · have hy8 : iv 0 8 (tdM M k (44 + 2 * j)) := iv_w (row_iv hL hk (by omega)) (by
          have : mRh (44 + 2 * j) = 8 := by
            have hj4 : j < 4 := by omega
            have hc : j = 0 ∨ j = 1 ∨ j = 2 ∨ j = 3 := by omega
            rcases hc with rfl | rfl | rfl | rfl <;> decide
          rw [this]; decide)
        obtain ⟨y, ey, -, hy, -⟩ := iv_nI hy8 (by decide)
        refine e_of (i := 44 + 2 * j) hk (by omega) (by rw [hi, nI_1, show 43 + 2 * j + 1 = 44 + 2 * j by omega]) (st _ (fun x hx9 => ?_))
        rw [show rowM M 0 (nI k) (44 + 2 * j) = nI y from ey, ey, hb_bit (by omega) hx9, decide_eq_true (show tdM M k (43 + 2 * j) = nI h from he), Bool.true_and]
        by_cases hxy : y = x
        · subst hxy; rw [decide_eq_true rfl, decide_eq_true rfl]
        · rw [decide_eq_false hxy, decide_eq_false (fun h9 => hxy ((nI_eq (by omega) (by omega)).mp h9))]
  have h0 := loop c 0 v (by omega) (fun x hx => ?_)
  · exact h0
  · rw [ev, hb_bit (by omega) hx]
    show decide (h = x) = (decide (x = h) || false)
    rw [Bool.or_false]
    by_cases hxh : h = x
    · rw [decide_eq_true hxh, decide_eq_true hxh.symm]
    · rw [decide_eq_false hxh, decide_eq_false (fun h9 => hxh h9.symm)]
/-- the state's ranges -/
def nR (at_ kn cl sn lv : Nat → Int32) : Prop := (∀ j, j < 6 → iv 0 8 (at_ j)) ∧ (∀ j, j < 6 → cl j = 0 ∨ cl j = 1)
theorem e_soundsM {M : Nat → Nat → Int32} {at_ kn cl lv : Nat → Int32} {be : Int32} {k s t : Nat} {post : (Nat → Int32) → (Nat → Int32) → Int32 → Prop} (hk : k < 2) (hs : s < 6) (ht : t < 5) (hL : mLand (M 5)) (ha : ∀ j, j < 6 → iv 0 8 (at_ j)) (hp : post (knS (tdM M k) at_ kn s t) (upd lv t (hgh (tdM M k) at_ cl s)) (be ||| bitI t)) : q_m_sounds_0 (M 5) (nI k) (tdM M k 1) at_ kn cl lv be (nI s) (nI t) post := by
  have h1 : iv 0 6 (tdM M k 1) := row_iv hL hk (by omega)
  obtain ⟨c, hc, -, hc6, -⟩ := iv_nI h1 (by decide)
  obtain ⟨a, ea, -, ha8, -⟩ := iv_nI (ha s hs) (by decide)
  refine ⟨vp_in_nI hs (by omega), ?_⟩
  rw [nI_clamp (by omega), ea]
  refine e_hearM hk (by omega) hL (fun set hset => e_highM hk hs (ha s hs) ⟨vp_in_nI ht (by omega), fun lv1 e1 v e2 => ?_⟩)
  rw [nI_clamp (by omega)] at e1
  subst e1
  have e3 : v = be ||| bitI t := e2
  subst e3
  intro P hP
  have loop : ∀ m o (kn1 : Nat → Int32), m + o = c → (∀ j, kn1 j = if j < o ∧ hear (tdM M k) a (cN (at_ j)) = true then kn j ||| bitI t else kn j) → P (nI o) kn1 := by
    intro m
    induction m with
    | zero =>
      intro o kn1 ho hq
      apply hP
      rw [hc]
      refine pk_le c o (fun _ => ?_) (fun h9 => absurd h9 (by omega))
      have e : kn1 = knS (tdM M k) at_ kn s t := by
        funext j
        rw [hq j]
        unfold knS
        rw [hc, cN_nI (by omega), ea, cN_nI (by omega), show c = o by omega]
      rw [e]
      exact hp
    | succ m ih =>
      intro o kn1 ho hq
      apply hP
      have hin : vp_in (nI o) 6 := vp_in_nI (by omega) (by omega)
      rw [hc]
      refine pk_le c o (fun h9 => absurd h9 (by omega)) (fun _ => ⟨hin, hin, ?_⟩)
      rw [nI_clamp (by omega)]
      obtain ⟨b, eb, -, hb8, -⟩ := iv_nI (ha o (by omega)) (by decide)
      have hko : kn1 o = kn o := by rw [hq o, if_neg (fun h9 => by omega)]
      have st : ∀ y : Int32, (kn1 o ||| y) = (if hear (tdM M k) a b = true then kn o ||| bitI t else kn o) → q_m_sounds_75 P (M 5) (nI k) (nI c) at_ kn1 cl (upd lv t (hgh (tdM M k) at_ cl s)) (be ||| bitI t) (nI t) set (nI o) (nI o) (kn1 o) y post := by
        intro y hy v1 e1
        refine ⟨hin, fun k1 e2 v2 e3 => ?_⟩
        rw [nI_clamp (by omega), e1, hy] at e2
        rw [e3, nI_1, e2]
        refine ih (o + 1) _ (by omega) (fun j => ?_)
        by_cases hjo : j = o
        · subst hjo
          rw [up_s, eb, cN_nI (by omega)]
          by_cases hh : hear (tdM M k) a b = true
          · rw [if_pos hh, if_pos ⟨by omega, hh⟩]
          · rw [if_neg hh, if_neg (fun h9 => hh h9.2)]
        · rw [up_n hjo, hq j]
          by_cases hh : hear (tdM M k) a (cN (at_ j)) = true
          · by_cases hlt : j < o
            · rw [if_pos ⟨hlt, hh⟩, if_pos ⟨by omega, hh⟩]
            · rw [if_neg (fun h9 => hlt h9.1), if_neg (fun h9 => by omega)]
          · rw [if_neg (fun h9 => hh h9.2), if_neg (fun h9 => hh h9.2)]
      rw [eb]
      refine e_hasM (by omega) (fun h9 => iz (st 0 ?_)) (fun h9 => oi (st _ ?_))
      · rw [hset b (by omega)] at h9
        rw [if_neg (by rw [h9]; decide), hko]
        simp
      · rw [hset b (by omega)] at h9
        rw [if_pos h9, hko]
        rfl
  exact loop c 0 kn (by omega) (fun j => by rw [if_neg (fun h9 => by omega)])
theorem kn_hi : ((List.range 32).all fun m => (List.range 31).all fun x => decide (x < 5) || !hb (nI m) x) = true := by decide +kernel
theorem kn_m1 : ∀ m, m < 32 → ((nI m >>> ((-1 : Int32) &&& 31)) &&& 1) = 0 := by decide +kernel
theorem e_hasK {kn x : Int32} {post : Int32 → Prop} (hkn : iv 0 31 kn) (hx : iv (-1) 8 x) (h0 : (decide (0 ≤ x ∧ x < 5) && hb kn (cN x)) = false → post 0) (h1 : ∀ t, t < 5 → x = nI t → hb kn t = true → post 1) : q_m_has_0 kn x post := by
  obtain ⟨m, rfl, -, hm, -⟩ := iv_nI hkn (by decide)
  by_cases hneg : x < 0
  · have e : x = -1 := by
      apply Int32.toInt_inj.mp
      have := r_lt hneg
      have e0 : (0 : Int32).toInt = 0 := rfl
      have em : (-1 : Int32).toInt = -1 := rfl
      have := hx.1
      omega
    have hf := h0 (by rw [decide_eq_false (fun h9 => absurd hneg (Int32.not_lt.mpr h9.1))]; rfl)
    subst e
    unfold q_m_has_0
    rw [kn_m1 m (by omega)]
    exact ⟨fun _ => hf, fun h9 => absurd h9 (by decide)⟩
  · obtain ⟨t, ht, rfl⟩ := nI_of hneg
    have ht8 : t ≤ 8 := by
      have := hx.2
      rw [nI_toInt ht] at this
      omega
    rw [cN_nI ht] at h0
    refine e_hasM (by omega) (fun h9 => h0 (by rw [h9, Bool.and_false])) (fun h9 => ?_)
    have h5 : t < 5 := by
      have g := List.all_eq_true.mp (List.all_eq_true.mp kn_hi m (List.mem_range.mpr (by omega))) t (List.mem_range.mpr (by omega))
      rw [h9] at g
      simpa using g
    exact h1 t h5 rfl h9
theorem e_mayBeginM {M : Nat → Nat → Int32} {at_ kn : Nat → Int32} {be x : Int32} {k s : Nat} {post : Int32 → Prop} (hk : k < 2) (hs : s < 6) (ha : iv 0 8 (at_ s)) (hkn : iv 0 31 (kn s)) (hx : iv (-1) 8 x) (h0 : mayR (tdM M k) at_ kn be s x false = false → post 0) (h1 : mayR (tdM M k) at_ kn be s x false = true → post 1) : q_m_mayBegin_0 (M 5) (nI k) at_ kn be (nI s) x post := by
  have hin : vp_in (nI s) 6 := vp_in_nI hs (by omega)
  obtain ⟨a, ea, -, ha8, -⟩ := iv_nI ha (by decide)
  unfold mayR at h0 h1
  refine ⟨hin, ?_⟩
  rw [nI_clamp (by omega)]
  refine e_hasK hkn hx (fun h9 => iz (h0 (by rw [h9]; rfl))) (fun t ht ex h9 => oi ?_)
  subst ex
  rw [cN_nI (by omega), h9, decide_eq_true (show 0 ≤ nI t ∧ nI t < 5 from ⟨nI_pos' (by omega), nI_lt (b := 5) ht (by omega)⟩), ea, cN_nI (by omega)] at h0 h1
  refine e_hasM (by omega) (fun hb0 => zi ⟨hin, ?_⟩) (fun hb1 => io (h0 (by rw [hb1]; rfl)))
  rw [ea]
  rw [hb0] at h0 h1
  exact e_damM hk (by omega) (fun hd => zi (h1 (by rw [hd]; rfl))) (fun hd => io (h0 (by rw [hd]; rfl)))
theorem e_maySingM {M : Nat → Nat → Int32} {at_ kn : Nat → Int32} {be x : Int32} {k s : Nat} {post : Int32 → Prop} (hk : k < 2) (hs : s < 6) (ha : iv 0 8 (at_ s)) (hkn : iv 0 31 (kn s)) (hx : iv (-1) 8 x) (h0 : mayR (tdM M k) at_ kn be s x true = false → post 0) (h1 : mayR (tdM M k) at_ kn be s x true = true → post 1) : q_m_maySing_0 (M 5) (nI k) at_ kn be (nI s) x post := by
  have hin : vp_in (nI s) 6 := vp_in_nI hs (by omega)
  obtain ⟨a, ea, -, ha8, -⟩ := iv_nI ha (by decide)
  unfold mayR at h0 h1
  refine ⟨hin, ?_⟩
  rw [nI_clamp (by omega)]
  refine e_hasK hkn hx (fun h9 => iz (h0 (by rw [h9]; rfl))) (fun t ht ex h9 => oi ?_)
  subst ex
  rw [cN_nI (by omega), h9, decide_eq_true (show 0 ≤ nI t ∧ nI t < 5 from ⟨nI_pos' (by omega), nI_lt (b := 5) ht (by omega)⟩), ea, cN_nI (by omega)] at h0 h1
  refine e_hasM (by omega) (fun hb0 => iz (h0 (by rw [hb0]; rfl))) (fun hb1 => oi ⟨hin, ?_⟩)
  rw [ea]
  rw [hb1] at h0 h1
  exact e_damM hk (by omega) (fun hd => zi (h1 (by rw [hd]; rfl))) (fun hd => io (h0 (by rw [hd]; rfl)))
theorem mayR_x {td at_ kn : Nat → Int32} {be x : Int32} {s : Nat} {b : Bool} (h : mayR td at_ kn be s x b = true) : ∃ t, t < 5 ∧ x = nI t := by
  unfold mayR at h
  simp only [Bool.and_eq_true, decide_eq_true_eq] at h
  exact lt_nI (c := 5) (m := 5) (iv_lit (by decide)) h.1.1.1
theorem e_singsM {M : Nat → Nat → Int32} {at_ kn cl sn lv : Nat → Int32} {be av : Int32} {k s t : Nat} {w : Bool} {wi : Int32} {post : (Nat → Int32) → (Nat → Int32) → (Nat → Int32) → Int32 → Int32 → Prop} (hk : k < 2) (hs : s < 6) (ht : t < 5) (hL : mLand (M 5)) (ha : ∀ j, j < 6 → iv 0 8 (at_ j)) (hw : wi = if w = true then 1 else 0)
    (hp : ∀ g, g = wrongR (tdM M k) at_ cl lv s t w → post (knS (tdM M k) at_ kn s t) (upd sn (cN (at_ s)) (sn (cN (at_ s)) + (if g = true then 1 else 0))) (upd lv t (hgh (tdM M k) at_ cl s)) (be ||| bitI t) (av + (if g = true then 1 else 0))) : q_m_sings_0 (M 5) (nI k) (tdM M k 1) at_ kn cl sn lv be av (nI s) (nI t) wi post := by
  obtain ⟨a, ea, -, ha8, -⟩ := iv_nI (ha s hs) (by decide)
  have hin : vp_in (nI s) 6 := vp_in_nI hs (by omega)
  have hin5 : vp_in (nI t) 5 := vp_in_nI ht (by omega)
  have s37 : ∀ (g : Bool) (y : Int32), y = (if g = true then 1 else 0) → g = wrongR (tdM M k) at_ cl lv s t w → q_m_sings_37 (M 5) (nI k) (tdM M k 1) at_ kn cl sn lv be av (nI s) (nI t) y post := by
    intro g y hy hg
    have hq := hp g hg
    rw [ea, cN_nI (by omega)] at hq
    have s61 : q_m_sings_61 (M 5) (nI k) (tdM M k 1) at_ kn cl sn lv be av (nI s) (nI t) y (nI a) (sn a) (if g = true then 1 else 0) post := by
      intro v1 e1
      refine ⟨vp_in_nI (by omega) (by omega), fun sn1 e2 => ?_⟩
      rw [nI_clamp (by omega), e1] at e2
      have s78 : q_m_sings_78 (M 5) (nI k) (tdM M k 1) at_ kn cl sn1 lv be av (nI s) (nI t) av (if g = true then 1 else 0) post := by
        intro v2 e3
        refine e_soundsM hk hs ht hL ha ?_
        rw [e3, e2]
        exact hq
      cases g with
      | true =>
        rw [if_pos rfl] at hy s78
        subst hy
        exact ⟨fun h9 => absurd h9 (by decide), fun _ => s78⟩
      | false =>
        rw [if_neg (by decide)] at hy s78
        subst hy
        exact ⟨fun _ => s78, fun h9 => absurd rfl h9⟩
    refine ⟨hin, ?_⟩
    rw [nI_clamp (by omega), ea]
    refine ⟨vp_in_nI (by omega) (by omega), ?_⟩
    rw [nI_clamp (by omega)]
    cases g with
    | true =>
      rw [if_pos rfl] at hy s61
      subst hy
      exact ⟨fun h9 => absurd h9 (by decide), fun _ => s61⟩
    | false =>
      rw [if_neg (by decide)] at hy s61
      subst hy
      exact ⟨fun _ => s61, fun h9 => absurd rfl h9⟩
  refine e_highM hk hs (ha s hs) ⟨hin5, ?_⟩
  rw [nI_clamp (by omega)]
  unfold wrongR at s37
  refine ⟨fun hlt => s37 true 1 rfl (by rw [decide_eq_true hlt]; rfl), fun hlt => ⟨fun hw1 => s37 false 0 rfl ?_, fun hw0 => ?_⟩⟩
  · have e : w = true := by
      cases w with
      | true => rfl
      | false => rw [if_neg (by decide)] at hw; exact absurd hw hw1
    rw [decide_eq_false hlt, e]; rfl
  · have e : w = false := by
      cases w with
      | true => rw [if_pos rfl] at hw; rw [hw] at hw0; exact absurd hw0 (by decide)
      | false => rfl
    refine e_highM hk hs (ha s hs) ⟨hin5, ?_⟩
    refine ⟨fun hne => s37 false 0 rfl (by rw [decide_eq_false hlt, decide_eq_false hne, e]; rfl), fun he => s37 true 1 rfl (by rw [decide_eq_true he, e]; simp)⟩
