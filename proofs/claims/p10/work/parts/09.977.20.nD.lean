/-- how many are below n -/
def cntB (p : Nat → Bool) : Nat → Nat
  | 0 => 0
  | n + 1 => cntB p n + (if p n = true then 1 else 0)
theorem cnt_le (p : Nat → Bool) : ∀ n, cntB p n ≤ n
  | 0 => Nat.le_refl 0
  | n + 1 => by
    have := cnt_le p n
    show cntB p n + (if p n = true then 1 else 0) ≤ n + 1
    split <;> omega
theorem cnt_ext {p q : Nat → Bool} : ∀ n, (∀ k, k < n → p k = q k) → cntB p n = cntB q n
  | 0, _ => rfl
  | n + 1, h => by
    show cntB p n + _ = cntB q n + _
    rw [cnt_ext n (fun k hk => h k (by omega)), h n (by omega)]
theorem cnt_mono {p q : Nat → Bool} : ∀ n, (∀ k, k < n → p k = true → q k = true) → cntB p n ≤ cntB q n
  | 0, _ => Nat.le_refl 0
  | n + 1, h => by
    have := cnt_mono n (fun k hk => h k (by omega))
    show cntB p n + (if p n = true then 1 else 0) ≤ cntB q n + (if q n = true then 1 else 0)
    by_cases hp : p n = true
    · rw [if_pos hp, if_pos (h n (by omega) hp)]; omega
    · rw [if_neg hp]; omega
theorem cnt_lt {p q : Nat → Bool} : ∀ n, (∀ k, k < n → p k = true → q k = true) → (∃ k, k < n ∧ q k = true ∧ p k = false) → cntB p n + 1 ≤ cntB q n
  | 0, _, ⟨k, hk, _⟩ => absurd hk (Nat.not_lt_zero k)
  | n + 1, h, ⟨k, hk, hq, hp⟩ => by
    show cntB p n + (if p n = true then 1 else 0) + 1 ≤ cntB q n + (if q n = true then 1 else 0)
    by_cases e : k = n
    · subst e
      have := cnt_mono k (fun j hj => h j (by omega))
      rw [if_pos hq, if_neg (by rw [hp]; decide)]
      omega
    · have := cnt_lt n (fun j hj => h j (by omega)) ⟨k, by omega, hq, hp⟩
      by_cases hpn : p n = true
      · rw [if_pos hpn, if_pos (h n (by omega) hpn)]; omega
      · rw [if_neg hpn]; omega
theorem cnt_tr {p : Nat → Bool} {c : Nat} : ∀ n, c ≤ n → cntB (fun o => decide (o < c) && p o) n = cntB p c
  | 0, h => by
    have : c = 0 := by omega
    subst this
    rfl
  | n + 1, h => by
    by_cases e : c = n + 1
    · subst e
      exact cnt_ext (n + 1) (fun k hk => by rw [decide_eq_true hk, Bool.true_and])
    · show cntB (fun o => decide (o < c) && p o) n + (if (decide (n < c) && p n) = true then 1 else 0) = cntB p c
      rw [cnt_tr n (by omega), decide_eq_false (by omega), Bool.false_and, if_neg (by decide)]
      rfl
/-- the set of those below n -/
def mkB (p : Nat → Bool) : Nat → Int32
  | 0 => 0
  | n + 1 => mkB p n ||| (if p n = true then bitI n else 0)
theorem bit32_tab : ((List.range 31).all fun i => (List.range 32).all fun k => hb (bitI i) k == decide (i = k)) = true := by decide +kernel
theorem hb_b32 {i k : Nat} (hi : i < 31) (hk : k < 32) : hb (bitI i) k = decide (i = k) := by
  have h := List.all_eq_true.mp (List.all_eq_true.mp bit32_tab i (List.mem_range.mpr hi)) k (List.mem_range.mpr hk)
  exact eq_of_beq h
theorem hb_mkB {p : Nat → Bool} {k : Nat} (hk : k < 32) : ∀ n, n ≤ 31 → hb (mkB p n) k = (decide (k < n) && p k)
  | 0, _ => by
    show hb 0 k = _
    rw [hb_0, decide_eq_false (Nat.not_lt_zero k)]; rfl
  | n + 1, hn => by
    show hb (mkB p n ||| _) k = _
    rw [hb_or, hb_mkB hk n (by omega)]
    by_cases e : k = n
    · subst e
      rw [decide_eq_false (Nat.lt_irrefl k), Bool.false_and, Bool.false_or, decide_eq_true (Nat.lt_succ_self k), Bool.true_and]
      by_cases hp : p k = true
      · rw [if_pos hp, hb_b32 (by omega) hk, hp, decide_eq_true rfl]
      · rw [if_neg hp, hb_0]
        rw [Bool.not_eq_true] at hp
        exact hp.symm
    · have e1 : hb (if p n = true then bitI n else 0) k = false := by
        split
        · rw [hb_b32 (by omega) hk, de_ne e]
        · exact hb_0 k
      rw [e1, Bool.or_false]
      by_cases h : k < n
      · rw [decide_eq_true h, decide_eq_true (by omega)]
      · rw [decide_eq_false h, decide_eq_false (by omega)]
theorem hb_eq {s t : Int32} (h : ∀ k, k < 32 → hb s k = hb t k) : s = t := by
  apply Int32.toBitVec_inj.mp
  apply BitVec.eq_of_getLsbD_eq
  intro i hi
  exact h i hi
theorem mkB_ext {p q : Nat → Bool} : ∀ n, (∀ k, k < n → p k = q k) → mkB p n = mkB q n
  | 0, _ => rfl
  | n + 1, h => by
    show mkB p n ||| _ = mkB q n ||| _
    rw [mkB_ext n (fun k hk => h k (by omega)), h n (by omega)]
theorem mkB_iv {p : Nat → Bool} : ∀ n, n ≤ 9 → iv 0 511 (mkB p n)
  | 0, _ => iv_lit (l := 0) (h := 511) (x := 0) (by decide)
  | n + 1, h => by
    have hb9 : ∀ n, n < 9 → iv 0 511 (bitI n) := by
      intro n hn
      have : n = 0 ∨ n = 1 ∨ n = 2 ∨ n = 3 ∨ n = 4 ∨ n = 5 ∨ n = 6 ∨ n = 7 ∨ n = 8 := by omega
      rcases this with rfl | rfl | rfl | rfl | rfl | rfl | rfl | rfl | rfl <;> exact iv_lit (by decide)
    have h2 : iv 0 511 (if p n = true then bitI n else 0) := by
      split
      · exact hb9 n (by omega)
      · exact iv_lit (by decide)
    exact iv_or 9 (mkB_iv n (by omega)) h2 (by decide)
theorem or_0 (x : Int32) : x ||| 0 = x := by
  apply hb_eq
  intro k hk
  rw [hb_or, hb_0, Bool.or_false]
/-- bitCount -/
def bcF (x0 : Int32) : Int32 :=
  let v1 := x0 - ((Int32.toUInt32 x0 >>> (Int32.toUInt32 1 &&& Int32.toUInt32 31)).toInt32 &&& 1431655765)
  let v2 := (v1 &&& 858993459) + ((Int32.toUInt32 v1 >>> (Int32.toUInt32 2 &&& Int32.toUInt32 31)).toInt32 &&& 858993459)
  let v3 := (v2 + (Int32.toUInt32 v2 >>> (Int32.toUInt32 4 &&& Int32.toUInt32 31)).toInt32) &&& 252645135
  let v4 := v3 + (Int32.toUInt32 v3 >>> (Int32.toUInt32 8 &&& Int32.toUInt32 31)).toInt32
  let v5 := v4 + (Int32.toUInt32 v4 >>> (Int32.toUInt32 16 &&& Int32.toUInt32 31)).toInt32
  v5 &&& 63
theorem bc_tab : ((List.range 512).all fun n => bcF (nI n) == nI (cntB (hb (nI n)) 9)) = true := by decide +kernel
theorem e_bc {s : Int32} {post : Int32 → Prop} (hs : iv 0 511 s) (hp : post (nI (cntB (hb s) 9))) : q_z_J6_bitCount_0f7a4_0 s post := by
  intro v1 e1 v2 e2 v3 e3 v4 e4 v5 e5
  obtain ⟨n, rfl, -, hn, -⟩ := iv_nI hs (by decide)
  have h : bcF (nI n) = nI (cntB (hb (nI n)) 9) := eq_of_beq (List.all_eq_true.mp bc_tab n (List.mem_range.mpr (by omega)))
  rw [← h] at hp
  subst e1 e2 e3 e4 e5
  exact hp
theorem e_onesM {s : Int32} {post : Int32 → Prop} (hp : post (nI (cntB (hb s) 9))) : q_m_ones_0 s post := by
  intro P hP
  have loop : ∀ m j, m = 9 - j → j ≤ 9 → P (nI (cntB (hb s) j)) (nI j) := by
    intro m
    induction m using Nat.strongRecOn with
    | ind m ih =>
      intro j hm hj
      apply hP
      refine pk_le 9 j (fun h9 => ?_) (fun h9 => ?_)
      · rw [show j = 9 by omega]; exact hp
      · have nx : ∀ y : Int32, nI (cntB (hb s) j) + y = nI (cntB (hb s) (j + 1)) → q_m_ones_24 P s (nI j) (nI (cntB (hb s) j)) y post := by
          intro y hy v e v2 e2
          rw [e, e2, hy, nI_1]
          exact ih (9 - (j + 1)) (by omega) (j + 1) rfl (by omega)
        have e : cntB (hb s) (j + 1) = cntB (hb s) j + (if hb s j = true then 1 else 0) := rfl
        refine e_hasM (by omega) (fun h0 => iz (nx 0 ?_)) (fun h1 => oi (nx 1 ?_))
        · rw [e, if_neg (by rw [h0]; decide)]; exact Int32.add_zero _
        · rw [e, if_pos h1, nI_1]
  exact loop _ 0 rfl (by omega)
/-- the least set that holds f and is closed under E -/
noncomputable def clB (E : Nat → Nat → Bool) (n f h : Nat) : Bool := @decide (∀ C : Nat → Bool, C f = true → (∀ a b, a < n → b < n → C a = true → E a b = true → C b = true) → C h = true) (Classical.propDecidable _)
theorem cl_eq {E : Nat → Nat → Bool} {n f : Nat} {S : Nat → Bool} (h1 : S f = true) (h2 : ∀ a b, a < n → b < n → S a = true → E a b = true → S b = true) (h3 : ∀ C : Nat → Bool, C f = true → (∀ a b, a < n → b < n → C a = true → E a b = true → C b = true) → ∀ h, h < n → S h = true → C h = true) (h : Nat) (hh : h < n) : S h = clB E n f h := by
  unfold clB
  by_cases hs : S h = true
  · rw [hs]
    exact (@decide_eq_true _ (Classical.propDecidable _) (fun C c1 c2 => h3 C c1 c2 h hh hs)).symm
  · have e : S h = false := by rw [← Bool.not_eq_true]; exact hs
    rw [e]
    exact (@decide_eq_false _ (Classical.propDecidable _) (fun hc => hs (hc S h1 h2))).symm
