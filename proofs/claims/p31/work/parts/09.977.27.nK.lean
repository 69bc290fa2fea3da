section
variable {td : Nat → Int32} {S : Nat → Nat → Int32} {mi av be cl : Int32} {hu kn lv sn : Nat → Int32} {huts singers dams echoes deep : Int32} {heights ladders minutes echoFrom echoTo talls : Nat → Int32}
theorem e_singersInX2 {bits : Int32} {post : Int32 → Prop} (hR : RNG td) (hN : NOK td S) (hG : XG td S mi av be cl hu kn lv sn) (hd : singers = td 1) (hp : ∀ set, (∀ o, o < 32 → hb set o = (decide (nI o < td 1) && hb bits (cN (S 0 o)))) → post set) : q_wn_X3_singersIn_6_0 hu singers bits post := by
  have h1 : iv 0 6 (td 1) := hR 1 (by omega)
  obtain ⟨c, hc, -, hc6, -⟩ := iv_nI h1 (by decide)
  intro P hP
  have loop : ∀ m j (x3 : Int32), m = c - j → j ≤ c → (∀ o, o < 32 → hb x3 o = (decide (o < j) && hb bits (cN (S 0 o)))) → P x3 (nI j) := by
    intro m
    induction m using Nat.strongRecOn with
    | ind m ih =>
      intro j x3 hm hj hx
      apply hP
      rw [hd, hc]
      refine pk_le c j (fun h9 => ?_) (fun h9 => ?_)
      · refine hp x3 (fun o ho => ?_)
        rw [hx o ho, hc, show j = c by omega]
        by_cases e : o < c
        · rw [decide_eq_true e, decide_eq_true (nI_lt e (by omega))]
        · rw [decide_eq_false e, decide_eq_false (fun h8 => e ((nI_ltI (by omega) (by omega)).mp h8))]
      · have hin : vp_in (nI j) 6 := vp_in_nI (by omega) (by omega)
        have hl : nI j < td 1 := by rw [hc]; exact nI_lt h9 (by omega)
        obtain ⟨a, ea, -, ha8, -⟩ := iv_nI (hN.1 j (by omega)) (by decide)
        have nx : ∀ x3' : Int32, (∀ o, o < 32 → hb x3' o = (decide (o < j + 1) && hb bits (cN (S 0 o)))) → q_wn_X3_singersIn_6_35 P hu (nI c) bits x3' (nI j) post := by
          intro x3' h2 v ev
          rw [ev, nI_1]
          exact ih (c - (j + 1)) (by omega) (j + 1) x3' rfl (by omega) h2
        have ex : ∀ o, ¬ o = j → decide (o < j + 1) = decide (o < j) := by
          intro o ho
          by_cases e : o < j
          · rw [decide_eq_true e, decide_eq_true (by omega)]
          · rw [decide_eq_false e, decide_eq_false (by omega)]
        refine ⟨hin, ?_⟩
        rw [nI_clamp (by omega), hG.2.1 j (by omega) hl, ea]
        refine e_hasX (by omega) (fun h0 => iz (nx x3 (fun o ho => ?_))) (fun h0 => oi (fun v ev => nx v (fun o ho => ?_)))
        · rw [hx o ho]
          by_cases e : o = j
          · subst e
            rw [ea, cN_nI (by omega), h0, Bool.and_false, Bool.and_false]
          · rw [ex o e]
        · rw [ev, hb_or, hx o ho, show ∀ i, hb ((1 : Int32) <<< (nI i &&& 31)) o = hb (bitI i) o from fun _ => rfl, hb_b32' (by omega) ho]
          by_cases e : o = j
          · subst e
            rw [ea, cN_nI (by omega), h0, decide_eq_true rfl, decide_eq_true (show o < o + 1 by omega)]
            simp
          · rw [ex o e, de_ne e, Bool.or_false]
  exact loop _ 0 0 rfl (by omega) (fun o ho => by rw [hb_0, decide_eq_false (by omega)]; rfl)
end
/-- how high a singer stands -/
def hS (td : Nat → Int32) (S : Nat → Nat → Int32) (o : Nat) : Int32 := hgh td (S 0) (S 2) o
/-- the highest of a set: the first -/
def hiS (td : Nat → Int32) (S : Nat → Nat → Int32) (s : Int32) : Nat → Int32
  | 0 => -1
  | j + 1 => if hb s j = true ∧ (hiS td S s j = -1 ∨ ¬ hS td S j ≤ hS td S (cN (hiS td S s j))) then nI j else hiS td S s j
theorem hiS_cs {td : Nat → Int32} {S : Nat → Nat → Int32} {s : Int32} : ∀ m, (hiS td S s m = -1 ∧ ∀ j, j < m → hb s j = false) ∨ ∃ j, j < m ∧ hiS td S s m = nI j ∧ hb s j = true
  | 0 => Or.inl ⟨rfl, fun j hj => absurd hj (Nat.not_lt_zero j)⟩
  | m + 1 => by
    have e : hiS td S s (m + 1) = if hb s m = true ∧ (hiS td S s m = -1 ∨ ¬ hS td S m ≤ hS td S (cN (hiS td S s m))) then nI m else hiS td S s m := rfl
    rw [e]
    by_cases q : hb s m = true ∧ (hiS td S s m = -1 ∨ ¬ hS td S m ≤ hS td S (cN (hiS td S s m)))
    · rw [if_pos q]
      exact Or.inr ⟨m, by omega, rfl, q.1⟩
    · rw [if_neg q]
      rcases hiS_cs (td := td) (S := S) (s := s) m with ⟨h1, h2⟩ | ⟨j, hj, h1, h2⟩
      · refine Or.inl ⟨h1, fun j hj => ?_⟩
        by_cases e2 : j = m
        · subst e2
          rw [← Bool.not_eq_true]
          exact fun h => q ⟨h, Or.inl h1⟩
        · exact h2 j (by omega)
      · exact Or.inr ⟨j, by omega, h1, h2⟩
def hrB (td : Nat → Int32) (S : Nat → Nat → Int32) (m o : Nat) : Bool := hear td (cN (S 0 m)) (cN (S 0 o))
/-- whether all know it when those of s have sung it, the highest first -/
def tch (td : Nat → Int32) (S : Nat → Nat → Int32) (n : Nat) : Nat → (Nat → Bool) → Int32 → Int32 → Bool
  | 0, p, _, _ => decide (cntB p n = n)
  | r + 1, p, lim, s => if s = 0 then decide (cntB p n = n)
    else if p (cN (hiS td S s n)) = true ∧ hS td S (cN (hiS td S s n)) < lim ∧ dam td (cN (S 0 (cN (hiS td S s n)))) = false then tch td S n r (fun o => p o || hrB td S (cN (hiS td S s n)) o) (hS td S (cN (hiS td S s n))) (s &&& (bitI (cN (hiS td S s n)) ^^^ (-1)))
    else false
def TCH (td : Nat → Int32) (S : Nat → Nat → Int32) (n t s : Nat) : Bool := tch td S n 6 (fun o => hb (S 1 o) t) (if hb (S 5 0) t = true then S 4 t else 1000) (nI s)
/-- the fewest that teach it -/
def fT (td : Nat → Int32) (S : Nat → Nat → Int32) (n t : Nat) : Nat → Int32
  | 0 => -1
  | s + 1 => if (fT td S n t s = -1 ∨ ¬ fT td S n t s ≤ nI (cS (nI s))) ∧ TCH td S n t s = true then nI (cS (nI s)) else fT td S n t s
def TEA (td : Nat → Int32) (S : Nat → Nat → Int32) (t : Nat) : Int32 := fT td S (cN (td 1)) t (2 ^ cN (td 1))
def AN_teach (M : Nat → Nat → Int32) (a b c d : Int32) : Int32 := if OKst M a b c ∧ (0 ≤ d ∧ d ≤ 4) then TEA (rowM M 0 a) (PL M a b (cN c)).2 (cN d) else -1
theorem hS_iv {td : Nat → Int32} {S : Nat → Nat → Int32} {o : Nat} (hR : RNG td) (hN : NOK td S) (ho : o < 6) : iv (-9) 108 (hS td S o) := hgh_iv hR ho (hN.1 o ho) (hN.2.2.1 o ho)
/-- a set of singers -/
theorem hi_in {td : Nat → Int32} {S : Nat → Nat → Int32} {s : Int32} {n : Nat} (hs : ∀ k, k < 32 → hb s k = true → k < n) (h0 : ¬ s = 0) : ∃ j, j < n ∧ hiS td S s n = nI j ∧ hb s j = true := by
  rcases hiS_cs (td := td) (S := S) (s := s) n with ⟨_, h2⟩ | h
  · exfalso
    apply h0
    apply hb_eq
    intro k hk
    rw [hb_0, ← Bool.not_eq_true]
    intro h
    have := h2 k (hs k hk h)
    rw [h] at this
    exact absurd this (by decide)
  · exact h
theorem sub_b {s : Int32} {n m : Nat} (hm : m < 31) (hs : ∀ k, k < 32 → hb s k = true → k < n) : ∀ k, k < 32 → hb (s &&& (bitI m ^^^ (-1))) k = true → k < n := by
  intro k hk h
  rw [hb_and, Bool.and_eq_true] at h
  exact hs k hk h.1
theorem sub_c {s : Int32} {n m : Nat} (hn : n ≤ 9) (hm : m < n) (hb1 : hb s m = true) : cntB (hb (s &&& (bitI m ^^^ (-1)))) n + 1 ≤ cntB (hb s) n :=
  cnt_lt n (fun k _ h => by rw [hb_and, Bool.and_eq_true] at h; exact h.1) ⟨m, hm, hb1, by rw [hb_and, hb_not _ (by omega), hb_b32' (by omega) (by omega), decide_eq_true (rfl : m = m)]; simp⟩
theorem mkB_or {p q : Nat → Bool} {n : Nat} (hn : n ≤ 9) {x : Int32} (hx : ∀ k, k < 32 → hb x k = (decide (k < n) && q k)) : mkB p n ||| x = mkB (fun o => p o || q o) n := by
  apply hb_eq
  intro k hk
  rw [hb_or, hx k hk, hb_mkB hk n (by omega), hb_mkB hk n (by omega)]
  cases decide (k < n) <;> cases p k <;> cases q k <;> rfl
theorem cnt_mk {p : Nat → Bool} {n : Nat} (hn : n ≤ 9) : cntB (hb (mkB p n)) 9 = cntB p n := by
  have e := cntB_cut (p := hb (mkB p n)) (n := n) (fun k hk => by
    by_cases q : k < 32
    · rw [hb_mkB q n (by omega), decide_eq_false (by omega), Bool.false_and]
    · unfold hb
      exact BitVec.getLsbD_of_ge _ _ (by omega)) (9 - n)
  rw [show n + (9 - n) = 9 by omega] at e
  rw [e]
  exact cnt_ext n (fun k hk => by rw [hb_mkB (by omega) n (by omega), decide_eq_true hk, Bool.true_and])
theorem cnt_full {p : Nat → Bool} : ∀ n, cntB p n = n ↔ ∀ k, k < n → p k = true
  | 0 => ⟨fun _ k hk => absurd hk (Nat.not_lt_zero k), fun _ => rfl⟩
  | n + 1 => by
    have e : cntB p (n + 1) = cntB p n + (if p n = true then 1 else 0) := rfl
    have l := cnt_le p n
    have ih := cnt_full (p := p) n
    constructor
    · intro h
      have hp : p n = true := by
        apply Classical.byContradiction
        intro q
        rw [e, if_neg q] at h
        omega
      rw [e, if_pos hp] at h
      intro k hk
      by_cases q : k = n
      · subst q; exact hp
      · exact ih.mp (by omega) k (by omega)
    · intro h
      rw [e, if_pos (h n (by omega)), ih.mpr (fun k hk => h k (by omega))]
theorem mk_full {p : Nat → Bool} {n : Nat} (hn : n ≤ 9) : mkB p n = nI (2 ^ n - 1) ↔ cntB p n = n := by
  have hp := Nat.two_pow_pos n
  rw [cnt_full n]
  constructor
  · intro e k hk
    have h : hb (mkB p n) k = true := by rw [e]; exact full_bit hn hk
    rw [hb_mkB (by omega) n (by omega), decide_eq_true hk, Bool.true_and] at h
    exact h
  · intro h
    apply hb_eq
    intro k hk
    rw [hb_mkB hk n (by omega)]
    by_cases q : k < n
    · rw [decide_eq_true q, h k q, full_bit hn q]; rfl
    · rw [decide_eq_false q, hb_lo (s := 2 ^ n - 1) (by omega) hn (by omega)]; rfl
section
variable {td : Nat → Int32} {S : Nat → Nat → Int32} {mi av be cl : Int32} {hu kn lv sn : Nat → Int32} {huts singers dams echoes deep : Int32} {heights ladders minutes echoFrom echoTo talls : Nat → Int32}
theorem e_highestT {s : Int32} {n : Nat} {post : Int32 → Prop} (hR : RNG td) (hN : NOK td S) (hG : XG td S mi av be cl hu kn lv sn) (hD : LX td huts singers dams echoes deep heights ladders minutes echoFrom echoTo talls) (hn : td 1 = nI n) (hn6 : n ≤ 6) (hs : ∀ k, k < 32 → hb s k = true → k < n) (h0 : ¬ s = 0) (hp : post (hiS td S s n)) : q_wn_X3_highestOf_6_0 cl hu singers heights ladders talls s post := by
  intro P hP
  have loop : ∀ d j, d = n - j → j ≤ n → P (if hiS td S s j = -1 then 0 else hiS td S s j) (if hiS td S s j = -1 then -1000 else hS td S (cN (hiS td S s j))) (nI j) := by
    intro d
    induction d using Nat.strongRecOn with
    | ind d ih =>
      intro j hd hj
      apply hP
      refine pk_le n j (fun h9 => ?_) (fun h9 => ?_) (hD.2.1.trans hn)
      · rw [show j = n by omega]
        obtain ⟨i, hi, e, _⟩ := hi_in (td := td) (S := S) hs h0
        rw [if_neg (by rw [e]; exact nIm1' (by omega))]
        exact hp
      · have e : hiS td S s (j + 1) = if hb s j = true ∧ (hiS td S s j = -1 ∨ ¬ hS td S j ≤ hS td S (cN (hiS td S s j))) then nI j else hiS td S s j := rfl
        have nx : ∀ x y : Int32, x = (if hiS td S s (j + 1) = -1 then 0 else hiS td S s (j + 1)) → y = (if hiS td S s (j + 1) = -1 then -1000 else hS td S (cN (hiS td S s (j + 1)))) → q_wn_X3_highestOf_6_52 P cl hu singers heights ladders talls s x y (nI j) post := by
          intro x y hx hy v ev
          rw [ev, nI_1, hx, hy]
          exact ih (n - (j + 1)) (by omega) (j + 1) rfl (by omega)
        have hl : nI j < td 1 := by rw [hn]; exact nI_lt h9 (by omega)
        have hv := hS_iv (o := j) hR hN (by omega)
        refine e_hasX (by omega) (fun q => iz (nx _ _ ?_ ?_)) (fun q => oi (e_highX hR hN hG hD (by omega) hl ⟨fun hle => nx _ _ ?_ ?_, fun hgt => e_highX hR hN hG hD (by omega) hl (nx _ _ ?_ ?_)⟩))
        · have e9 := e; rw [if_neg (fun h9 => by rw [q] at h9; exact absurd h9.1 (by decide))] at e9; rw [e9]
        · have e9 := e; rw [if_neg (fun h9 => by rw [q] at h9; exact absurd h9.1 (by decide))] at e9; rw [e9]
        · have hne : ¬ (hb s j = true ∧ (hiS td S s j = -1 ∨ ¬ hS td S j ≤ hS td S (cN (hiS td S s j)))) := by
            intro h
            rcases h.2 with h2 | h2
            · rw [if_pos h2] at hle
              have h3 := Int32.le_iff_toInt_le.mp hle
              have h4 : (-1000 : Int32).toInt = -1000 := rfl
              have h5 := hv.1
              have h6 : (hgh td (S 0) (S 2) j) = hS td S j := rfl
              rw [h6] at h3
              omega
            · by_cases h3 : hiS td S s j = -1
              · rw [if_pos h3] at hle
                have h3 := Int32.le_iff_toInt_le.mp hle
                have h4 : (-1000 : Int32).toInt = -1000 := rfl
                have h5 := hv.1
                have h6 : (hgh td (S 0) (S 2) j) = hS td S j := rfl
                rw [h6] at h3
                omega
              · rw [if_neg h3] at hle
                exact h2 hle
          rw [e, if_neg hne]
        · have hne : ¬ (hb s j = true ∧ (hiS td S s j = -1 ∨ ¬ hS td S j ≤ hS td S (cN (hiS td S s j)))) := by
            intro h
            rcases h.2 with h2 | h2
            · rw [if_pos h2] at hle
              have h3 := Int32.le_iff_toInt_le.mp hle
              have h4 : (-1000 : Int32).toInt = -1000 := rfl
              have h5 := hv.1
              have h6 : (hgh td (S 0) (S 2) j) = hS td S j := rfl
              rw [h6] at h3
              omega
            · by_cases h3 : hiS td S s j = -1
              · rw [if_pos h3] at hle
                have h3 := Int32.le_iff_toInt_le.mp hle
                have h4 : (-1000 : Int32).toInt = -1000 := rfl
                have h5 := hv.1
                have h6 : (hgh td (S 0) (S 2) j) = hS td S j := rfl
                rw [h6] at h3
                omega
              · rw [if_neg h3] at hle
                exact h2 hle
          rw [e, if_neg hne]
        · have hy : hb s j = true ∧ (hiS td S s j = -1 ∨ ¬ hS td S j ≤ hS td S (cN (hiS td S s j))) := by
            refine ⟨q, ?_⟩
            by_cases h3 : hiS td S s j = -1
            · exact Or.inl h3
            · rw [if_neg h3] at hgt
              exact Or.inr hgt
          rw [e, if_pos hy, if_neg (nIm1' (by omega))]
        · have hy : hb s j = true ∧ (hiS td S s j = -1 ∨ ¬ hS td S j ≤ hS td S (cN (hiS td S s j))) := by
            refine ⟨q, ?_⟩
            by_cases h3 : hiS td S s j = -1
            · exact Or.inl h3
            · rw [if_neg h3] at hgt
              exact Or.inr hgt
          rw [e, if_pos hy, if_neg (nIm1' (by omega)), cN_nI (by omega)]
          rfl
  exact loop _ 0 rfl (by omega)
theorem e_spreadsX {t s : Nat} {x : Int32} {n : Nat} {post : Int32 → Prop} (hR : RNG td) (hN : NOK td S) (hG : XG td S mi av be cl hu kn lv sn) (hD : LX td huts singers dams echoes deep heights ladders minutes echoFrom echoTo talls) (hn : td 1 = nI n) (hn6 : n ≤ 6) (ht : t < 5) (hs : s < 2 ^ n) (ex : x = nI s) (h0 : TCH td S n t s = false → post 0) (h1 : TCH td S n t s = true → post 1) : q_wn_X3_spreads_6_0 be cl hu kn lv singers dams echoes heights ladders echoFrom echoTo talls (nI t) x post := by
  subst ex
  have hsb : ∀ k, k < 32 → hb (nI s) k = true → k < n := by
    intro k hk h
    apply Classical.byContradiction
    intro q
    rw [hb_lo hs (by omega) (by omega)] at h
    exact absurd h (by decide)
  refine e_knowersX hR hG hD.2.1 (by omega) ?_
  rw [hn, cN_nI (by omega)]
  have fin : ∀ p : Nat → Bool, (decide (cntB p n = n) = false → post 0) → (decide (cntB p n = n) = true → post 1) → q_wn_X3_spreads_6_144 be cl hu kn lv singers dams echoes heights ladders echoFrom echoTo talls (mkB p n) post := by
    intro p f0 f1
    refine e_bc (mkB_iv n (by omega)) ?_
    rw [cnt_mk (by omega)]
    have l := cnt_le p n
    refine ⟨fun q => f0 (decide_eq_false (fun h => q (by rw [h, hD.2.1, hn]))), fun q => f1 (decide_eq_true ?_)⟩
    rw [hD.2.1, hn] at q
    exact (nI_eq (by omega) (by omega)).mp q
  have go : ∀ lim : Int32, (tch td S n 6 (fun o => hb (S 1 o) t) lim (nI s) = false → post 0) → (tch td S n 6 (fun o => hb (S 1 o) t) lim (nI s) = true → post 1) → q_wn_X3_spreads_6_31 be cl hu kn lv singers dams echoes heights ladders echoFrom echoTo talls (nI s) (mkB (fun o => hb (S 1 o) t) n) lim post := by
    intro lim g0 g1 P hP
    have loop : ∀ r (p : Nat → Bool) (lim s : Int32), r ≤ 6 → (∀ k, k < 32 → hb s k = true → k < n) → (tch td S n r p lim s = false → post 0) → (tch td S n r p lim s = true → post 1) → P (mkB p n) lim s (nI (6 - r)) := by
      intro r
      induction r with
      | zero =>
        intro p lim s _ _ f0 f1
        apply hP
        exact pk_le 6 6 (fun _ => fin p f0 f1) (fun h => absurd h (by omega))
      | succ r ih =>
        intro p lim s hr hsb f0 f1
        apply hP
        refine pk_le 6 (6 - (r + 1)) (fun h => absurd h (by omega)) (fun _ => ⟨fun q => ?_, fun q => ?_⟩)
        · have e : tch td S n (r + 1) p lim s = decide (cntB p n = n) := if_pos q
          rw [e] at f0 f1
          exact fin p f0 f1
        · have e : tch td S n (r + 1) p lim s = if p (cN (hiS td S s n)) = true ∧ hS td S (cN (hiS td S s n)) < lim ∧ dam td (cN (S 0 (cN (hiS td S s n)))) = false then tch td S n r (fun o => p o || hrB td S (cN (hiS td S s n)) o) (hS td S (cN (hiS td S s n))) (s &&& (bitI (cN (hiS td S s n)) ^^^ (-1))) else false := if_neg q
          refine e_highestT hR hN hG hD hn hn6 hsb q ?_
          obtain ⟨m, hm, em, hbm⟩ := hi_in (td := td) (S := S) hsb q
          rw [em, cN_nI (by omega)] at e
          rw [em]
          have hl : nI m < td 1 := by rw [hn]; exact nI_lt hm (by omega)
          have him : vp_in (nI m) 6 := vp_in_nI (by omega) (by omega)
          obtain ⟨a, ea, -, ha8, -⟩ := iv_nI (hN.1 m (by omega)) (by decide)
          refine e_highX hR hN hG hD (by omega) hl (e_hasX (by omega) (fun w => iz (f0 ?_)) (fun w => oi ⟨fun hle => f0 ?_, fun hgt => ⟨him, ?_⟩⟩))
          · rw [hb_mkB (by omega) n (by omega), decide_eq_true hm, Bool.true_and] at w
            rw [e, if_neg (fun h => by rw [w] at h; exact absurd h.1 (by decide))]
          · rw [e, if_neg (fun h => absurd h.2.1 (Int32.not_lt.mpr hle))]
          · rw [hb_mkB (by omega) n (by omega), decide_eq_true hm, Bool.true_and] at w
            rw [nI_clamp (by omega), hG.2.1 m (by omega) hl, ea, hD.2.2.1]
            refine e_damX (by omega) (fun hd => iz ⟨him, ?_⟩) (fun hd => oi (f0 ?_))
            · refine e_earX hR rfl hD.2.2.2.1 hD.2.2.2.2.2.2.2.2.1 (by omega) (fun set hset => e_singersInX2 hR hN hG hD.2.1 (fun set2 hset2 => ?_))
              intro v1 ev1 v2 ev2 v3 ev3
              have e2 : tch td S n (r + 1) p lim s = tch td S n r (fun o => p o || hrB td S m o) (hS td S m) (s &&& (bitI m ^^^ (-1))) := by
                rw [e, if_pos ⟨w, Int32.not_le.mp hgt, by rw [ea, cN_nI (by omega)]; exact hd⟩]
              rw [e2] at f0 f1
              have e3 : v1 = mkB (fun o => p o || hrB td S m o) n := by
                rw [ev1]
                refine mkB_or (by omega) (fun k hk => ?_)
                rw [hset2 k hk]
                by_cases qk : k < n
                · obtain ⟨ak, eak, -, hak, -⟩ := iv_nI (hN.1 k (by omega)) (by decide)
                  rw [decide_eq_true qk, decide_eq_true (show nI k < td 1 by rw [hn]; exact nI_lt qk (by omega)), hset (cN (S 0 k)) (by rw [eak, cN_nI (by omega)]; omega)]
                  unfold hrB
                  rw [ea, cN_nI (n := a) (by omega)]
                · rw [decide_eq_false qk, decide_eq_false (fun h => qk ((nI_ltI (by omega) (by omega)).mp (by rw [← hn]; exact h)))]
                  rfl
              rw [e3, ev2, ev3, nI_1, show 6 - (r + 1) + 1 = 6 - r by omega]
              exact ih _ _ _ (by omega) (sub_b (by omega) hsb) f0 f1
            · rw [e, if_neg (fun h => by have := h.2.2; rw [ea, cN_nI (by omega)] at this; unfold dam at this; rw [hd] at this; exact absurd this (by decide))]
    exact loop 6 _ lim (nI s) (by omega) hsb g0 g1
  have hbe : be = S 5 0 := hG.2.2.2.2.2.1
  unfold TCH at h0 h1
  refine e_hasX (by omega) (fun q => iz ?_) (fun q => oi ⟨vp_in_nI (by omega) (by omega), ?_⟩)
  · rw [hbe] at q
    rw [if_neg (by rw [q]; decide)] at h0 h1
    exact go _ h0 h1
  · rw [hbe] at q
    rw [if_pos q] at h0 h1
    rw [nI_clamp (by omega), hG.2.2.2.1 t ht]
    exact go _ h0 h1
theorem e_fewTimesX {t n : Nat} {post : Int32 → Prop} (hR : RNG td) (hN : NOK td S) (hG : XG td S mi av be cl hu kn lv sn) (hD : LX td huts singers dams echoes deep heights ladders minutes echoFrom echoTo talls) (hn : td 1 = nI n) (hn6 : n ≤ 6) (ht : t < 5) (hp : post (fT td S n t (2 ^ n))) : q_wn_X3_fewestTimes_6_0 be cl hu kn lv singers dams echoes heights ladders echoFrom echoTo talls (nI t) post := by
  have hpw := pow_b (n := n) (by omega)
  intro P hP
  have loop : ∀ d s, d = 2 ^ n - s → s ≤ 2 ^ n → P (fT td S n t s) (nI s) := by
    intro d
    induction d using Nat.strongRecOn with
    | ind d ih =>
      intro s hd hs
      apply hP
      refine pk_le (2 ^ n) s (fun h9 => by rw [show s = 2 ^ n by omega]; exact hp) (fun h9 => ?_) (by rw [hD.2.1, hn]; exact sh_pow (by omega)) rfl (by omega) (by omega)
      have e : fT td S n t (s + 1) = if (fT td S n t s = -1 ∨ ¬ fT td S n t s ≤ nI (cS (nI s))) ∧ TCH td S n t s = true then nI (cS (nI s)) else fT td S n t s := rfl
      have nx : ∀ x : Int32, x = fT td S n t (s + 1) → q_wn_X3_fewestTimes_6_48 P be cl hu kn lv singers dams echoes heights ladders echoFrom echoTo talls (nI t) x (nI s) post := by
        intro x hx v ev
        rw [ev, hx, nI_1]
        exact ih (2 ^ n - (s + 1)) (by omega) (s + 1) rfl (by omega)
      have try_ : (fT td S n t s = -1 ∨ ¬ fT td S n t s ≤ nI (cS (nI s))) → q_wn_X3_fewestTimes_6_34 P be cl hu kn lv singers dams echoes heights ladders echoFrom echoTo talls (nI t) (fT td S n t s) (nI s) (nI (cS (nI s))) post := by
        intro hc
        refine e_spreadsX hR hN hG hD hn hn6 ht h9 rfl (fun q => iz (nx _ ?_)) (fun q => oi (nx _ ?_))
        · rw [e, if_neg (fun h => by rw [q] at h; exact absurd h.2 (by decide))]
        · rw [e, if_pos ⟨hc, q⟩]
      refine e_bc (iv_ofN (by omega) (by omega) (by omega)) ⟨fun q => try_ (Or.inl q), fun q => ⟨fun q2 => nx _ ?_, fun q2 => try_ (Or.inr q2)⟩⟩
      rw [e, if_neg (fun h => by rcases h.1 with h1 | h1; exact q h1; exact h1 q2)]
  exact loop _ 0 rfl (Nat.zero_le _)
end

def LMT (lim limR : Int32) : Prop := limR = lim ∨ (lim = 1000 ∧ limR = 1000000)
theorem LMT_le {lim limR h : Int32} (hL : LMT lim limR) (hh : iv (-9) 108 h) : limR ≤ h ↔ lim ≤ h := by
  rcases hL with e | ⟨e1, e2⟩
  · rw [e]
  · subst e1 e2
    have a1 : (1000 : Int32).toInt = 1000 := rfl
    have a2 : (1000000 : Int32).toInt = 1000000 := rfl
    rw [Int32.le_iff_toInt_le, Int32.le_iff_toInt_le, a1, a2]
    have := hh.2
    omega
section
variable {M : Nat → Nat → Int32} {S' S : Nat → Nat → Int32} {k : Nat}
theorem e_highMA {o : Nat} {post : Int32 → Prop} (hk : k < 2) (ho : o < 6) (hN : NOK (tdM M k) S) (hA : AGs S' S) (hp : post (hS (tdM M k) S o)) : q_m_high_0 (M 5) (nI k) (S' 0) (S' 2) (nI o) post := by
  refine e_highM hk ho (by rw [(hA.1 o ho).1]; exact hN.1 o ho) ?_
  rw [hgh_ag hA ho]
  exact hp
theorem e_taughtM {s t n : Nat} {post : Int32 → Prop} (hk : k < 2) (hL : mLand (M 5)) (hN : NOK (tdM M k) S) (hA : AGs S' S) (hn : tdM M k 1 = nI n) (hn6 : n ≤ 6) (ht : t < 5) (hs : s < 2 ^ n) (h1 : TCH (tdM M k) S n t s = true → post (nI (2 ^ n - 1))) (h0 : TCH (tdM M k) S n t s = false → ∀ r, ¬ r = nI (2 ^ n - 1) → post r) : q_m_taught_0 (M 5) (nI k) (tdM M k 1) (S' 0) (S' 1) (S' 2) (S' 4) (S' 5 0) (nI s) (nI t) post := by
  have hR : RNG (tdM M k) := RNG_M hL hk
  have hpw := pow_b (n := n) (by omega)
  have hp0 := Nat.two_pow_pos n
  have hsb : ∀ k, k < 32 → hb (nI s) k = true → k < n := by
    intro k hk h
    apply Classical.byContradiction
    intro q
    rw [hb_lo hs (by omega) (by omega)] at h
    exact absurd h (by decide)
  have m1 : ¬ (-1 : Int32) = nI (2 ^ n - 1) := fun e => nIm1' (h := 2 ^ n - 1) (by omega) e.symm
  have main : ∀ lim limR : Int32, LMT lim limR → (tch (tdM M k) S n 6 (fun o => hb (S 1 o) t) lim (nI s) = true → post (nI (2 ^ n - 1))) → (tch (tdM M k) S n 6 (fun o => hb (S 1 o) t) lim (nI s) = false → ∀ r, ¬ r = nI (2 ^ n - 1) → post r) → q_m_taught_25 (M 5) (nI k) (tdM M k 1) (S' 0) (S' 1) (S' 2) (S' 4) (S' 5 0) (nI s) (nI t) 0 limR post := by
    intro lim limR hlm g1 g0
    have fold : q_m_taught_73 (M 5) (nI k) (tdM M k 1) (S' 0) (S' 1) (S' 2) (S' 4) (S' 5 0) (mkB (fun o => hb (S 1 o) t) n) limR (nI s) post := by
      intro P hP
      have loop : ∀ r (p : Nat → Bool) (lim limR s : Int32), cntB (hb s) n ≤ r → (∀ k, k < 32 → hb s k = true → k < n) → LMT lim limR → (tch (tdM M k) S n r p lim s = true → post (nI (2 ^ n - 1))) → (tch (tdM M k) S n r p lim s = false → ∀ r, ¬ r = nI (2 ^ n - 1) → post r) → P (mkB p n) limR s := by
        intro r
        induction r with
        | zero =>
          intro p lim limR s hc hsb hlm f1 f0
          apply hP
          have dn : post (mkB p n) := by
            by_cases q : cntB p n = n
            · rw [(mk_full (by omega)).mpr q]
              exact f1 (decide_eq_true q)
            · exact f0 (decide_eq_false q) _ (fun e => q ((mk_full (by omega)).mp e))
          refine ⟨fun _ => dn, fun q => ?_⟩
          exfalso
          obtain ⟨j, hj, _, hbj⟩ := hi_in (td := tdM M k) (S := S) hsb q
          have := cnt_lt (p := fun _ => false) (q := hb s) n (fun _ _ h => absurd h (by decide)) ⟨j, hj, hbj, rfl⟩
          omega
        | succ r ih =>
          intro p lim limR s hc hsb hlm f1 f0
          apply hP
          refine ⟨fun q => ?_, fun q => ?_⟩
          · have e : tch (tdM M k) S n (r + 1) p lim s = decide (cntB p n = n) := if_pos q
            rw [e] at f0 f1
            by_cases q : cntB p n = n
            · rw [(mk_full (by omega)).mpr q]
              exact f1 (decide_eq_true q)
            · exact f0 (decide_eq_false q) _ (fun e => q ((mk_full (by omega)).mp e))
          · have e : tch (tdM M k) S n (r + 1) p lim s = if p (cN (hiS (tdM M k) S s n)) = true ∧ hS (tdM M k) S (cN (hiS (tdM M k) S s n)) < lim ∧ dam (tdM M k) (cN (S 0 (cN (hiS (tdM M k) S s n)))) = false then tch (tdM M k) S n r (fun o => p o || hrB (tdM M k) S (cN (hiS (tdM M k) S s n)) o) (hS (tdM M k) S (cN (hiS (tdM M k) S s n))) (s &&& (bitI (cN (hiS (tdM M k) S s n)) ^^^ (-1))) else false := if_neg q
            intro P2 hP2
            have lh : ∀ d j, d = n - j → j ≤ n → P2 (hiS (tdM M k) S s j) (nI j) := by
              intro d
              induction d using Nat.strongRecOn with
              | ind d ih2 =>
                intro j hd hj
                apply hP2
                refine pk_le n j (fun h9 => ?_) (fun h9 => ?_) hn
                · rw [show j = n by omega]
                  obtain ⟨m, hm, em, hbm⟩ := hi_in (td := tdM M k) (S := S) hsb q
                  rw [em, cN_nI (by omega)] at e
                  rw [em]
                  have him : vp_in (nI m) 6 := vp_in_nI (by omega) (by omega)
                  obtain ⟨a, ea, -, ha8, -⟩ := iv_nI (hN.1 m (by omega)) (by decide)
                  have ea' : S' 0 m = nI a := (hA.1 m (by omega)).1.trans ea
                  have hv := hS_iv (o := m) hR hN (by omega)
                  refine e_hasM (by omega) (fun w => iz (f0 ?_ _ m1)) (fun w => oi (e_highMA hk (by omega) hN hA ⟨fun hle => f0 ?_ _ m1, fun hgt => ⟨him, ?_⟩⟩))
                  · rw [hb_mkB (by omega) n (by omega), decide_eq_true hm, Bool.true_and] at w
                    rw [e, if_neg (fun h => by rw [w] at h; exact absurd h.1 (by decide))]
                  · rw [e, if_neg (fun h => absurd h.2.1 (Int32.not_lt.mpr ((LMT_le hlm hv).mp hle)))]
                  · rw [hb_mkB (by omega) n (by omega), decide_eq_true hm, Bool.true_and] at w
                    rw [nI_clamp (by omega), ea']
                    refine e_damM hk (by omega) (fun hd => iz (e_highMA hk (by omega) hN hA (fun v1 ev1 => ⟨him, e_hearM hk (by omega) hL (fun set hset => ?_)⟩))) (fun hd => oi (f0 ?_ _ m1))
                    · have e2 : tch (tdM M k) S n (r + 1) p lim s = tch (tdM M k) S n r (fun o => p o || hrB (tdM M k) S m o) (hS (tdM M k) S m) (s &&& (bitI m ^^^ (-1))) := by
                        rw [e, if_pos ⟨w, Int32.not_le.mp (fun h => hgt ((LMT_le hlm hv).mpr h)), by rw [ea, cN_nI (by omega)]; exact hd⟩]
                      rw [e2] at f0 f1
                      have ev1' : v1 = s &&& (bitI m ^^^ (-1)) := ev1
                      subst ev1'
                      have sc := sub_c (by omega) hm hbm
                      have done := ih (fun o => p o || hrB (tdM M k) S m o) _ (hS (tdM M k) S m) _ (by omega) (sub_b (by omega) hsb) (Or.inl rfl) f1 f0
                      intro P3 hP3
                      have lo : ∀ d o, d = n - o → o ≤ n → P3 (mkB (fun x => p x || (decide (x < o) && hrB (tdM M k) S m x)) n) (nI o) := by
                        intro d
                        induction d using Nat.strongRecOn with
                        | ind d ih3 =>
                          intro o hd3 ho
                          apply hP3
                          refine pk_le n o (fun h8 => ?_) (fun h8 => ⟨vp_in_nI (by omega) (by omega), ?_⟩) hn
                          · rw [mkB_ext (p := fun x => p x || (decide (x < o) && hrB (tdM M k) S m x)) (q := fun x => p x || hrB (tdM M k) S m x) n (fun x hx => by
                              show (p x || (decide (x < o) && hrB (tdM M k) S m x)) = (p x || hrB (tdM M k) S m x)
                              rw [decide_eq_true (show x < o by omega), Bool.true_and])]
                            exact done
                          · obtain ⟨ao, eao, -, hao, -⟩ := iv_nI (hN.1 o (by omega)) (by decide)
                            have eao' : S' 0 o = nI ao := (hA.1 o (by omega)).1.trans eao
                            have ehr : hb set ao = hrB (tdM M k) S m o := by
                              rw [hset ao (by omega)]
                              unfold hrB
                              rw [ea, eao, cN_nI (by omega), cN_nI (by omega)]
                            have nx : ∀ y : Int32, (∀ x, x < 32 → hb y x = (decide (x = o) && hrB (tdM M k) S m o)) → q_m_taught_243 P P3 (M 5) (nI k) (tdM M k 1) (S' 0) (S' 1) (S' 2) (S' 4) (S' 5 0) (hS (tdM M k) S m) (s &&& (bitI m ^^^ (-1))) set (nI o) (mkB (fun x => p x || (decide (x < o) && hrB (tdM M k) S m x)) n) y post := by
                              intro y hy v1 ev1 v2 ev2
                              have ee : v1 = mkB (fun x => p x || (decide (x < o + 1) && hrB (tdM M k) S m x)) n := by
                                rw [ev1]
                                apply hb_eq
                                intro x hx
                                rw [hb_or, hy x hx, hb_mkB hx n (by omega), hb_mkB hx n (by omega)]
                                by_cases e3 : x = o
                                · subst e3
                                  rw [decide_eq_true (show x < n by omega), decide_eq_false (Nat.lt_irrefl x), decide_eq_true (rfl : x = x), decide_eq_true (show x < x + 1 by omega)]
                                  simp
                                · rw [decide_eq_false e3]
                                  by_cases e4 : x < o
                                  · rw [decide_eq_true e4, decide_eq_true (show x < o + 1 by omega)]
                                    simp
                                  · rw [decide_eq_false e4, decide_eq_false (show ¬ x < o + 1 by omega)]
                                    simp
                              rw [ee, ev2, nI_1]
                              exact ih3 (n - (o + 1)) (by omega) (o + 1) rfl (by omega)
                            rw [nI_clamp (by omega), eao']
                            refine e_hasM (by omega) (fun w2 => iz (nx 0 (fun x hx => ?_))) (fun w2 => oi (nx _ (fun x hx => ?_)))
                            · rw [hb_0, ← ehr, w2, Bool.and_false]
                            · rw [← ehr, w2, Bool.and_true, show hb ((1 : Int32) <<< (nI o &&& 31)) x = decide (o = x) from hb_b32' (by omega) hx]
                              by_cases e3 : x = o
                              · subst e3; rfl
                              · rw [decide_eq_false e3, decide_eq_false (fun h => e3 h.symm)]
                      have g := lo _ 0 rfl (by omega)
                      rw [mkB_ext (p := fun x => p x || (decide (x < 0) && hrB (tdM M k) S m x)) (q := p) n (fun x _ => by
                        show (p x || (decide (x < 0) && hrB (tdM M k) S m x)) = p x
                        rw [decide_eq_false (Nat.not_lt_zero x), Bool.false_and, Bool.or_false])] at g
                      exact g
                    · rw [e, if_neg (fun h => by have := h.2.2; rw [ea, cN_nI (by omega), hd] at this; exact absurd this (by decide))]
                · have eh : hiS (tdM M k) S s (j + 1) = if hb s j = true ∧ (hiS (tdM M k) S s j = -1 ∨ ¬ hS (tdM M k) S j ≤ hS (tdM M k) S (cN (hiS (tdM M k) S s j))) then nI j else hiS (tdM M k) S s j := rfl
                  have nx : ∀ x : Int32, x = hiS (tdM M k) S s (j + 1) → q_m_taught_131 P P2 (M 5) (nI k) (tdM M k 1) (S' 0) (S' 1) (S' 2) (S' 4) (S' 5 0) (mkB p n) limR s (nI j) x post := by
                    intro x hx v ev
                    rw [ev, nI_1, hx]
                    exact ih2 (n - (j + 1)) (by omega) (j + 1) rfl (by omega)
                  refine e_hasM (by omega) (fun w => iz (nx _ ?_)) (fun w => oi ⟨fun q1 => nx _ ?_, fun q1 => ?_⟩)
                  · rw [eh, if_neg (fun h => by rw [w] at h; exact absurd h.1 (by decide))]
                  · rw [eh, if_pos ⟨w, Or.inl q1⟩]
                  · rcases hiS_cs (td := tdM M k) (S := S) (s := s) j with ⟨h2, _⟩ | ⟨i, hi, ei, _⟩
                    · exact absurd h2 q1
                    · rw [ei]
                      refine e_highMA hk (by omega) hN hA (e_highMA hk (by omega) hN hA ⟨fun hle => nx _ ?_, fun hgt => nx _ ?_⟩)
                      · rw [eh, ei, cN_nI (by omega), if_neg (fun h => by
                          rcases h.2 with h2 | h2
                          · rw [ei] at q1; exact q1 h2
                          · exact h2 hle)]
                      · rw [eh, ei, cN_nI (by omega), if_pos ⟨w, Or.inr hgt⟩]
            exact lh _ 0 rfl (by omega)
      exact loop 6 _ lim limR (nI s) (Nat.le_trans (cnt_le _ n) hn6) hsb hlm g1 g0
    intro P hP
    have lk : ∀ d o, d = n - o → o ≤ n → P (mkB (fun x => decide (x < o) && hb (S 1 x) t) n) (nI o) := by
      intro d
      induction d using Nat.strongRecOn with
      | ind d ih =>
        intro o hd ho
        apply hP
        refine pk_le n o (fun h8 => ?_) (fun h8 => ⟨vp_in_nI (by omega) (by omega), ?_⟩) hn
        · rw [mkB_ext (p := fun x => decide (x < o) && hb (S 1 x) t) (q := fun x => hb (S 1 x) t) n (fun x hx => by
            show (decide (x < o) && hb (S 1 x) t) = hb (S 1 x) t
            rw [decide_eq_true (show x < o by omega), Bool.true_and])]
          exact fold
        · have nx : ∀ y : Int32, (∀ x, x < 32 → hb y x = (decide (x = o) && hb (S 1 o) t)) → q_m_taught_65 P (M 5) (nI k) (tdM M k 1) (S' 0) (S' 1) (S' 2) (S' 4) (S' 5 0) (nI t) limR (nI s) (nI o) (mkB (fun x => decide (x < o) && hb (S 1 x) t) n) y post := by
            intro y hy v1 ev1 v2 ev2
            have ee : v1 = mkB (fun x => decide (x < o + 1) && hb (S 1 x) t) n := by
              rw [ev1]
              apply hb_eq
              intro x hx
              rw [hb_or, hy x hx, hb_mkB hx n (by omega), hb_mkB hx n (by omega)]
              by_cases e3 : x = o
              · subst e3
                rw [decide_eq_true (show x < n by omega), decide_eq_false (Nat.lt_irrefl x), decide_eq_true (rfl : x = x), decide_eq_true (show x < x + 1 by omega)]
                simp
              · rw [decide_eq_false e3]
                by_cases e4 : x < o
                · rw [decide_eq_true e4, decide_eq_true (show x < o + 1 by omega)]
                  simp
                · rw [decide_eq_false e4, decide_eq_false (show ¬ x < o + 1 by omega)]
                  simp
            rw [ee, ev2, nI_1]
            exact ih (n - (o + 1)) (by omega) (o + 1) rfl (by omega)
          rw [nI_clamp (by omega), (hA.1 o (by omega)).2.1]
          refine e_hasM (by omega) (fun w2 => iz (nx 0 (fun x hx => ?_))) (fun w2 => oi (nx _ (fun x hx => ?_)))
          · rw [hb_0, w2, Bool.and_false]
          · rw [w2, Bool.and_true, show hb ((1 : Int32) <<< (nI o &&& 31)) x = decide (o = x) from hb_b32' (by omega) hx]
            by_cases e3 : x = o
            · subst e3; rfl
            · rw [decide_eq_false e3, decide_eq_false (fun h => e3 h.symm)]
    have g := lk _ 0 rfl (by omega)
    have z : mkB (fun x => decide (x < 0) && hb (S 1 x) t) n = 0 := by
      apply hb_eq
      intro x hx
      rw [hb_mkB hx n (by omega), hb_0, decide_eq_false (Nat.not_lt_zero x), Bool.false_and, Bool.and_false]
    rw [z] at g
    exact g
  unfold TCH at h0 h1
  have hbe : S' 5 0 = S 5 0 := hA.2.2.2.1
  refine e_hasM (by omega) (fun q => iz ?_) (fun q => oi ⟨vp_in_nI (by omega) (by omega), ?_⟩)
  · rw [hbe] at q
    rw [if_neg (by rw [q]; decide)] at h0 h1
    exact main 1000 1000000 (Or.inr ⟨rfl, rfl⟩) h1 h0
  · rw [hbe] at q
    rw [if_pos q] at h0 h1
    rw [nI_clamp (by omega), hA.2.2.1 t ht q]
    exact main (S 4 t) (S 4 t) (Or.inl rfl) h1 h0
end
set_option maxRecDepth 40000 in
set_option maxHeartbeats 4000000 in
theorem e_m_teach {M : Nat → Nat → Int32} {f_code f_land f_huts f_singers f_evening f_begun f_minute f_avalanches a b c d : Int32} {a_at a_knows a_climbed a_snow a_level : Nat → Int32} {post : Int32 → (Int32) → (Int32) → (Int32) → (Int32) → (Int32) → (Nat → Int32) → (Nat → Int32) → (Nat → Int32) → (Nat → Int32) → (Nat → Int32) → (Int32) → (Int32) → (Int32) → Prop} (hc : ∀ o, iv 0 2 (M 4 o)) (hL : mLand (M 5)) (hE : mEve (M 6)) (hK : LK M) (hp : ∀ z0 z1 z2 z3 z4 z5 z6 z7 z8 z9 z10 z11 z12, post (AN_teach M a b c d) z0 z1 z2 z3 z4 z5 z6 z7 z8 z9 z10 z11 z12) : q_m_teach_0 f_code (M 4) (M 5) (M 6) f_land f_huts f_singers f_evening a_at a_knows a_climbed a_snow a_level f_begun f_minute f_avalanches a b c d post := by
  unfold AN_teach at hp
  have no : ¬ (OKst M a b c ∧ (0 ≤ d ∧ d ≤ 4)) → ∀ z0 z1 z2 z3 z4 z5 z6 z7 z8 z9 z10 z11 z12, post (-1) z0 z1 z2 z3 z4 z5 z6 z7 z8 z9 z10 z11 z12 := fun hn => by rw [if_neg hn] at hp; exact hp
  refine e_layAllM hc (fun hn x y z w => iz (no (fun h9 => hn h9.1.1) _ _ _ _ _ _ _ _ _ _ _ _ _)) (fun k e hk he ea eb h1 h2 => oi ?_)
  subst ea eb
  have hO : LOK (rowM M 0 (nI k)) := LK_row hK hk h1.2
  have hR : RNG (tdM M k) := RNG_M hL hk
  refine e_deedsM he (sp_in (fun hn => iz (no (fun h9 => hn h9.1.2.1) _ _ _ _ _ _ _ _ _ _ _ _ _)) (fun g1 g2 => oi ?_))
  obtain ⟨d0, ed, -, hd40, -⟩ := iv_nI (ev0_iv hE he) (by decide)
  have g2' := g2
  rw [ed] at g2'
  obtain ⟨m, hm, rfl⟩ := nI_of2 (M := nI d0) (n := d0) (nI_toInt (by omega)) (Int32.not_lt.mpr g1) g2'
  refine e_playM hk he (by omega) hL hE hO (fun S' hS => ?_)
  have ecl : cN (nI m) = m := cN_nI (by omega)
  have ple : (PL M (nI k) (nI e) m).1 ≤ m := by
    have := (plays_le (td := tdM M k) (ev := rowM M 1 (nI e)) m 0 (S0 (tdM M k))).2
    rw [Nat.zero_add] at this
    exact this
  refine ⟨fun hlt => no (fun h9 => ?_) _ _ _ _ _ _ _ _ _ _ _ _ _, fun hge => sp_in (fun h => zi (no (fun h9 => h h9.2) _ _ _ _ _ _ _ _ _ _ _ _ _)) (fun d1 d2 => io ?_)⟩
  · have h8 := h9.1.2.2
    rw [ecl] at h8
    have h7 : nI (PL M (nI k) (nI e) m).1 < nI m := hlt
    rw [h8] at h7
    exact absurd h7 (Int32.not_lt.mpr (Int32.le_refl _))
  have heq : nI (PL M (nI k) (nI e) m).1 = nI m := by
    apply Classical.byContradiction
    intro hne
    exact hge (nI_lt (by
      have : ¬ (PL M (nI k) (nI e) m).1 = m := fun h => hne (by rw [h])
      exact Nat.lt_of_le_of_ne ple this) (by omega))
  rw [if_pos ⟨⟨⟨h1, h2⟩, ⟨g1, g2⟩, by rw [ecl]; exact heq⟩, d1, d2⟩, ecl] at hp
  obtain ⟨t, ht, rfl⟩ := nI_of2 (M := 4) (n := 4) (by decide) (Int32.not_lt.mpr d1) d2
  obtain ⟨n, hn, -, hn6, -⟩ := iv_nI (show iv 0 6 (tdM M k 1) from hR 1 (by omega)) (by decide)
  have hn6' : n ≤ 6 := by omega
  have hpw := pow_b (n := n) (by omega)
  have hNS : NOK (tdM M k) (PL M (nI k) (nI e) m).2 := PL_ok hL hk hO
  unfold TEA at hp
  rw [show rowM M 0 (nI k) 1 = nI n from hn, cN_nI (n := n) (by omega), cN_nI (n := t) (by omega)] at hp
  have efull : ((1 : Int32) <<< (tdM M k 1 &&& 31)) - 1 = nI (2 ^ n - 1) := by
    rw [hn, sh_pow (by omega)]
    exact pk_sub (b := 1) (Nat.two_pow_pos n)
  intro P hP
  have loop : ∀ d s, d = 2 ^ n - s → s ≤ 2 ^ n → P (fT (tdM M k) (PL M (nI k) (nI e) m).2 n t s) (nI s) := by
    intro d
    induction d using Nat.strongRecOn with
    | ind d ih =>
      intro s hd hs
      apply hP
      refine pk_le (2 ^ n) s (fun h9 => by rw [show s = 2 ^ n by omega]; exact hp _ _ _ _ _ _ _ _ _ _ _ _ _) (fun h9 => ?_) (show (1 : Int32) <<< (tdM M k 1 &&& 31) = nI (2 ^ n) by rw [hn]; exact sh_pow (by omega)) rfl (by omega) (by omega)
      have e1 : fT (tdM M k) (PL M (nI k) (nI e) m).2 n t (s + 1) = if (fT (tdM M k) (PL M (nI k) (nI e) m).2 n t s = -1 ∨ ¬ fT (tdM M k) (PL M (nI k) (nI e) m).2 n t s ≤ nI (cS (nI s))) ∧ TCH (tdM M k) (PL M (nI k) (nI e) m).2 n t s = true then nI (cS (nI s)) else fT (tdM M k) (PL M (nI k) (nI e) m).2 n t s := rfl
      have nx : ∀ x : Int32, x = fT (tdM M k) (PL M (nI k) (nI e) m).2 n t (s + 1) → ∀ v : Int32, v = nI s + 1 → P x v := by
        intro x hx v ev
        rw [ev, hx, nI_1]
        exact ih (2 ^ n - (s + 1)) (by omega) (s + 1) rfl (by omega)
      refine e_taughtM (S := (PL M (nI k) (nI e) m).2) hk hL hNS hS hn hn6' (by omega) h9 (fun q => ⟨fun hne => absurd efull.symm hne, fun _ => ⟨fun h8 => absurd h8 (by decide), fun _ => ⟨fun q1 => e_onesM (nx _ ?_), fun q1 => e_onesM ⟨fun hle => nx _ ?_, fun hgt => e_onesM (nx _ ?_)⟩⟩⟩⟩) (fun q r hr => ⟨fun _ => ⟨fun _ => nx _ ?_, fun h8 => absurd rfl h8⟩, fun h8 => absurd (h8.trans efull) hr⟩)
      · rw [e1, if_pos ⟨Or.inl q1, q⟩]; rfl
      · rw [e1, if_neg (fun h => by rcases h.1 with h7 | h7; exact q1 h7; exact h7 hle)]
      · rw [e1, if_pos ⟨Or.inr hgt, q⟩]; rfl
      · rw [e1, if_neg (fun h => by rw [q] at h; exact absurd h.2 (by decide))]
  exact loop _ 0 rfl (Nat.zero_le _)
set_option maxRecDepth 40000 in
set_option maxHeartbeats 4000000 in
theorem e_x_teach {T : TT} {M : Nat → Nat → Int32} {nf_minute nf_avalanches nf_begun nf_climbed a b c d : Int32} {na_huts na_known na_levels na_snow : Nat → Int32} {post : Int32 → (Int32) → (Int32) → (Int32) → (Int32) → (Nat → Int32) → (Nat → Int32) → (Nat → Int32) → (Nat → Int32) → Prop} (h : TM T M 0) (hB : tB T) (hK : LK M) (hL : mLand (M 5)) (hE : mEve (M 6)) (hp : ∀ z0 z1 z2 z3 z4 z5 z6 z7, post (AN_teach M a b c d) z0 z1 z2 z3 z4 z5 z6 z7) : q_wx_X10_teach_0 (T.2 1) (T.1 3) (T.1 4) (T.1 6) (T.1 7) (T.1 8) (T.2 2) (T.2 3) (T.2 4) (T.2 5) (T.2 6) (T.2 7) (T.2 8) (T.2 9) (T.1 10) (T.1 11) (T.1 13) (T.1 14) (T.1 15) (T.2 10) (T.2 11) (T.2 12) (T.2 13) (T.2 14) (T.2 15) (T.2 16) (T.2 17) (T.1 17) (T.2 18) (T.2 19) (T.2 20) (T.1 18) (T.2 21) (T.2 22) (T.2 23) nf_minute nf_avalanches nf_begun nf_climbed na_huts na_known na_levels na_snow a b c d post := by
  unfold AN_teach at hp
  refine ⟨fun c0 => ?_, fun c0 => ⟨fun c5 => ?_, fun c5 => ?_⟩⟩
  · rw [if_neg (fun h9 => absurd c0 (Int32.not_lt.mpr h9.2.1))] at hp; exact hp _ _ _ _ _ _ _ _
  · rw [if_neg (fun h9 => by
      have h1 := Int32.le_iff_toInt_le.mp c5
      have h2 := Int32.le_iff_toInt_le.mp h9.2.2
      have z5 : (5 : Int32).toInt = 5 := rfl
      have z4 : (4 : Int32).toInt = 4 := rfl
      omega)] at hp; exact hp _ _ _ _ _ _ _ _
  have hd : 0 ≤ d ∧ d ≤ 4 := ⟨Int32.not_lt.mp c0, by
    have h1 := Int32.lt_iff_toInt_lt.mp (Int32.not_le.mp c5)
    have z5 : (5 : Int32).toInt = 5 := rfl
    have z4 : (4 : Int32).toInt = 4 := rfl
    rw [Int32.le_iff_toInt_le]
    omega⟩
  refine e_x_reachState h hB hK hL hE (fun hn n0 n1 n2 n3 n4 n5 n6 n7 => zi ?_) (fun hy n0 n1 n2 n3 n4 n5 n6 n7 hG => io ?_)
  · rw [if_neg (fun h9 => hn h9.1)] at hp; exact hp _ _ _ _ _ _ _ _
  · rw [if_pos ⟨hy, hd⟩] at hp
    have hy0 := hy.1.1
    rw [TM_cnt h 0 (by decide)] at hy0
    obtain ⟨t, ht, et⟩ := nI_of2 (M := 4) (n := 4) (by decide) c0 hd.2
    subst et
    obtain ⟨k, hk, ea⟩ := lt_nI (m := 2) (hB.2.2.1 0) hy0
    subst ea
    have hOK : LOK (rowM M 0 (nI k)) := LK_row hK hk (by rw [TM_cnt h 0 (by decide)]; exact hy0.2)
    have hNK := PL_ok (b := b) (n := cN c) hL hk hOK
    have hk2 : k = 0 ∨ k = 1 := by omega
    rcases hk2 with rfl | rfl
    · have hla : nI 0 < T.2 1 0 := hy0.2
      have hLD : LDR (T.1 3) (T.1 4) (T.1 5) (T.1 6) (T.1 7) (T.1 8) (T.1 9) (T.2 2) (T.2 3) (T.2 4) (T.2 5) (T.2 6) (T.2 7) (T.2 8) (T.2 9) (rowM M 0 (nI 0)) := TM_sl h 0 0 (by decide) (by decide) hla
      have hR : RNG (rowM M 0 (nI 0)) := RNG_M hL (by decide)
      have hX := LX_of hR hLD
      obtain ⟨n, hn, -, hn6, -⟩ := iv_nI (show iv 0 6 (rowM M 0 (nI 0) 1) from hR 1 (by omega)) (by decide)
      unfold TEA at hp
      rw [hn, cN_nI (n := n) (by omega), cN_nI (n := t) (by omega)] at hp
      refine ⟨vp_in_nI (by decide) (by decide), fun h9 => ?_, fun h9 => ?_⟩
      · exact e_fewTimesX hR hNK hG hX hn (by omega) (by omega) (hp _ _ _ _ _ _ _ _)
      · exact absurd rfl h9
    · have hla : nI 1 < T.2 1 0 := hy0.2
      have hLD : LDR (T.1 10) (T.1 11) (T.1 12) (T.1 13) (T.1 14) (T.1 15) (T.1 16) (T.2 10) (T.2 11) (T.2 12) (T.2 13) (T.2 14) (T.2 15) (T.2 16) (T.2 17) (rowM M 0 (nI 1)) := TM_sl h 0 1 (by decide) (by decide) hla
      have hR : RNG (rowM M 0 (nI 1)) := RNG_M hL (by decide)
      have hX := LX_of hR hLD
      obtain ⟨n, hn, -, hn6, -⟩ := iv_nI (show iv 0 6 (rowM M 0 (nI 1) 1) from hR 1 (by omega)) (by decide)
      unfold TEA at hp
      rw [hn, cN_nI (n := n) (by omega), cN_nI (n := t) (by omega)] at hp
      refine ⟨vp_in_nI (by decide) (by decide), fun h9 => ?_, fun h9 => ?_⟩
      · exact absurd h9 (by decide)
      · exact e_fewTimesX hR hNK hG hX hn (by omega) (by omega) (hp _ _ _ _ _ _ _ _)

