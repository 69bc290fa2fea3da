theorem hi_tab : ((List.range 32).all fun m => (List.range 32).all fun k => decide (k < 5) || !hb (nI m) k) = true := by decide +kernel
theorem hb_hi {x : Int32} {k : Nat} (hx : iv 0 31 x) (hk : k < 32) (h5 : 5 ≤ k) : hb x k = false := by
  obtain ⟨m, rfl, -, hm, -⟩ := iv_nI hx (by decide)
  have g := List.all_eq_true.mp (List.all_eq_true.mp hi_tab m (List.mem_range.mpr (by omega))) k (List.mem_range.mpr hk)
  rw [decide_eq_false (by omega), Bool.false_or] at g
  simpa using g
theorem min_lt (v x L : Int32) : ((if v < x then v else x) < L) ↔ (v < L ∨ x < L) := by
  by_cases h : v < x
  · rw [if_pos h]
    constructor
    · exact Or.inl
    · rintro (h2 | h2)
      · exact h2
      · exact Int32.lt_trans h h2
  · rw [if_neg h]
    constructor
    · exact Or.inr
    · rintro (h2 | h2)
      · rw [Int32.lt_iff_toInt_lt] at h2 ⊢
        have := r_nlt h
        omega
      · exact h2
section
variable {td : Nat → Int32} {S : Nat → Nat → Int32} {mi av be cl : Int32} {hu kn lv sn op : Nat → Int32} {huts singers dams echoes deep : Int32} {heights ladders minutes echoFrom echoTo talls : Nat → Int32}
theorem e_seersX {post : Int32 → Prop} (hR : RNG td) (hG : XG td S mi av be cl hu kn lv sn) (hd : singers = td 1) (hp : post (SEER td S)) : q_wn_X3_seers_6_0 be kn singers post := by
  obtain ⟨c, hc, -, hc6, -⟩ := iv_nI (show iv 0 6 (td 1) from hR 1 (by omega)) (by decide)
  unfold SEER at hp
  rw [hc, cN_nI (by omega)] at hp
  intro P hP
  have loop : ∀ m j, m = c - j → j ≤ c → P (mkB (fun s => decide ((S 5 0 &&& (S 1 s ^^^ (-1))) = 0)) j) (nI j) := by
    intro m
    induction m using Nat.strongRecOn with
    | ind m ih =>
      intro j hm hj
      apply hP
      rw [hd, hc]
      refine pk_le c j (fun h9 => ?_) (fun h9 => ⟨vp_in_nI (by omega) (by omega), ?_⟩)
      · rw [show j = c by omega]; exact hp
      · have nx : ∀ y : Int32, y = mkB (fun s => decide ((S 5 0 &&& (S 1 s ^^^ (-1))) = 0)) (j + 1) → q_wn_X3_seers_6_34 P be kn (nI c) y (nI j) post := by
          intro y hy v e
          rw [e, hy, nI_1]
          exact ih (c - (j + 1)) (by omega) (j + 1) rfl (by omega)
        have e : mkB (fun s => decide ((S 5 0 &&& (S 1 s ^^^ (-1))) = 0)) (j + 1) = mkB (fun s => decide ((S 5 0 &&& (S 1 s ^^^ (-1))) = 0)) j ||| (if decide ((S 5 0 &&& (S 1 j ^^^ (-1))) = 0) = true then bitI j else 0) := rfl
        rw [nI_clamp (by omega), hG.2.2.1 j (by omega), hG.2.2.2.2.2.1]
        rw [hG.2.2.2.2.2.1] at nx
        refine ⟨fun h => nx _ ?_, fun h v ev => nx _ ?_⟩
        · rw [e, if_neg (by rw [decide_eq_false h]; decide), or_0]
        · rw [e, if_pos (decide_eq_true h), ev]; rfl
  exact loop _ 0 rfl (by omega)
theorem e_knowersX {t : Nat} {post : Int32 → Prop} (hR : RNG td) (hG : XG td S mi av be cl hu kn lv sn) (hd : singers = td 1) (ht : t < 31) (hp : post (mkB (fun o => hb (S 1 o) t) (cN (td 1)))) : q_wn_X3_knowers_6_0 kn singers (nI t) post := by
  obtain ⟨c, hc, -, hc6, -⟩ := iv_nI (show iv 0 6 (td 1) from hR 1 (by omega)) (by decide)
  rw [hc, cN_nI (by omega)] at hp
  intro P hP
  have loop : ∀ m j, m = c - j → j ≤ c → P (mkB (fun o => hb (S 1 o) t) j) (nI j) := by
    intro m
    induction m using Nat.strongRecOn with
    | ind m ih =>
      intro j hm hj
      apply hP
      rw [hd, hc]
      refine pk_le c j (fun h9 => ?_) (fun h9 => ⟨vp_in_nI (by omega) (by omega), ?_⟩)
      · rw [show j = c by omega]; exact hp
      · have nx : ∀ y : Int32, y = mkB (fun o => hb (S 1 o) t) (j + 1) → q_wn_X3_knowers_6_35 P kn (nI c) (nI t) y (nI j) post := by
          intro y hy v e
          rw [e, hy, nI_1]
          exact ih (c - (j + 1)) (by omega) (j + 1) rfl (by omega)
        have e : mkB (fun o => hb (S 1 o) t) (j + 1) = mkB (fun o => hb (S 1 o) t) j ||| (if hb (S 1 j) t = true then bitI j else 0) := rfl
        rw [nI_clamp (by omega), hG.2.2.1 j (by omega)]
        refine e_hasX ht (fun h => iz (nx _ ?_)) (fun h => oi (fun v ev => nx _ ?_))
        · rw [e, if_neg (by rw [h]; decide), or_0]
        · rw [e, if_pos h, ev]; rfl
  exact loop _ 0 rfl (by omega)
/-- the ways that can be walked now -/
theorem e_openX {post : (Nat → Int32) → Prop} {n : Nat} (hn : td 0 = nI n) (hn9 : n ≤ 9) (hG : ∀ j, j < 9 → sn j = S 3 j) (h0 : huts = td 0) (h5 : deep = td 5) (hm : ∀ j, j < 81 → minutes j = td (51 + j)) (hp : ∀ op', (∀ a, a < n → ∀ b, b < 32 → hb (op' a) b = (decide (b < n) && wayB td (S 3) a b)) → post op') : q_wn_X3_openWays_6_0 sn op huts deep minutes post := by
  intro P hP
  have loop : ∀ m a (op1 : Nat → Int32), m = n - a → a ≤ n → (∀ a', a' < a → ∀ b, b < 32 → hb (op1 a') b = (decide (b < n) && wayB td (S 3) a' b)) → P (nI a) op1 := by
    intro m
    induction m using Nat.strongRecOn with
    | ind m ih =>
      intro a op1 hma ha hq
      apply hP
      rw [h0, hn]
      refine pk_le n a (fun h9 => ?_) (fun h9 => ⟨vp_in_nI (by omega) (by omega), fun op2 e2 => ?_⟩)
      · exact hp op1 (fun a' ha' => hq a' (by omega))
      · rw [nI_clamp (by omega)] at e2
        intro P2 hP2
        have loop2 : ∀ m b (op3 : Nat → Int32), m = n - b → b ≤ n → (∀ a', a' < a → op3 a' = op1 a') → (∀ b', b' < 32 → hb (op3 a) b' = (decide (b' < b) && wayB td (S 3) a b')) → P2 (nI b) op3 := by
          intro m
          induction m using Nat.strongRecOn with
          | ind m ih2 =>
            intro b op3 hmb hble hold hrow
            apply hP2
            refine pk_le n b (fun h8 v ev => ?_) (fun h8 => ?_)
            · rw [ev, nI_1]
              refine ih (n - (a + 1)) (by omega) (a + 1) op3 rfl (by omega) (fun a' ha' b' hb' => ?_)
              by_cases e : a' = a
              · subst e
                rw [hrow b' hb', show b = n by omega]
              · rw [hold a' (by omega)]
                exact hq a' (by omega) b' hb'
            · have ei : (nI a * 9) + nI b = nI (9 * a + b) := by rw [jx9, Nat.mul_comm]
              have nx : ∀ op4 : Nat → Int32, (∀ a', a' < a → op4 a' = op1 a') → (∀ b', b' < 32 → hb (op4 a) b' = (decide (b' < b + 1) && wayB td (S 3) a b')) → q_wn_X3_openWays_6_71 P P2 sn op4 (nI n) deep minutes (nI a) (nI b) post := by
                intro op4 h1 h2 v ev
                rw [ev, nI_1]
                exact ih2 (n - (b + 1)) (by omega) (b + 1) op4 rfl (by omega) h1 h2
              have stay : wayB td (S 3) a b = false → q_wn_X3_openWays_6_71 P P2 sn op3 (nI n) deep minutes (nI a) (nI b) post := fun hf => nx op3 hold (fun b' hb' => by
                rw [hrow b' hb']
                by_cases e : b' = b
                · subst e; rw [hf, Bool.and_false, Bool.and_false]
                · by_cases hlt : b' < b
                  · rw [decide_eq_true hlt, decide_eq_true (by omega)]
                  · rw [decide_eq_false hlt, decide_eq_false (by omega)])
              rw [ei]
              refine ⟨vp_in_nI (by omega) (by omega), ?_⟩
              rw [nI_clamp (by omega), hm (9 * a + b) (by omega), show 51 + (9 * a + b) = 51 + 9 * a + b by omega]
              have w0 : ∀ x y : Bool, decide (sn a < td 5) = x → decide (sn b < td 5) = y → ∀ z : Bool, decide (0 < td (51 + 9 * a + b)) = z → wayB td (S 3) a b = (z && x && y) := by
                intro x y hx hy z hz
                unfold wayB
                rw [← hx, ← hy, ← hz, hG a (by omega), hG b (by omega)]
              refine ⟨fun hle => stay ?_, fun hlt => ?_⟩
              · rw [w0 _ _ rfl rfl false (decide_eq_false (Int32.not_lt.mpr hle))]; rfl
              · have hz : decide (0 < td (51 + 9 * a + b)) = true := decide_eq_true (Int32.not_le.mp hlt)
                refine e_cutX (sn' := sn) h5 (by omega) rfl (fun q1 => zi ?_) (fun q1 => io (stay ?_))
                · refine e_cutX (sn' := sn) h5 (by omega) rfl (fun q2 => zi ⟨vp_in_nI (by omega) (by omega), fun v ev => ⟨vp_in_nI (by omega) (by omega), fun op4 e4 => nx op4 (fun a' ha' => ?_) (fun b' hb' => ?_)⟩⟩) (fun q2 => io (stay ?_))
                  · rw [e4, nI_clamp (by omega), up_n (by omega)]; exact hold a' ha'
                  · rw [nI_clamp (by omega)] at ev e4
                    rw [e4, up_s, ev, hb_or, hrow b' hb', show (1 : Int32) <<< (nI b &&& 31) = bitI b from rfl, hb_b32 (by omega) hb']
                    by_cases e : b' = b
                    · subst e
                      rw [w0 true true q1 q2 true hz, decide_eq_true (rfl : b' = b'), decide_eq_true (Nat.lt_succ_self b'), Bool.or_true]; rfl
                    · rw [de_ne e, Bool.or_false]
                      by_cases hlt : b' < b
                      · rw [decide_eq_true hlt, decide_eq_true (by omega)]
                      · rw [decide_eq_false hlt, decide_eq_false (by omega)]
                  · rw [w0 _ _ q1 q2 true hz]; rfl
                · rw [w0 _ _ q1 rfl true hz]; rfl
        exact loop2 _ 0 op2 rfl (by omega) (fun a' ha' => by rw [e2, up_n (by omega)]) (fun b' hb' => by rw [e2, up_s, hb_0, decide_eq_false (Nat.not_lt_zero b')]; rfl)
  exact loop _ 0 op rfl (by omega) (fun a' ha' => absurd ha' (Nat.not_lt_zero a'))
theorem e_lowX {s n f : Nat} {post : Int32 → Prop} (hR : RNG td) (hN : NOK td S) (hG : XG td S mi av be cl hu kn lv sn) (hD : LX td huts singers dams echoes deep heights ladders minutes echoFrom echoTo talls) (hn : td 0 = nI n) (hn9 : n ≤ 9) (hs : s < 6) (hl : nI s < td 1) (hf : S 0 s = nI f) (hfn : f < n) (ho : ∀ a, a < n → ∀ b, b < 32 → hb (op a) b = (decide (b < n) && wayB td (S 3) a b)) (hp : ∀ low, (∀ L : Int32, L ≤ 1000 → (low < L ↔ anyB (fun h => clB (wayB td (S 3)) n f h && (!dam td h && decide (td (7 + h) - td (31 + s) < L))) n = true)) → post low) : q_wn_X3_lowest_6_0 hu op huts dams heights talls (nI s) post := by
  refine ⟨vp_in_nI hs (by omega), ?_⟩
  rw [nI_clamp (by omega), hG.2.1 s hs hl, hf]
  refine e_reachN (n := n) (f := f) (bar := 0) hn9 hfn rfl rfl (fun a ha b hb1 h => ?_) (fun set hset => ?_)
  · rw [ho a ha b hb1, Bool.and_eq_true] at h
    exact of_decide_eq_true h.1
  have hcl : ∀ h, h < n → hb set h = clB (wayB td (S 3)) n f h := by
    intro h hh
    rw [hset h (by omega), decide_eq_true hh, Bool.true_and]
    refine clB_ext (fun a b ha hb1 => ?_)
    rw [ho a ha b (by omega), hb_0, decide_eq_true hb1]
    simp
  intro P hP
  have loop : ∀ m h (x : Int32), m = n - h → h ≤ n → (∀ L : Int32, L ≤ 1000 → (x < L ↔ anyB (fun h => clB (wayB td (S 3)) n f h && (!dam td h && decide (td (7 + h) - td (31 + s) < L))) h = true)) → P x (nI h) := by
    intro m
    induction m using Nat.strongRecOn with
    | ind m ih =>
      intro h x hm hh hx
      apply hP
      rw [hD.1, hn]
      refine pk_le n h (fun h9 => hp x (fun L hL => by rw [hx L hL, show h = n by omega])) (fun h9 => ?_)
      have nx : ∀ y : Int32, (∀ L : Int32, L ≤ 1000 → (y < L ↔ anyB (fun h => clB (wayB td (S 3)) n f h && (!dam td h && decide (td (7 + h) - td (31 + s) < L))) (h + 1) = true)) → q_wn_X3_lowest_6_71 P hu op (nI n) dams heights talls (nI s) set y (nI h) post := by
        intro y hy v ev
        rw [ev, nI_1]
        exact ih (n - (h + 1)) (by omega) (h + 1) y rfl (by omega) hy
      have st : ∀ L : Int32, anyB (fun h => clB (wayB td (S 3)) n f h && (!dam td h && decide (td (7 + h) - td (31 + s) < L))) (h + 1) = (anyB (fun h => clB (wayB td (S 3)) n f h && (!dam td h && decide (td (7 + h) - td (31 + s) < L))) h || (clB (wayB td (S 3)) n f h && (!dam td h && decide (td (7 + h) - td (31 + s) < L)))) := fun _ => rfl
      refine e_hasX (by omega) (fun hh0 => iz (nx x (fun L hL => ?_))) (fun hh1 => oi ?_)
      · rw [hcl h h9] at hh0
        rw [st, hh0, Bool.false_and, Bool.or_false]
        exact hx L hL
      · rw [hcl h h9] at hh1
        refine e_damX (by omega) (fun hd0 => zi ⟨vp_in_nI (by omega) (by omega), vp_in_nI hs (by omega), fun v ev => nx v (fun L hL => ?_)⟩) (fun hd1 => io (nx x (fun L hL => ?_)))
        · rw [nI_clamp (by omega), nI_clamp (by omega), hD.2.2.2.2.2.1 h (by omega) (by rw [hn]; exact nI_lt h9 (by omega)), hD.2.2.2.2.2.2.2.2.2 s hs hl] at ev
          rw [hD.2.2.1] at hd0
          have hd0' : dam td h = false := hd0
          rw [ev, min_lt, st, hh1, hd0', Bool.or_eq_true, hx L hL]
          constructor
          · rintro (q | q)
            · exact Or.inr (by rw [decide_eq_true q]; rfl)
            · exact Or.inl q
          · rintro (q | q)
            · exact Or.inr q
            · exact Or.inl (of_decide_eq_true (by simpa using q))
        · rw [hD.2.2.1] at hd1
          have hd1' : dam td h = true := hd1
          rw [st, hd1', Bool.not_true, Bool.false_and, Bool.and_false, Bool.or_false]
          exact hx L hL
  refine loop _ 0 1000 rfl (by omega) (fun L hL => ?_)
  constructor
  · intro h
    exact absurd h (Int32.not_lt.mpr hL)
  · intro h
    exact absurd (show false = true from h) (by decide)
theorem e_doneForX {post : Int32 → (Nat → Int32) → Prop} (hR : RNG td) (hN : NOK td S) (hG : XG td S mi av be cl hu kn lv sn) (hD : LX td huts singers dams echoes deep heights ladders minutes echoFrom echoTo talls) (hp : ∀ op', post (DF td S) op') : q_wn_X3_doneFor_6_0 be hu kn lv sn op huts singers dams deep heights minutes talls post := by
  obtain ⟨n, hn, -, hn9, -⟩ := iv_nI (show iv 0 9 (td 0) from hR 0 (by omega)) (by decide)
  obtain ⟨c, hc, -, hc6, -⟩ := iv_nI (show iv 0 6 (td 1) from hR 1 (by omega)) (by decide)
  refine e_openX hn (by omega) hG.2.2.2.2.1 hD.1 hD.2.2.2.2.1 hD.2.2.2.2.2.2.2.1 (fun op1 ho => ?_)
  have fin : ∀ r : Int32, (∀ t, t < 5 → hb r t = (hb (S 5 0) t && !dnB td S t)) → (∀ k, k < 32 → 5 ≤ k → hb r k = false) → post r op1 := by
    intro r h1 h2
    have e : r = DF td S := by
      apply hb_eq
      intro k hk
      unfold DF
      rw [hb_mkB hk 5 (by omega)]
      by_cases h5 : k < 5
      · rw [decide_eq_true h5, Bool.true_and]; exact h1 k h5
      · rw [decide_eq_false h5, Bool.false_and]; exact h2 k hk (by omega)
    rw [e]
    exact hp op1
  have un : ∀ t, dnB td S t = anyB (dsB td S t) c := by
    intro t
    unfold dnB
    rw [hc, cN_nI (by omega)]
  intro P hP
  have loop : ∀ m s (x : Int32), m = c - s → s ≤ c → (∀ t, t < 5 → hb x t = (hb (S 5 0) t && !anyB (dsB td S t) s)) → (∀ k, k < 32 → 5 ≤ k → hb x k = false) → P x (nI s) := by
    intro m
    induction m using Nat.strongRecOn with
    | ind m ih =>
      intro s x hm hs hx hx5
      apply hP
      rw [hD.2.1, hc]
      refine pk_le c s (fun h9 => ?_) (fun h9 => ?_)
      · exact fin x (fun t ht => by rw [hx t ht, un, show s = c by omega]) hx5
      · have hlc : nI s < td 1 := by rw [hc]; exact nI_lt h9 (by omega)
        obtain ⟨f, ef, -, hf8, -⟩ := iv_nI (hN.1 s (by omega)) (by decide)
        have hfn : f < n := by
          have h7 := hN.2.2.2.2.1 s (by omega) hlc
          rw [ef, hn] at h7
          exact (nI_ltI (by omega) (by omega)).mp h7
        refine e_lowX hR hN hG hD hn (by omega) (by omega) hlc ef hfn ho (fun low hlow => ?_)
        have hlv : ∀ t, t < 5 → (low < S 4 t ↔ anyB (spB td S t s) n = true) := by
          intro t ht
          have h1000 : S 4 t ≤ 1000 := by
            rw [Int32.le_iff_toInt_le]
            have := (hN.2.2.2.2.2.1 t ht).2
            have e1000 : (1000 : Int32).toInt = 1000 := rfl
            omega
          rw [hlow (S 4 t) h1000]
          have e : anyB (fun h => clB (wayB td (S 3)) n f h && (!dam td h && decide (td (7 + h) - td (31 + s) < S 4 t))) n = anyB (spB td S t s) n := any_ext n (fun h hh => by unfold spB; rw [hn, cN_nI (by omega), ef, cN_nI (by omega)])
          rw [e]
        have dse : ∀ t, dsB td S t s = (hb (S 1 s) t && anyB (spB td S t s) n) := by
          intro t
          unfold dsB
          rw [hn, cN_nI (by omega)]
        intro P2 hP2
        have loop2 : ∀ m t (y : Int32), m = 5 - t → t ≤ 5 → (∀ t', t' < 5 → hb y t' = (hb (S 5 0) t' && !anyB (dsB td S t') (if t' < t then s + 1 else s))) → (∀ k, k < 32 → 5 ≤ k → hb y k = false) → P2 y (nI t) := by
          intro m
          induction m using Nat.strongRecOn with
          | ind m ih2 =>
            intro t y hm2 ht hy hy5
            apply hP2
            refine pk_le 5 t (fun h8 v ev => ?_) (fun h8 => ⟨vp_in_nI (by omega) (by omega), ?_⟩)
            · rw [ev, nI_1]
              exact ih (c - (s + 1)) (by omega) (s + 1) y rfl (by omega) (fun t' ht' => by rw [hy t' ht', if_pos (by omega)]) hy5
            · have nx : ∀ z : Int32, (∀ t', t' < 5 → hb z t' = (hb (S 5 0) t' && !anyB (dsB td S t') (if t' < t + 1 then s + 1 else s))) → (∀ k, k < 32 → 5 ≤ k → hb z k = false) → q_wn_X3_doneFor_6_72 P P2 be hu kn lv sn op1 huts (nI c) dams deep heights minutes talls z (nI s) low (nI t) post := by
                intro z hz hz5 v ev
                rw [ev, nI_1]
                exact ih2 (5 - (t + 1)) (by omega) (t + 1) z rfl (by omega) hz hz5
              have step : ∀ t', t' < 5 → ¬ t' = t → (if t' < t + 1 then s + 1 else s) = (if t' < t then s + 1 else s) := by
                intro t' _ hne
                by_cases e : t' < t
                · rw [if_pos e, if_pos (by omega)]
                · rw [if_neg e, if_neg (by omega)]
              have an1 : ∀ t', anyB (dsB td S t') (s + 1) = (anyB (dsB td S t') s || dsB td S t' s) := fun _ => rfl
              have stay : dsB td S t s = false → q_wn_X3_doneFor_6_72 P P2 be hu kn lv sn op1 huts (nI c) dams deep heights minutes talls y (nI s) low (nI t) post := fun hf => nx y (fun t' ht' => by
                rw [hy t' ht']
                by_cases e : t' = t
                · subst e
                  rw [if_neg (Nat.lt_irrefl t'), if_pos (Nat.lt_succ_self t'), an1, hf, Bool.or_false]
                · rw [step t' ht' e]) hy5
              rw [nI_clamp (by omega), hG.2.2.1 s (by omega)]
              refine e_hasX (by omega) (fun h0 => iz (stay (by rw [dse, h0]; rfl))) (fun h1 => oi ⟨vp_in_nI h8 (by omega), ?_⟩)
              rw [nI_clamp (by omega), hG.2.2.2.1 t h8]
              refine ⟨fun hle => stay ?_, fun hlt v ev => nx v (fun t' ht' => ?_) (fun k hk h5 => ?_)⟩
              · rw [dse, h1, Bool.true_and, ← Bool.not_eq_true]
                intro hq
                exact absurd ((hlv t h8).mpr hq) (Int32.not_lt.mpr hle)
              · rw [ev, hb_and, hb_not _ (by omega), show (1 : Int32) <<< (nI t &&& 31) = bitI t from rfl, hb_b32 (by omega) (by omega), hy t' ht']
                by_cases e : t' = t
                · subst e
                  rw [if_neg (Nat.lt_irrefl t'), if_pos (Nat.lt_succ_self t'), an1, dse, h1, (hlv t' h8).mp (Int32.not_le.mp hlt)]
                  simp
                · rw [step t' ht' e, de_ne e]
                  simp
              · rw [ev, hb_and, hy5 k hk h5]; rfl
        exact loop2 _ 0 x rfl (by omega) (fun t' ht' => by rw [hx t' ht', if_neg (Nat.not_lt_zero t')]) hx5
  rw [hG.2.2.2.2.2.1]
  rw [hG.2.2.2.2.2.1] at hP
  exact loop _ 0 (S 5 0) rfl (by omega) (fun t ht => by show _ = (hb (S 5 0) t && !false); simp) (fun k hk h5 => hb_hi hN.2.2.2.1 hk h5)
theorem e_lookSingerX {s d : Nat} {x : Int32} {post : Int32 → Prop} (hR : RNG td) (hN : NOK td S) (hG : XG td S mi av be cl hu kn lv sn) (hD : LX td huts singers dams echoes deep heights ladders minutes echoFrom echoTo talls) (hs : s < 6) (hl : nI s < td 1) (hd : d < 100) (hx : x = nI d) (hp : post (if d = 3 then S 0 s else if d = 4 then S 1 s else if d = 5 then S 2 s else hgh td (S 0) (S 2) s)) : q_wn_X3_lookSinger_6_0 cl hu kn heights ladders talls x (nI s) post := by
  subst hx
  have hin : vp_in (nI s) 6 := vp_in_nI hs (by omega)
  refine ⟨fun hd2 => ?_, fun h3 => ⟨hin, ?_⟩, fun h3 => ⟨hin, ?_⟩, fun h3 => ?_⟩
  · rw [nI_toInt (by omega)] at hd2
    rw [if_neg (by omega), if_neg (by omega), if_neg (by omega)] at hp
    exact e_highX hR hN hG hD hs hl hp
  · have := (nI_eq (a := d) (b := 3) (by omega) (by omega)).mp h3
    rw [if_pos this] at hp
    rw [nI_clamp (by omega), hG.2.1 s hs hl]; exact hp
  · have := (nI_eq (a := d) (b := 4) (by omega) (by omega)).mp h3
    rw [if_neg (by omega), if_pos this] at hp
    rw [nI_clamp (by omega), hG.2.2.1 s hs]; exact hp
  · have := (nI_eq (a := d) (b := 5) (by omega) (by omega)).mp h3
    rw [if_neg (by omega), if_neg (by omega), if_pos this] at hp
    have hz := hG.1 s hs
    refine e_hasX (by omega) (fun h0 => iz ?_) (fun h1 => oi ?_)
    · rw [hz] at h0
      rcases hN.2.2.1 s hs with e | e
      · rw [e] at hp; exact hp
      · rw [e] at h0; exact absurd h0 (by decide)
    · rw [hz] at h1
      rw [of_decide_eq_true h1] at hp; exact hp
set_option maxHeartbeats 4000000 in
theorem e_lookX {w : Int32} {post : Int32 → (Nat → Int32) → Prop} (hR : RNG td) (hN : NOK td S) (hG : XG td S mi av be cl hu kn lv sn) (hD : LX td huts singers dams echoes deep heights ladders minutes echoFrom echoTo talls) (hp : ∀ op', post (LKN td S w) op') : q_wn_X3_look_6_0 mi av be cl hu kn lv sn op huts singers dams deep heights ladders minutes talls w post := by
  have b1 : iv 0 6 (td 1) := hR 1 (by omega)
  have b0 : iv 0 9 (td 0) := hR 0 (by omega)
  unfold LKN at hp
  refine ⟨fun h => ?_, fun h => ⟨fun h79 => fun v1 e1 => ?_, fun h79 => ?_⟩⟩
  · rw [if_neg (fun h9 => absurd h (Int32.not_lt.mpr h9.1))] at hp; exact hp _
  · rw [if_pos ⟨Int32.not_lt.mp h, h79⟩] at hp
    obtain ⟨n, hn, rfl⟩ := nI_of2 (M := 79) (n := 79) (by decide) h h79
    rw [cN_nI (by omega)] at hp
    unfold LKn at hp
    rw [(dm10 (n := n) (by omega)).2] at e1
    subst e1
    rw [(dm10 (n := n) (by omega)).1]
    have sg : ¬ n / 10 = 0 → ¬ n / 10 = 1 → ¬ n / 10 = 2 → ¬ n / 10 = 7 → q_wn_X3_look_6_135 mi av be cl hu kn lv sn op huts singers dams deep heights ladders minutes talls (nI n) (nI (n % 10)) post := by
      intro c0 c1 c2 c7
      rw [if_neg c0, if_neg c1, if_neg c2, if_neg c7] at hp
      unfold q_wn_X3_look_6_135
      rw [hD.2.1]
      refine e_hsX (fun h => iz ?_) (fun h => oi ?_)
      · rw [if_neg (fun h9 => h ⟨nI_pos' (by omega), h9⟩)] at hp; exact hp _
      · obtain ⟨y, hy, ey⟩ := lt_nI (m := 6) b1 h
        have hy6 : n % 10 < 6 := by rw [(nI_eq (by omega) (by omega)).mp ey]; exact hy
        rw [if_pos h.2] at hp
        refine e_lookSingerX (d := n / 10) hR hN hG hD hy6 h.2 (by omega) ((dm10 (n := n) (by omega)).1) (hp _)
    refine ⟨fun hd => ?_, fun h0 => ?_, fun h1 => ?_, fun h2 => ?_, fun h3 => ?_, fun h3 => ?_, fun h3 => ?_, fun h3 => ?_, fun h7 => ?_⟩
    · rw [nI_toInt (by omega)] at hd
      omega
    · have c0 := (nI_eq (a := n / 10) (b := 0) (by omega) (by omega)).mp h0
      rw [if_pos c0] at hp
      have hn10 : n % 10 = n := by omega
      rw [hn10]
      refine ⟨fun hd => ?_, fun g => ?_, fun g => ?_, fun g => ?_, fun g => ?_, fun g => ?_⟩
      · rw [nI_toInt (by omega)] at hd
        rw [if_neg (by omega), if_neg (by omega), if_neg (by omega), if_neg (by omega), if_neg (by omega)] at hp
        exact hp _
      · have := (nI_eq (a := n) (b := 0) (by omega) (by omega)).mp g
        rw [if_pos this] at hp
        rw [hG.2.2.2.2.2.2.1]; exact hp _
      · have := (nI_eq (a := n) (b := 1) (by omega) (by omega)).mp g
        rw [if_neg (by omega), if_pos this] at hp
        rw [hG.2.2.2.2.2.2.2]; exact hp _
      · have := (nI_eq (a := n) (b := 2) (by omega) (by omega)).mp g
        rw [if_neg (by omega), if_neg (by omega), if_pos this] at hp
        exact e_seersX hR hG hD.2.1 (hp _)
      · have := (nI_eq (a := n) (b := 3) (by omega) (by omega)).mp g
        rw [if_neg (by omega), if_neg (by omega), if_neg (by omega), if_pos this] at hp
        rw [hG.2.2.2.2.2.1]; exact hp _
      · have := (nI_eq (a := n) (b := 4) (by omega) (by omega)).mp g
        rw [if_neg (by omega), if_neg (by omega), if_neg (by omega), if_neg (by omega), if_pos this] at hp
        exact e_doneForX hR hN hG hD (fun op' => hp op')
    · have c1 := (nI_eq (a := n / 10) (b := 1) (by omega) (by omega)).mp h1
      rw [if_neg (by omega), if_pos c1] at hp
      refine pk_le 5 (n % 10) (fun h5 => ?_) (fun h5 => ⟨vp_in_nI h5 (by omega), ?_⟩)
      · rw [if_neg (by omega)] at hp; exact hp _
      · rw [if_pos h5] at hp
        rw [nI_clamp (by omega), hG.2.2.2.1 _ h5]; exact hp _
    · have c1 := (nI_eq (a := n / 10) (b := 2) (by omega) (by omega)).mp h2
      rw [if_neg (by omega), if_neg (by omega), if_pos c1] at hp
      refine pk_le 5 (n % 10) (fun h5 => ?_) (fun h5 => ?_)
      · rw [if_neg (by omega)] at hp; exact hp _
      · rw [if_pos h5] at hp
        unfold FAME at hp
        obtain ⟨c, hc, -, hc6, -⟩ := iv_nI b1 (by decide)
        rw [hc, cN_nI (by omega)] at hp
        refine e_knowersX hR hG hD.2.1 (by omega) ?_
        rw [hc, cN_nI (by omega)]
        refine e_bc (mkB_iv c (by omega)) ?_
        have e : cntB (hb (mkB (fun o => hb (S 1 o) (n % 10)) c)) 9 = cntB (fun o => hb (S 1 o) (n % 10)) c := by
          rw [← cnt_tr (p := fun o => hb (S 1 o) (n % 10)) (c := c) 9 (by omega)]
          exact cnt_ext 9 (fun k hk => hb_mkB (by omega) c (by omega))
        rw [e]
        exact hp _
    · have := (nI_eq (a := n / 10) (b := 3) (by omega) (by omega)).mp h3
      exact sg (by omega) (by omega) (by omega) (by omega)
    · have := (nI_eq (a := n / 10) (b := 4) (by omega) (by omega)).mp h3
      exact sg (by omega) (by omega) (by omega) (by omega)
    · have := (nI_eq (a := n / 10) (b := 5) (by omega) (by omega)).mp h3
      exact sg (by omega) (by omega) (by omega) (by omega)
    · have := (nI_eq (a := n / 10) (b := 6) (by omega) (by omega)).mp h3
      exact sg (by omega) (by omega) (by omega) (by omega)
    · have c7 := (nI_eq (a := n / 10) (b := 7) (by omega) (by omega)).mp h7
      rw [if_neg (by omega), if_neg (by omega), if_neg (by omega), if_pos c7] at hp
      rw [hD.1]
      refine e_hhX (fun h => iz ?_) (fun h => oi ?_)
      · rw [if_neg (fun h9 => h ⟨nI_pos' (by omega), h9⟩)] at hp; exact hp _
      · obtain ⟨y, hy, ey⟩ := lt_nI (m := 9) b0 h
        have hy9 : n % 10 < 9 := by rw [(nI_eq (by omega) (by omega)).mp ey]; exact hy
        rw [if_pos h.2] at hp
        refine ⟨vp_in_nI hy9 (by omega), ?_⟩
        rw [nI_clamp (by omega), hG.2.2.2.2.1 _ hy9]; exact hp _
  · rw [if_neg (fun h9 => h79 h9.2)] at hp; exact hp _
end
