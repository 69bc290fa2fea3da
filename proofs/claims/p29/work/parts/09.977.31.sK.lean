section
def SGr (sd : Nat → Int32) : Prop := iv 0 10 (sd 0) ∧ ∀ j, j < 10 → iv 0 1 (sd (1 + 3 * j)) ∧ iv 0 8 (sd (2 + 3 * j)) ∧ iv 0 60 (sd (3 + 3 * j))
theorem sgM_row {M : Nat → Nat → Int32} {k j : Nat} (hk : k < 2) : rowM M 2 (nI k) j = M 7 (31 * k + j) := by
  unfold rowM
  rw [nI_clamp (by omega)]
  rfl
theorem SGr_of {M : Nat → Nat → Int32} {k : Nat} (hS : mSig (M 7)) (hk : k < 2) : SGr (rowM M 2 (nI k)) := by
  have g := hS k (by omega)
  refine ⟨by rw [sgM_row hk]; exact g.1, fun j hj => ?_⟩
  have g2 := g.2 j hj
  refine ⟨?_, ?_, ?_⟩
  · rw [sgM_row hk, show 31 * k + (1 + 3 * j) = 31 * k + 1 + 3 * j by omega]; exact g2.1
  · rw [sgM_row hk, show 31 * k + (2 + 3 * j) = 31 * k + 1 + 3 * j + 1 by omega]; exact g2.2.1
  · rw [sgM_row hk, show 31 * k + (3 + 3 * j) = 31 * k + 1 + 3 * j + 2 by omega]; exact g2.2.2
theorem e_factsM {M : Nat → Nat → Int32} {k : Nat} {post : Int32 → Prop} (hk : k < 2) (hp : post (rowM M 2 (nI k) 0)) : q_m_facts_0 (M 7) (nI k) post := by
  have e : (31 : Int32) * nI k = nI (31 * k) := pk_mul 31 k
  refine ⟨by rw [e]; exact vp_in_nI (by omega) (by omega), ?_⟩
  rw [e, nI_clamp (by omega)]
  rw [sgM_row hk, Nat.add_zero] at hp
  exact hp
theorem e_factOfM {M : Nat → Nat → Int32} {k j i z : Nat} {x : Int32} {post : Int32 → Prop} (hk : k < 2) (hj : j < 10) (hi : i < 3) (hx : x = nI i) (hz : z = 1 + i + 3 * j) (hp : post (rowM M 2 (nI k) z)) : q_m_factOf_0 (M 7) (nI k) (nI j) x post := by
  subst hx hz
  have e : ((((31 : Int32) * nI k) + (1 : Int32)) + ((3 : Int32) * nI j)) + nI i = nI (31 * k + 1 + 3 * j + i) := by
    rw [show (31 : Int32) * nI k = nI (31 * k) from pk_mul 31 k, show (3 : Int32) * nI j = nI (3 * j) from pk_mul 3 j, nI_1, nI_add, nI_add]
  refine ⟨by rw [e]; exact vp_in_nI (by omega) (by omega), ?_⟩
  rw [e, nI_clamp (by omega)]
  rw [sgM_row hk, show 31 * k + (1 + i + 3 * j) = 31 * k + 1 + 3 * j + i by omega] at hp
  exact hp
theorem e_hasSig {M : Nat → Nat → Int32} {sg x : Int32} {post : Int32 → Int32 → Prop} (hc : iv 0 2 (M 4 2)) (h0 : ¬ (0 ≤ x ∧ x < M 4 2) → post 0 x) (h1 : ∀ k, k < 2 → x = nI k → 0 ≤ x ∧ x < M 4 2 → post 1 (nI k)) : q_m_hasSight_0 (M 4) sg x post := by
  refine e_is (o := 2) (by decide) hc (fun hn => ⟨rfl, h0 hn⟩) (fun hy => ⟨rfl, ?_⟩)
  obtain ⟨k, hk, ea⟩ := lt_nI (m := 2) hc hy
  have g := h1 k hk ea hy
  rw [ea]
  exact g
/-- one fact against the runs from a hut -/
def agK (td sd : Nat → Int32) (n h j : Nat) : Bool := decide (RUN td (td 3) n h (cN (sd (2 + 3 * j))) ≤ cN (sd (3 + 3 * j))) == decide (sd (1 + 3 * j) = 1)
def agB (td sd : Nat → Int32) (n h : Nat) : Nat → Bool
  | 0 => true
  | m + 1 => agB td sd n h m && agK td sd n h m
theorem agB_no {td sd : Nat → Int32} {n h j : Nat} (h0 : agK td sd n h j = false) : ∀ m, j < m → agB td sd n h m = false
  | 0, hj => absurd hj (Nat.not_lt_zero j)
  | m + 1, hj => by
    show (agB td sd n h m && agK td sd n h m) = false
    by_cases e : j = m
    · rw [← e, h0, Bool.and_false]
    · rw [agB_no h0 m (by omega), Bool.false_and]
theorem agB_s {td sd : Nat → Int32} {n h m : Nat} (h0 : agB td sd n h m = true) (h1 : agK td sd n h m = true) : agB td sd n h (m + 1) = true := by
  show (agB td sd n h m && agK td sd n h m) = true
  rw [h0, h1]; rfl
def stB (td sd : Nat → Int32) : Nat → Bool
  | 0 => true
  | m + 1 => stB td sd m && decide (sd (2 + 3 * m) < td 0)
theorem stB_no {td sd : Nat → Int32} {j : Nat} (h0 : ¬ sd (2 + 3 * j) < td 0) : ∀ m, j < m → stB td sd m = false
  | 0, hj => absurd hj (Nat.not_lt_zero j)
  | m + 1, hj => by
    show (stB td sd m && decide (sd (2 + 3 * m) < td 0)) = false
    by_cases e : j = m
    · rw [← e, decide_eq_false h0, Bool.and_false]
    · rw [stB_no h0 m (by omega), Bool.false_and]
theorem stB_s {td sd : Nat → Int32} {m : Nat} (h0 : stB td sd m = true) (h1 : sd (2 + 3 * m) < td 0) : stB td sd (m + 1) = true := by
  show (stB td sd m && decide (sd (2 + 3 * m) < td 0)) = true
  rw [h0, decide_eq_true h1]; rfl
theorem stB_at {td sd : Nat → Int32} {j m : Nat} (h0 : stB td sd m = true) (hj : j < m) : sd (2 + 3 * j) < td 0 := by
  apply Classical.byContradiction
  intro h
  rw [stB_no h m hj] at h0
  exact absurd h0 (by decide)
def FM (td sd : Nat → Int32) (n : Nat) : Int32 := mkB (fun h => !dam td h && agB td sd n h (cN (sd 0))) n
/-- the greater part of a set, asked whether the note is there by minute t at hut u -/
def prC (td : Nat → Int32) (n : Nat) (s : Int32) (u t : Nat) : Nat := cntB (fun h => hb s h && decide (RUN td (td 3) n h u ≤ t)) n
def prt (td : Nat → Int32) (n : Nat) (s : Int32) (u t : Nat) : Nat := max (prC td n s u t) (cS s - prC td n s u t)
def qb (td : Nat → Int32) (n : Nat) (s : Int32) : Nat → Int32 × Nat
  | 0 => (-1, 1000)
  | j + 1 => if j % 10 < n ∧ prt td n s (j % 10) (j / 10) < (qb td n s j).2 then (nI j, prt td n s (j % 10) (j / 10)) else qb td n s j
theorem prt_le {td : Nat → Int32} {n : Nat} {s : Int32} {u t : Nat} (hn : n ≤ 9) : prt td n s u t ≤ 9 := by
  have h1 : prC td n s u t ≤ n := cnt_le _ n
  have h2 : cS s ≤ 9 := cnt_le _ 9
  unfold prt
  omega
theorem qb_le {td : Nat → Int32} {n : Nat} {s : Int32} (hn : n ≤ 9) : ∀ j, (qb td n s j).2 ≤ 1000
  | 0 => Nat.le_refl _
  | j + 1 => by
    have ih := qb_le (td := td) (s := s) hn j
    have p := prt_le (td := td) (s := s) (u := j % 10) (t := j / 10) hn
    show (if j % 10 < n ∧ prt td n s (j % 10) (j / 10) < (qb td n s j).2 then ((nI j, prt td n s (j % 10) (j / 10)) : Int32 × Nat) else qb td n s j).2 ≤ 1000
    split
    · show prt td n s (j % 10) (j / 10) ≤ 1000
      omega
    · exact ih
theorem qb_skip {td : Nat → Int32} {n : Nat} {s : Int32} {t u : Nat} (hu : n ≤ u) : ∀ d, u + d ≤ 10 → qb td n s (10 * t + (u + d)) = qb td n s (10 * t + u)
  | 0, _ => rfl
  | d + 1, hd => by
    rw [← qb_skip hu d (by omega)]
    show (if (10 * t + (u + d)) % 10 < n ∧ _ then _ else _) = _
    rw [if_neg (fun h => by have := h.1; omega)]
    rfl
def FIT (td sd : Nat → Int32) (c : Int32) : Int32 := if stB td sd (cN (sd 0)) = true then (if c = 0 then FM td sd (cN (td 0)) else if FM td sd (cN (td 0)) = 0 then -1 else (qb td (cN (td 0)) (FM td sd (cN (td 0))) 609).1) else -2
def AN_fits (M : Nat → Nat → Int32) (a b c : Int32) : Int32 := if (0 ≤ a ∧ a < M 4 0) ∧ (0 ≤ b ∧ b < M 4 2) then FIT (rowM M 0 a) (rowM M 2 b) c else -2
theorem ag_st {y0 y1 : Int32} (a b : Bool) (h0 : y0 = if a = true then 1 else 0) (h1 : y1 = if b = true then 1 else 0) : y0 = y1 ↔ (a == b) = true := by
  subst h0 h1
  cases a <;> cases b <;> decide
theorem cnt_and {s : Int32} {p : Nat → Bool} {n : Nat} (hn : n ≤ 9) : cntB (hb (s &&& mkB p n)) 9 = cntB (fun h => hb s h && p h) n := by
  have e := cntB_cut (p := hb (s &&& mkB p n)) (n := n) (fun k hk => by
    rw [hb_and]
    by_cases q : k < 32
    · rw [hb_mkB q n (by omega), decide_eq_false (by omega), Bool.false_and, Bool.and_false]
    · have : hb s k = false := by
        unfold hb
        exact BitVec.getLsbD_of_ge _ _ (by omega)
      rw [this, Bool.false_and]) (9 - n)
  rw [show n + (9 - n) = 9 by omega] at e
  rw [e]
  exact cnt_ext n (fun k hk => by rw [hb_and, hb_mkB (by omega) n (by omega), decide_eq_true hk, Bool.true_and])
theorem cnt_anB {s : Int32} {p : Nat → Bool} {n : Nat} (hn : n ≤ 9) : cntB (fun h => hb s h && p h) n ≤ cS s := by
  have h1 : cntB (fun h => hb s h && p h) n ≤ cntB (hb s) n := cnt_mono n (fun k _ h => (Bool.and_eq_true _ _ ▸ h).1)
  have h2 : ∀ d, cntB (hb s) n ≤ cntB (hb s) (n + d) := by
    intro d
    induction d with
    | zero => exact Nat.le_refl _
    | succ d ih =>
      have : cntB (hb s) (n + (d + 1)) = cntB (hb s) (n + d) + (if hb s (n + d) = true then 1 else 0) := rfl
      omega
  have h3 := h2 (9 - n)
  rw [show n + (9 - n) = 9 by omega] at h3
  exact Nat.le_trans h1 h3
theorem e_agreesX {td sd t : Nat → Int32} {sf : Int32} {he hu mi : Nat → Int32} {n h : Nat} {post : Int32 → Prop} (hn9 : n ≤ 9) (hh : h < n) (hV : R3 sf he hu mi sd) (hS : SGr sd) (hin : ∀ j, j < cN (sd 0) → cN (sd (2 + 3 * j)) < n) (ht : ∀ a b, a < n → b < n → t (9 * a + b) = nI (RUN td (td 3) n a b)) (h0 : agB td sd n h (cN (sd 0)) = false → post 0) (h1 : agB td sd n h (cN (sd 0)) = true → post 1) : q_wp_X7_agrees_18_0 t sf he hu mi (nI h) post := by
  obtain ⟨m, em, -, hm10, -⟩ := iv_nI hS.1 (by decide)
  have hsf : sf = nI m := hV.1.trans em
  rw [em, cN_nI (by omega)] at h0 h1 hin
  have hV2 := hV.2
  rw [em, nI_clamp (by omega)] at hV2
  intro P hP
  have loop : ∀ d j, d = m - j → j ≤ m → agB td sd n h j = true → P (nI j) := by
    intro d
    induction d using Nat.strongRecOn with
    | ind d ih =>
      intro j hd hj hI
      apply hP
      refine pk_le m j (fun h9 => h1 (by rw [show m = j by omega]; exact hI)) (fun h9 => ?_) hsf
      have hij : vp_in (nI j) 10 := vp_in_nI (by omega) (by omega)
      obtain ⟨r1, r2, r3⟩ := hV2 j h9
      obtain ⟨s1, s2, s3⟩ := hS.2 j (by omega)
      obtain ⟨u, eu, -, hu8, -⟩ := iv_nI s2 (by decide)
      obtain ⟨w, ew, -, hw60, -⟩ := iv_nI s3 (by decide)
      have hun := hin j h9
      rw [eu, cN_nI (by omega)] at hun
      have l := RUN_le (td := td) (sh := td 3) (n := n) (a := h) (b := u)
      have ea : agK td sd n h j = (decide (RUN td (td 3) n h u ≤ w) == decide (sd (1 + 3 * j) = 1)) := by
        unfold agK
        rw [eu, ew, cN_nI (by omega), cN_nI (by omega)]
      rw [nI_clamp (by omega), r2, eu, r3, ew]
      have ei : (nI h * 9) + nI u = nI (9 * h + u) := by rw [jx9, Nat.mul_comm]
      rw [ei]
      refine ⟨hij, vp_in_nI (by omega) (by omega), hij, ?_⟩
      rw [nI_clamp (by omega), ht h u hh hun]
      have fin2 : ∀ y0 y1 : Int32, y0 = (if decide (RUN td (td 3) n h u ≤ w) = true then 1 else 0) → y1 = (if decide (sd (1 + 3 * j) = 1) = true then 1 else 0) → q_wp_X7_agrees_18_59 P t sf he hu mi (nI h) (nI j) y0 y1 post := by
        intro y0 y1 e0 e1
        have g := ag_st _ _ e0 e1
        refine ⟨fun q v ev => ?_, fun q => h0 (agB_no (by rw [ea, ← Bool.not_eq_true]; exact fun h => q (g.mpr h)) m h9)⟩
        rw [ev, nI_1]
        exact ih (m - (j + 1)) (by omega) (j + 1) rfl (by omega) (agB_s hI (by rw [ea]; exact g.mp q))
      have fin : ∀ y0 : Int32, y0 = (if decide (RUN td (td 3) n h u ≤ w) = true then 1 else 0) → q_wp_X7_agrees_18_40 P t sf he hu mi (nI h) (nI j) y0 post := by
        intro y0 e0
        refine ⟨hij, ?_⟩
        rw [nI_clamp (by omega), r1]
        exact ⟨fun q => fin2 _ _ e0 (by rw [if_neg (by rw [decide_eq_false q]; decide)]), fun q => fin2 _ _ e0 (by rw [if_pos (decide_eq_true q)])⟩
      exact pk_lt w (RUN td (td 3) n h u) (fun q => fin _ (by rw [if_neg (by rw [decide_eq_false (by omega)]; decide)])) (fun q => fin _ (by rw [if_pos (decide_eq_true q)])) rfl rfl (by omega) (by omega)
  exact loop _ 0 rfl (by omega) rfl
theorem e_fittingX {td sd t : Nat → Int32} {huts dams sf : Int32} {he hu mi : Nat → Int32} {n : Nat} {post : Int32 → Prop} (h0 : huts = nI n) (h3 : dams = td 3) (hn9 : n ≤ 9) (hV : R3 sf he hu mi sd) (hS : SGr sd) (hin : ∀ j, j < cN (sd 0) → cN (sd (2 + 3 * j)) < n) (ht : ∀ a b, a < n → b < n → t (9 * a + b) = nI (RUN td (td 3) n a b)) (hp : post (FM td sd n)) : q_wp_X7_fitting_9_18_0 t huts dams sf he hu mi post := by
  subst h3
  intro P hP
  have loop : ∀ d h, d = n - h → h ≤ n → P (mkB (fun h => !dam td h && agB td sd n h (cN (sd 0))) h) (nI h) := by
    intro d
    induction d using Nat.strongRecOn with
    | ind d ih =>
      intro h hd hh
      apply hP
      refine pk_le n h (fun h9 => by rw [show h = n by omega]; exact hp) (fun h9 => ?_) h0
      have e : mkB (fun h => !dam td h && agB td sd n h (cN (sd 0))) (h + 1) = mkB (fun h => !dam td h && agB td sd n h (cN (sd 0))) h ||| (if (!dam td h && agB td sd n h (cN (sd 0))) = true then bitI h else 0) := rfl
      have nx : ∀ x : Int32, x = mkB (fun h => !dam td h && agB td sd n h (cN (sd 0))) (h + 1) → q_wp_X7_fitting_9_18_40 P t huts (td 3) sf he hu mi x (nI h) post := by
        intro x hx v ev
        rw [ev, hx, nI_1]
        exact ih (n - (h + 1)) (by omega) (h + 1) rfl (by omega)
      refine e_damX (by omega) (fun q => zi (e_agreesX hn9 h9 hV hS hin ht (fun g => iz (nx _ ?_)) (fun g => oi (fun v ev => nx _ ?_)))) (fun q => io (nx _ ?_))
      · rw [e, if_neg (by rw [g, Bool.and_false]; decide), or_0]
      · rw [e, if_pos (by unfold dam; rw [q, g]; rfl), ev]; rfl
      · rw [e, if_neg (by unfold dam; rw [q]; exact (by simp)), or_0]
  exact loop _ 0 rfl (by omega)
theorem e_fromByX3 {td t : Nat → Int32} {huts x2 x3 : Int32} {n u w : Nat} {post : Int32 → Prop} (h0 : huts = nI n) (hn9 : n ≤ 9) (hu : u < n) (e2 : x2 = nI u) (e3 : x3 = nI w) (hw : w ≤ 999) (ht : ∀ a b, a < n → b < n → t (9 * a + b) = nI (RUN td (td 3) n a b)) (hp : post (mkB (fun h => decide (RUN td (td 3) n h u ≤ w)) n)) : q_wp_X7_fromBy_9_0 t huts x2 x3 post := by
  subst e2 e3
  intro P hP
  have loop : ∀ d h, d = n - h → h ≤ n → P (mkB (fun h => decide (RUN td (td 3) n h u ≤ w)) h) (nI h) := by
    intro d
    induction d using Nat.strongRecOn with
    | ind d ih =>
      intro h hd hh
      apply hP
      refine pk_le n h (fun h9 => by rw [show h = n by omega]; exact hp) (fun h9 => ?_) h0
      have e : mkB (fun h => decide (RUN td (td 3) n h u ≤ w)) (h + 1) = mkB (fun h => decide (RUN td (td 3) n h u ≤ w)) h ||| (if decide (RUN td (td 3) n h u ≤ w) = true then bitI h else 0) := rfl
      have nx : ∀ x : Int32, x = mkB (fun h => decide (RUN td (td 3) n h u ≤ w)) (h + 1) → q_wp_X7_fromBy_9_40 P t huts (nI u) (nI w) x (nI h) post := by
        intro x hx v ev
        rw [ev, hx, nI_1]
        exact ih (n - (h + 1)) (by omega) (h + 1) rfl (by omega)
      have ei : (nI h * 9) + nI u = nI (9 * h + u) := by rw [jx9, Nat.mul_comm]
      have l := RUN_le (td := td) (sh := td 3) (n := n) (a := h) (b := u)
      rw [ei]
      refine ⟨vp_in_nI (by omega) (by omega), ?_⟩
      rw [nI_clamp (by omega), ht h u h9 hu]
      refine pk_lt w (RUN td (td 3) n h u) (fun q => nx _ ?_) (fun q v ev => nx _ ?_) rfl rfl (by omega) (by omega)
      · rw [e, if_neg (by rw [decide_eq_false (by omega)]; decide), or_0]
      · rw [e, if_pos (decide_eq_true q), ev]; rfl
  exact loop _ 0 rfl (by omega)
theorem e_questionX {td t : Nat → Int32} {huts s : Int32} {n : Nat} {post : Int32 → Prop} (h0 : huts = nI n) (hn9 : n ≤ 9) (hs : iv 0 511 s) (ht : ∀ a b, a < n → b < n → t (9 * a + b) = nI (RUN td (td 3) n a b)) (hp0 : s = 0 → post (-1)) (hp : ¬ s = 0 → post (qb td n s 609).1) : q_wp_X7_question_9_0 t huts s post := by
  refine ⟨fun hne => ?_, hp0⟩
  replace hp := hp hne
  intro P hP
  have lq : ∀ d w, d = 61 - w → w ≤ 61 → P (qb td n s (10 * w)).1 (nI (qb td n s (10 * w)).2) (nI w) := by
    intro d
    induction d using Nat.strongRecOn with
    | ind d ih =>
      intro w hd hw
      apply hP
      refine pk_lt 60 w (fun h9 => ?_) (fun h9 => ?_)
      · have e1 : qb td n s (10 * 60 + (9 + 1)) = qb td n s (10 * 60 + 9) := qb_skip (by omega) 1 (by omega)
        rw [show 10 * w = 10 * 60 + (9 + 1) by omega, e1]
        exact hp
      · intro P2 hP2
        have lu : ∀ d2 u, d2 = n - u → u ≤ n → P2 (qb td n s (10 * w + u)).1 (nI (qb td n s (10 * w + u)).2) (nI u) := by
          intro d2
          induction d2 using Nat.strongRecOn with
          | ind d2 ih2 =>
            intro u hd2 hu
            apply hP2
            refine pk_le n u (fun h8 v ev => ?_) (fun h8 => ?_) h0
            · rw [ev, nI_1]
              have e1 := qb_skip (td := td) (s := s) (t := w) h8 (10 - u) (by omega)
              rw [show 10 * w + (u + (10 - u)) = 10 * (w + 1) by omega] at e1
              rw [← e1]
              exact ih (61 - (w + 1)) (by omega) (w + 1) rfl (by omega)
            · have st : qb td n s (10 * w + (u + 1)) = if u < n ∧ prt td n s u w < (qb td n s (10 * w + u)).2 then (nI (10 * w + u), prt td n s u w) else qb td n s (10 * w + u) := by
                show (if (10 * w + u) % 10 < n ∧ prt td n s ((10 * w + u) % 10) ((10 * w + u) / 10) < (qb td n s (10 * w + u)).2 then ((nI (10 * w + u), prt td n s ((10 * w + u) % 10) ((10 * w + u) / 10)) : Int32 × Nat) else qb td n s (10 * w + u)) = _
                rw [show (10 * w + u) % 10 = u by omega, show (10 * w + u) / 10 = w by omega]
              have nx : ∀ (x y : Int32), x = (qb td n s (10 * w + (u + 1))).1 → y = nI (qb td n s (10 * w + (u + 1))).2 → q_wp_X7_question_9_67 P P2 t huts s x y (nI w) (nI u) post := by
                intro x y hx hy v ev
                rw [ev, nI_1, hx, hy]
                exact ih2 (n - (u + 1)) (by omega) (u + 1) rfl (by omega)
              have pl := prt_le (td := td) (s := s) (u := u) (t := w) hn9
              have ql := qb_le (td := td) (s := s) hn9 (10 * w + u)
              refine e_fromByX3 h0 hn9 h8 rfl rfl (by omega) ht ?_
              have hmi : iv 0 511 (s &&& mkB (fun h => decide (RUN td (td 3) n h u ≤ w)) n) := iv_andl hs (by decide)
              refine e_bc hmi (e_bc hs ?_)
              rw [cnt_and hn9]
              have pc : prC td n s u w = cntB (fun h => hb s h && decide (RUN td (td 3) n h u ≤ w)) n := rfl
              have cl : prC td n s u w ≤ cS s := cnt_anB hn9
              have c9 : cS s ≤ 9 := cnt_le _ 9
              have em : (if nI (prC td n s u w) < (nI (cS s) - nI (prC td n s u w)) then (nI (cS s) - nI (prC td n s u w)) else nI (prC td n s u w)) = nI (prt td n s u w) := by
                rw [pk_sub cl]
                unfold prt
                by_cases q : prC td n s u w < cS s - prC td n s u w
                · rw [if_pos (nI_lt q (by omega)), show max (prC td n s u w) (cS s - prC td n s u w) = cS s - prC td n s u w by omega]
                · rw [if_neg (fun q2 => q ((nI_ltI (by omega) (by omega)).mp q2)), show max (prC td n s u w) (cS s - prC td n s u w) = prC td n s u w by omega]
              show ((_ ≤ (if nI (prC td n s u w) < (nI (cS s) - nI (prC td n s u w)) then (nI (cS s) - nI (prC td n s u w)) else nI (prC td n s u w))) → _) ∧ (¬ (_ ≤ (if nI (prC td n s u w) < (nI (cS s) - nI (prC td n s u w)) then (nI (cS s) - nI (prC td n s u w)) else nI (prC td n s u w))) → ∀ v_2, _ → q_wp_X7_question_9_67 P P2 t huts s v_2 (if nI (prC td n s u w) < (nI (cS s) - nI (prC td n s u w)) then (nI (cS s) - nI (prC td n s u w)) else nI (prC td n s u w)) (nI w) (nI u) post)
              rw [em]
              refine pk_le (qb td n s (10 * w + u)).2 (prt td n s u w) (fun q => nx _ _ ?_ ?_) (fun q v ev => nx _ _ ?_ ?_) rfl rfl (by omega) (by omega)
              · rw [st, if_neg (fun h => by have := h.2; omega)]
              · rw [st, if_neg (fun h => by have := h.2; omega)]
              · rw [st, if_pos ⟨h8, q⟩, ev, show ((10 : Int32) * nI w) = nI (10 * w) from pk_mul 10 w, nI_add]
              · rw [st, if_pos ⟨h8, q⟩]
        exact lu _ 0 rfl (by omega)
  exact lq _ 0 rfl (by omega)
theorem e_staysX {td sd : Nat → Int32} {sf : Int32} {he hu mi : Nat → Int32} {x : Int32} {post : Int32 → Prop} (hV : R3 sf he hu mi sd) (hS : SGr sd) (hx : x = td 0) (h0 : stB td sd (cN (sd 0)) = false → post 0) (h1 : stB td sd (cN (sd 0)) = true → post 1) : q_ws_X6_staysWithin_0 sf hu x post := by
  subst hx
  obtain ⟨m, em, -, hm10, -⟩ := iv_nI hS.1 (by decide)
  have hsf : sf = nI m := hV.1.trans em
  rw [em, cN_nI (by omega)] at h0 h1
  have hV2 := hV.2
  rw [em, nI_clamp (by omega)] at hV2
  intro P hP
  have loop : ∀ d j, d = m - j → j ≤ m → stB td sd j = true → P (nI j) := by
    intro d
    induction d using Nat.strongRecOn with
    | ind d ih =>
      intro j hd hj hI
      apply hP
      refine pk_le m j (fun h9 => h1 (by rw [show m = j by omega]; exact hI)) (fun h9 => ⟨vp_in_nI (by omega) (by omega), ?_⟩) hsf
      rw [nI_clamp (by omega), (hV2 j h9).2.1]
      refine ⟨fun q v ev => ?_, fun q => h0 (stB_no q m h9)⟩
      rw [ev, nI_1]
      exact ih (m - (j + 1)) (by omega) (j + 1) rfl (by omega) (stB_s hI q)
  exact loop _ 0 rfl (by omega) rfl

theorem st_in {td sd : Nat → Int32} {n m : Nat} (hn : td 0 = nI n) (hn9 : n ≤ 9) (hm : m ≤ 10) (hS : SGr sd) (h : stB td sd m = true) : ∀ j, j < m → cN (sd (2 + 3 * j)) < n := by
  intro j hj
  have g := stB_at h hj
  obtain ⟨u, eu, -, hu8, -⟩ := iv_nI (hS.2 j (by omega)).2.1 (by decide)
  rw [eu, hn] at g
  rw [eu, cN_nI (by omega)]
  exact (nI_ltI (by omega) (by omega)).mp g
theorem e_isDamM {M : Nat → Nat → Int32} {k h : Nat} {post : Int32 → Prop} (hk : k < 2) (hh : h < 31) (h0 : dam (tdM M k) h = false → post 0) (h1 : dam (tdM M k) h = true → post 1) : q_m_isDam_0 (M 5) (nI k) (nI h) post :=
  e_of (i := 3) hk (by omega) rfl (e_hasM hh (fun q => ⟨rfl, h0 q⟩) (fun q => ⟨rfl, h1 q⟩))
theorem e_isFitM {M : Nat → Nat → Int32} {run runs : Nat → Int32} {k e n h : Nat} {post : Int32 → (Nat → Int32) → (Nat → Int32) → Prop} (hk : k < 2) (he : e < 2) (hL : mLand (M 5)) (hS : mSig (M 7)) (hO : LOK (tdM M k)) (hn : tdM M k 0 = nI n) (hn9 : n ≤ 9) (hh : h < n) (hin : ∀ j, j < cN (rowM M 2 (nI e) 0) → cN (rowM M 2 (nI e) (2 + 3 * j)) < n) (hp : ∀ run' runs', (∀ u, u < n → runs' (9 * h + u) = nI (upF (RUN (tdM M k) (tdM M k 3) n h u))) → (∀ j, (∀ u, u < n → ¬ j = 9 * h + u) → runs' j = runs j) → post (if (!dam (tdM M k) h && agB (tdM M k) (rowM M 2 (nI e)) n h (cN (rowM M 2 (nI e) 0))) = true then 1 else 0) run' runs') : q_m_isFit_0 (M 5) (M 7) (nI k) (tdM M k 0) run (nI e) runs (nI h) post := by
  have hSG := SGr_of hS he
  obtain ⟨m, em, -, hm10, -⟩ := iv_nI hSG.1 (by decide)
  rw [em, cN_nI (by omega)] at hp hin
  refine e_run0M hk hL hO hn hn9 hh rfl (fun run' hr => ?_)
  intro P hP
  have loop : ∀ d x (rs : Nat → Int32), d = n - x → x ≤ n → (∀ u, u < x → rs (9 * h + u) = nI (upF (RUN (tdM M k) (tdM M k 3) n h u))) → (∀ j, (∀ u, u < n → ¬ j = 9 * h + u) → rs j = runs j) → P (nI x) rs := by
    intro d
    induction d using Nat.strongRecOn with
    | ind d ih =>
      intro x rs hd hx hI hJ
      apply hP
      refine pk_le n x (fun h9 => ?_) (fun h9 => ⟨vp_in_nI (by omega) (by omega), fun v ev => ?_⟩) hn
      · intro P2 hP2
        have lf : ∀ d2 j, d2 = m - j → j ≤ m → agB (tdM M k) (rowM M 2 (nI e)) n h j = true → P2 (nI j) := by
          intro d2
          induction d2 using Nat.strongRecOn with
          | ind d2 ih2 =>
            intro j hd2 hj hG
            apply hP2
            refine e_factsM he (pk_le m j (fun h8 => e_isDamM hk (by omega) (fun q => zi ?_) (fun q => io ?_)) (fun h8 => ?_) em)
            · have g := hp run' rs (fun u hu => hI u (by omega)) hJ
              rw [show j = m by omega] at hG
              rw [q, hG] at g
              exact g
            · have g := hp run' rs (fun u hu => hI u (by omega)) hJ
              rw [q] at g
              exact g
            · obtain ⟨s1, s2, s3⟩ := hSG.2 j (by omega)
              obtain ⟨u, eu, -, hu8, -⟩ := iv_nI s2 (by decide)
              obtain ⟨w, ew, -, hw60, -⟩ := iv_nI s3 (by decide)
              have hun := hin j h8
              rw [eu, cN_nI (by omega)] at hun
              have l := RUN_le (td := tdM M k) (sh := tdM M k 3) (n := n) (a := h) (b := u)
              have ea : agK (tdM M k) (rowM M 2 (nI e)) n h j = (decide (RUN (tdM M k) (tdM M k 3) n h u ≤ w) == decide (rowM M 2 (nI e) (1 + 3 * j) = 1)) := by
                unfold agK
                rw [eu, ew, cN_nI (by omega), cN_nI (by omega)]
              have no : agK (tdM M k) (rowM M 2 (nI e)) n h j = false → post 0 run' rs := fun q => by
                have g := hp run' rs (fun u hu => hI u (by omega)) hJ
                rw [agB_no q m h8, Bool.and_false] at g
                exact g
              have fin2 : ∀ y0 y1 : Int32, y0 = (if decide (RUN (tdM M k) (tdM M k 3) n h u ≤ w) = true then 1 else 0) → y1 = (if decide (rowM M 2 (nI e) (1 + 3 * j) = 1) = true then 1 else 0) → q_m_isFit_89 P2 (M 5) (M 7) (nI k) (tdM M k 0) run' (nI e) rs (nI h) (nI j) y0 y1 post := by
                intro y0 y1 e0 e1
                have g := ag_st _ _ e0 e1
                refine ⟨fun q v ev => ?_, fun q => no (by rw [ea, ← Bool.not_eq_true]; exact fun h => q (g.mpr h))⟩
                rw [ev, nI_1]
                exact ih2 (m - (j + 1)) (by omega) (j + 1) rfl (by omega) (agB_s hG (by rw [ea]; exact g.mp q))
              have fin : ∀ y0 : Int32, y0 = (if decide (RUN (tdM M k) (tdM M k 3) n h u ≤ w) = true then 1 else 0) → q_m_isFit_74 P2 (M 5) (M 7) (nI k) (tdM M k 0) run' (nI e) rs (nI h) (nI j) y0 post := by
                intro y0 e0
                exact e_factOfM he (by omega) (i := 0) (z := 1 + 3 * j) (by omega) rfl (by omega) ⟨fun q => fin2 _ _ e0 (by rw [if_neg (by rw [decide_eq_false q]; decide)]), fun q => fin2 _ _ e0 (by rw [if_pos (decide_eq_true q)])⟩
              refine e_factOfM he (by omega) (i := 1) (z := 2 + 3 * j) (by omega) rfl (by omega) ⟨by rw [eu]; exact vp_in_nI (by omega) (by omega), e_factOfM he (by omega) (i := 2) (z := 3 + 3 * j) (by omega) rfl (by omega) ?_⟩
              rw [eu, ew, nI_clamp (by omega), hr u hun]
              have hup : w < upF (RUN (tdM M k) (tdM M k 3) n h u) ↔ w < RUN (tdM M k) (tdM M k 3) n h u := by
                unfold upF
                split <;> omega
              have ub : upF (RUN (tdM M k) (tdM M k 3) n h u) < 2 ^ 30 := upF_b
              exact pk_lt w (upF (RUN (tdM M k) (tdM M k 3) n h u)) (fun q => fin _ (by have := hup.mp q; rw [if_neg (by rw [decide_eq_false (by omega)]; decide)])) (fun q => fin _ (by rw [if_pos (decide_eq_true (Nat.le_of_not_lt (fun q2 => by have := hup.mpr q2; omega)))])) rfl rfl (by omega) (by omega)
        exact lf _ 0 rfl (by omega) rfl
      · have ei : ((9 : Int32) * nI h) + nI x = nI (9 * h + x) := by rw [show (9 : Int32) = nI 9 from rfl, pk_mul, nI_add]
        rw [ei]
        refine ⟨vp_in_nI (by omega) (by omega), fun rs' ers v2 ev2 => ?_⟩
        rw [ev2, nI_1]
        rw [nI_clamp (by omega)] at ers ev
        refine ih (n - (x + 1)) (by omega) (x + 1) rs' rfl (by omega) (fun u hu => ?_) (fun j hj => ?_)
        · by_cases q : u = x
          · subst q
            rw [ers, up_s, ev]
            exact hr u h9
          · rw [ers, up_n (by omega)]; exact hI u (by omega)
        · rw [ers, up_n (hj x h9)]
          exact hJ j hj
  exact loop _ 0 runs rfl (by omega) (fun u hu => absurd hu (Nat.not_lt_zero u)) (fun _ _ => rfl)
theorem e_askOfM {td runs : Nat → Int32} {huts s : Int32} {n : Nat} {post : Int32 → Prop} (h0 : huts = nI n) (hn9 : n ≤ 9) (ht : ∀ a b, a < n → b < n → runs (9 * a + b) = nI (upF (RUN td (td 3) n a b))) (hp : post (qb td n s 609).1) : q_m_askOf_0 huts runs s post := by
  intro P hP
  have loop : ∀ d j, d = 609 - j → j ≤ 609 → P (qb td n s j).1 (nI (upF (qb td n s j).2)) (nI j) := by
    intro d
    induction d using Nat.strongRecOn with
    | ind d ih =>
      intro j hd hj
      apply hP
      refine pk_lt 608 j (fun h9 => by rw [show j = 609 by omega]; exact hp) (fun h9 v ev => ?_)
      rw [show (nI j - nI j / (10 : Int32) * (10 : Int32)) = nI (j % 10) from pk_rem (by omega) (d := 10) (by omega) (by omega)] at ev
      subst ev
      have st : qb td n s (j + 1) = if j % 10 < n ∧ prt td n s (j % 10) (j / 10) < (qb td n s j).2 then (nI j, prt td n s (j % 10) (j / 10)) else qb td n s j := rfl
      have nx : ∀ (x y : Int32), x = (qb td n s (j + 1)).1 → y = nI (upF (qb td n s (j + 1)).2) → q_m_askOf_128 P huts runs s x y (nI j) post := by
        intro x y hx hy v ev
        rw [ev, nI_1, hx, hy]
        exact ih (609 - (j + 1)) (by omega) (j + 1) rfl (by omega)
      refine e_isH (k := j % 10) (by omega) (by rw [h0]; exact iv_ofN (by omega) (by omega) (by omega)) (fun q => iz (nx _ _ ?_ ?_)) (fun q => oi ?_)
      · rw [st, if_neg (fun h => q (by rw [h0]; exact nI_lt h.1 (by omega)))]
      · rw [st, if_neg (fun h => q (by rw [h0]; exact nI_lt h.1 (by omega)))]
      · rw [h0] at q
        have hu : j % 10 < n := (nI_ltI (by omega) (by omega)).mp q
        intro P2 hP2
        have lh : ∀ d2 h, d2 = n - h → h ≤ n → P2 (nI (cntB (fun h => hb s h && decide (RUN td (td 3) n h (j % 10) ≤ j / 10)) h)) (nI h) := by
          intro d2
          induction d2 using Nat.strongRecOn with
          | ind d2 ih2 =>
            intro h hd2 hh
            apply hP2
            refine pk_le n h (fun h8 => e_onesM ?_) (fun h8 => ?_) h0
            · have cl : prC td n s (j % 10) (j / 10) ≤ cS s := cnt_anB hn9
              have c9 : cS s ≤ 9 := cnt_le _ 9
              have pl := prt_le (td := td) (s := s) (u := j % 10) (t := j / 10) hn9
              have ql := qb_le (td := td) (s := s) hn9 j
              have ub : upF (qb td n s j).2 < 2 ^ 30 := upF_b
              rw [show h = n by omega]
              show q_m_greater_0 (nI (prC td n s (j % 10) (j / 10))) (nI (cS s) - nI (prC td n s (j % 10) (j / 10))) _
              rw [pk_sub cl]
              refine e_grM (by omega) (by omega) ?_
              show ((_ ≤ nI (prt td n s (j % 10) (j / 10))) → q_m_askOf_120 P huts runs s _ _ (nI (prt td n s (j % 10) (j / 10))) _ post) ∧ ((¬ _ ≤ nI (prt td n s (j % 10) (j / 10))) → q_m_askOf_120 P huts runs s _ _ (nI (prt td n s (j % 10) (j / 10))) _ post)
              have hlt : prt td n s (j % 10) (j / 10) < upF (qb td n s j).2 ↔ prt td n s (j % 10) (j / 10) < (qb td n s j).2 := by
                unfold upF
                split <;> omega
              refine pk_le (upF (qb td n s j).2) (prt td n s (j % 10) (j / 10)) (fun q => e_lessM ub (by omega) (nx _ _ ?_ ?_)) (fun q => e_lessM ub (by omega) (nx _ _ ?_ ?_)) rfl rfl (by omega) (by omega)
              · rw [st, if_neg (fun h => by have := hlt.mpr h.2; omega)]
              · rw [st, if_neg (fun h => by have := hlt.mpr h.2; omega), show min (upF (qb td n s j).2) (prt td n s (j % 10) (j / 10)) = upF (qb td n s j).2 by omega]
              · rw [st, if_pos ⟨hu, hlt.mp q⟩]
              · rw [st, if_pos ⟨hu, hlt.mp q⟩, show min (upF (qb td n s j).2) (prt td n s (j % 10) (j / 10)) = prt td n s (j % 10) (j / 10) by omega]
                show nI (prt td n s (j % 10) (j / 10)) = nI (upF (prt td n s (j % 10) (j / 10)))
                unfold upF
                rw [if_pos (by omega)]
            · have e : cntB (fun h => hb s h && decide (RUN td (td 3) n h (j % 10) ≤ j / 10)) (h + 1) = cntB (fun h => hb s h && decide (RUN td (td 3) n h (j % 10) ≤ j / 10)) h + (if (hb s h && decide (RUN td (td 3) n h (j % 10) ≤ j / 10)) = true then 1 else 0) := rfl
              have nx2 : ∀ (y1 : Nat), y1 = (if (hb s h && decide (RUN td (td 3) n h (j % 10) ≤ j / 10)) = true then 1 else 0) → q_m_askOf_85 P P2 huts runs s (qb td n s j).1 (nI (upF (qb td n s j).2)) (nI j) (nI (j % 10)) (nI h) (nI (cntB (fun h => hb s h && decide (RUN td (td 3) n h (j % 10) ≤ j / 10)) h)) (nI y1) post := by
                intro y1 hy v1 ev1 v2 ev2
                rw [ev1, ev2, nI_add, nI_1, hy, ← e]
                exact ih2 (n - (h + 1)) (by omega) (h + 1) rfl (by omega)
              have ei : ((9 : Int32) * nI h) + nI (j % 10) = nI (9 * h + j % 10) := by rw [show (9 : Int32) = nI 9 from rfl, pk_mul, nI_add]
              refine e_hasM (by omega) (fun q => iz (nx2 0 ?_)) (fun q => oi ?_)
              · rw [q, Bool.false_and, if_neg (by decide)]
              · rw [ei]
                refine ⟨vp_in_nI (by omega) (by omega), ?_⟩
                rw [nI_clamp (by omega), ht h (j % 10) h8 hu, show nI j / (10 : Int32) = nI (j / 10) from pk_div (d := 10) (by omega) (by omega) (by omega)]
                have l := RUN_le (td := td) (sh := td 3) (n := n) (a := h) (b := j % 10)
                have hup : j / 10 < upF (RUN td (td 3) n h (j % 10)) ↔ j / 10 < RUN td (td 3) n h (j % 10) := by
                  unfold upF
                  split <;> omega
                have ub : upF (RUN td (td 3) n h (j % 10)) < 2 ^ 30 := upF_b
                refine pk_lt (j / 10) (upF (RUN td (td 3) n h (j % 10))) (fun q2 => nx2 0 ?_) (fun q2 => nx2 1 ?_) rfl rfl (by omega) (by omega)
                · have := hup.mp q2
                  rw [q, Bool.true_and, decide_eq_false (by omega), if_neg (by decide)]
                · rw [q, Bool.true_and, if_pos (decide_eq_true (Nat.le_of_not_lt (fun q3 => by have := hup.mpr q3; omega)))]
        exact lh _ 0 rfl (by omega)
  exact loop _ 0 rfl (by omega)
set_option maxRecDepth 40000 in
set_option maxHeartbeats 4000000 in
theorem e_m_fits {M : Nat → Nat → Int32} {f_code f_land f_huts f_singers f_sight a b c : Int32} {a_run a_runs : Nat → Int32} {post : Int32 → (Int32) → (Int32) → (Int32) → (Int32) → (Nat → Int32) → (Int32) → (Nat → Int32) → Prop} (hc : ∀ o, iv 0 2 (M 4 o)) (hL : mLand (M 5)) (hS : mSig (M 7)) (hK : LK M) (hp : ∀ z0 z1 z2 z3 z4 z5 z6, post (AN_fits M a b c) z0 z1 z2 z3 z4 z5 z6) : q_m_fits_0 f_code (M 4) (M 5) (M 7) f_land f_huts f_singers a_run f_sight a_runs a b c post := by
  unfold AN_fits at hp
  refine e_hasSig (hc 2) (fun hno => iz ?_) (fun e he eb hy2 => oi (e_hand (hc 0) (fun hno => zi ?_) (fun k hk ea hy => io ?_)))
  · rw [if_neg (fun h9 => hno h9.2)] at hp; exact hp _ _ _ _ _ _ _
  · rw [if_neg (fun h9 => hno h9.1)] at hp; exact hp _ _ _ _ _ _ _
  rw [if_pos ⟨hy, hy2⟩] at hp
  subst ea eb
  have hO : LOK (rowM M 0 (nI k)) := LK_row hK hk hy.2
  have hR : RNG (rowM M 0 (nI k)) := RNG_M hL hk
  obtain ⟨n, hn, hn9⟩ := ln_of hR
  have hSG := SGr_of hS he
  obtain ⟨m, em, -, hm10, -⟩ := iv_nI hSG.1 (by decide)
  unfold FIT at hp
  rw [hn, cN_nI (by omega)] at hp
  intro P hP
  have loop : ∀ d j, d = m - j → j ≤ m → stB (tdM M k) (rowM M 2 (nI e)) j = true → P (nI j) := by
    intro d
    induction d using Nat.strongRecOn with
    | ind d ih =>
      intro j hd hj hI
      apply hP
      refine e_factsM he (pk_le m j (fun h9 => ?_) (fun h9 => ?_) em)
      · have hst : stB (tdM M k) (rowM M 2 (nI e)) (cN (rowM M 2 (nI e) 0)) = true := by rw [em, cN_nI (by omega), show m = j by omega]; exact hI
        have hin : ∀ j, j < cN (rowM M 2 (nI e) 0) → cN (rowM M 2 (nI e) (2 + 3 * j)) < n := st_in hn hn9 (by rw [em, cN_nI (by omega)]; omega) hSG hst
        rw [if_pos (show stB (rowM M 0 (nI k)) (rowM M 2 (nI e)) (cN (rowM M 2 (nI e) 0)) = true from hst)] at hp
        intro P2 hP2
        have lh : ∀ d2 h (run runs : Nat → Int32), d2 = n - h → h ≤ n → (∀ a u, a < h → u < n → runs (9 * a + u) = nI (upF (RUN (tdM M k) (tdM M k 3) n a u))) → P2 (mkB (fun h => !dam (tdM M k) h && agB (tdM M k) (rowM M 2 (nI e)) n h (cN (rowM M 2 (nI e) 0))) h) (nI h) run runs := by
          intro d2
          induction d2 using Nat.strongRecOn with
          | ind d2 ih2 =>
            intro h run runs hd2 hh hJ
            apply hP2
            refine pk_le n h (fun h8 => ?_) (fun h8 => ?_) hn
            · have ef : mkB (fun h => !dam (tdM M k) h && agB (tdM M k) (rowM M 2 (nI e)) n h (cN (rowM M 2 (nI e) 0))) h = FM (rowM M 0 (nI k)) (rowM M 2 (nI e)) n := by rw [show h = n by omega]; rfl
              rw [ef]
              refine ⟨fun c0 => ⟨fun f0 => ?_, fun f0 => ?_⟩, fun c0 => ?_⟩
              · rw [if_neg c0, if_neg f0] at hp
                exact e_askOfM (td := rowM M 0 (nI k)) hn hn9 (fun a b ha hb1 => hJ a b (by omega) hb1) (hp _ _ _ _ _ _ _)
              · rw [if_neg c0, if_pos f0] at hp; exact hp _ _ _ _ _ _ _
              · rw [if_pos c0] at hp; exact hp _ _ _ _ _ _ _
            · refine e_isFitM hk he hL hS hO hn hn9 h8 hin (fun run' runs' h1 h2 => ?_)
              have nx : ∀ y : Int32, y = (if (!dam (tdM M k) h && agB (tdM M k) (rowM M 2 (nI e)) n h (cN (rowM M 2 (nI e) 0))) = true then bitI h else 0) → q_m_fits_93 P2 0 (M 4) (M 5) (M 7) (nI k) (tdM M k 0) (tdM M k 1) run' (nI e) runs' c (nI h) (mkB (fun h => !dam (tdM M k) h && agB (tdM M k) (rowM M 2 (nI e)) n h (cN (rowM M 2 (nI e) 0))) h) y post := by
                intro y hy v1 ev1 v2 ev2
                rw [ev1, ev2, nI_1, hy]
                refine ih2 (n - (h + 1)) (by omega) (h + 1) run' runs' rfl (by omega) (fun a u2 ha hu => ?_)
                by_cases q : a = h
                · subst q; exact h1 u2 hu
                · rw [h2 _ (fun u3 hu3 => by omega)]; exact hJ a u2 (by omega) hu
              by_cases q : (!dam (tdM M k) h && agB (tdM M k) (rowM M 2 (nI e)) n h (cN (rowM M 2 (nI e) 0))) = true
              · rw [if_pos q]
                exact oi (nx _ (by rw [if_pos q]; rfl))
              · rw [if_neg q]
                exact iz (nx _ (by rw [if_neg q]))
        exact lh _ 0 a_run a_runs rfl (by omega) (fun a u2 ha => absurd ha (Nat.not_lt_zero a))
      · obtain ⟨s1, s2, s3⟩ := hSG.2 j (by omega)
        obtain ⟨w, ew, -, hw8, -⟩ := iv_nI s2 (by decide)
        refine e_factOfM he (by omega) (i := 1) (z := 2 + 3 * j) (by omega) rfl (by omega) ?_
        rw [ew]
        refine e_isH (k := w) (by omega) (by rw [hn]; exact iv_ofN (by omega) (by omega) (by omega)) (fun q => zi ?_) (fun q => io (fun v ev => ?_))
        · have q2 : stB (rowM M 0 (nI k)) (rowM M 2 (nI e)) (cN (rowM M 2 (nI e) 0)) = false := by
            rw [em, cN_nI (by omega)]
            exact stB_no (j := j) (by rw [ew]; exact q) m h9
          rw [if_neg (by rw [q2]; decide)] at hp
          exact hp _ _ _ _ _ _ _
        · rw [ev, nI_1]
          exact ih (m - (j + 1)) (by omega) (j + 1) rfl (by omega) (stB_s hI (by rw [ew]; exact q))
  exact loop _ 0 rfl (by omega) rfl
set_option maxRecDepth 40000 in
set_option maxHeartbeats 4000000 in
theorem e_x_fits {T : TT} {M : Nat → Nat → Int32} {a b c : Int32} {pa_heard : Nat → Int32} {post : Int32 → (Nat → Int32) → Prop} (h : TM T M 0) (hB : tB T) (hK : LK M) (hL : mLand (M 5)) (hS : mSig (M 7)) (hp : ∀ z0, post (AN_fits M a b c) z0) : q_wx_X10_fits_0 (T.2 1) (T.1 3) (T.1 6) (T.1 7) (T.2 2) (T.2 4) (T.2 5) (T.2 6) (T.1 10) (T.1 13) (T.1 14) (T.2 10) (T.2 12) (T.2 13) (T.2 14) (T.1 19) (T.2 24) (T.2 25) (T.2 26) (T.1 20) (T.2 27) (T.2 28) (T.2 29) pa_heard a b c post := by
  unfold AN_fits at hp
  rw [TM_cnt h 0 (by decide), TM_cnt h 2 (by decide)] at hp
  refine e_at (hB.2.2.1 0) (fun (hn : ¬ (0 ≤ a ∧ a < T.2 1 0)) => ?_) (fun ea hla => ?_) (fun ea hla => ?_)
  · rw [if_neg (fun h9 => hn h9.1)] at hp
    refine ⟨fun _ => ?_, fun h9 => absurd h9 (by decide), fun h9 => absurd rfl h9⟩
    refine e_at (hB.2.2.1 2) (fun (hm : ¬ (0 ≤ b ∧ b < T.2 1 2)) => ?_) (fun eb hlb => ?_) (fun eb hlb => ?_)
    · exact ⟨fun _ => hp _, fun h9 => absurd h9 (by decide), fun h9 => absurd rfl h9⟩
    · exact ⟨fun h9 => absurd h9 (by decide), fun h9 => absurd h9 (by decide), fun _ _ => hp _⟩
    · exact ⟨fun h9 => absurd h9 (by decide), fun _ => hp _, fun _ h9 => absurd rfl h9⟩
  · refine ⟨fun h9 => absurd h9 (by decide), fun h9 => absurd h9 (by decide), fun _ _ => ?_⟩
    refine e_at (hB.2.2.1 2) (fun (hm : ¬ (0 ≤ b ∧ b < T.2 1 2)) => ?_) (fun eb hlb => ?_) (fun eb hlb => ?_)
    · rw [if_neg (fun h9 => hm h9.2)] at hp
      exact ⟨fun _ => hp _, fun h9 => absurd h9 (by decide), fun h9 => absurd rfl h9⟩
    · rw [if_pos (by rw [ea, eb]; exact ⟨⟨by decide, hla⟩, by decide, hlb⟩), ea, eb] at hp
      have hLD : LDR (T.1 3) (T.1 4) (T.1 5) (T.1 6) (T.1 7) (T.1 8) (T.1 9) (T.2 2) (T.2 3) (T.2 4) (T.2 5) (T.2 6) (T.2 7) (T.2 8) (T.2 9) (rowM M 0 (nI 0)) := TM_sl h 0 0 (by decide) (by decide) hla
      have hEV : R3 (T.1 19) (T.2 24) (T.2 25) (T.2 26) (rowM M 2 (nI 0)) := TM_sl h 2 0 (by decide) (by decide) hlb
      have hOK : LOK (rowM M 0 (nI 0)) := LK_row hK (by decide) (by rw [TM_cnt h 0 (by decide)]; exact hla)
      refine ⟨fun h9 => absurd h9 (by decide), fun h9 => absurd h9 (by decide), fun _ _ => ?_⟩
      have hR : RNG (rowM M 0 (nI 0)) := RNG_M hL (by decide)
      have hX := LX_of hR hLD
      have hSG : SGr (rowM M 2 (nI 0)) := SGr_of hS (by decide)
      obtain ⟨n, hn, hn9⟩ := ln_of hR
      obtain ⟨m, em, -, hm10, -⟩ := iv_nI hSG.1 (by decide)
      unfold FIT at hp
      rw [hn, cN_nI (by omega)] at hp
      refine e_staysX (td := rowM M 0 (nI 0)) hEV hSG hX.1 (fun q => zi ?_) (fun q => io ?_)
      · rw [if_neg (by rw [q]; decide)] at hp; exact hp _
      · rw [if_pos q] at hp
        have hin : ∀ j, j < cN (rowM M 2 (nI 0) 0) → cN (rowM M 2 (nI 0) (2 + 3 * j)) < n := st_in hn hn9 (by rw [em, cN_nI (by omega)]; omega) hSG q
        refine e_hearX hR hX hn hn9 (fun t' ht => e_fittingX (td := rowM M 0 (nI 0)) (hX.1.trans hn) hX.2.2.1 hn9 hEV hSG hin ht ⟨fun c0 => ?_, fun c0 => e_questionX (td := rowM M 0 (nI 0)) (hX.1.trans hn) hn9 (mkB_iv n hn9) ht (fun f0 => ?_) (fun f0 => ?_)⟩)
        · rw [if_pos c0] at hp; exact hp _
        · rw [if_neg c0, if_pos f0] at hp; exact hp _
        · rw [if_neg c0, if_neg f0] at hp; exact hp _
    · rw [if_pos (by rw [ea, eb]; exact ⟨⟨by decide, hla⟩, by decide, hlb⟩), ea, eb] at hp
      have hLD : LDR (T.1 3) (T.1 4) (T.1 5) (T.1 6) (T.1 7) (T.1 8) (T.1 9) (T.2 2) (T.2 3) (T.2 4) (T.2 5) (T.2 6) (T.2 7) (T.2 8) (T.2 9) (rowM M 0 (nI 0)) := TM_sl h 0 0 (by decide) (by decide) hla
      have hEV : R3 (T.1 20) (T.2 27) (T.2 28) (T.2 29) (rowM M 2 (nI 1)) := TM_sl h 2 1 (by decide) (by decide) hlb
      have hOK : LOK (rowM M 0 (nI 0)) := LK_row hK (by decide) (by rw [TM_cnt h 0 (by decide)]; exact hla)
      refine ⟨fun h9 => absurd h9 (by decide), fun _ => ?_, fun _ h9 => absurd rfl h9⟩
      have hR : RNG (rowM M 0 (nI 0)) := RNG_M hL (by decide)
      have hX := LX_of hR hLD
      have hSG : SGr (rowM M 2 (nI 1)) := SGr_of hS (by decide)
      obtain ⟨n, hn, hn9⟩ := ln_of hR
      obtain ⟨m, em, -, hm10, -⟩ := iv_nI hSG.1 (by decide)
      unfold FIT at hp
      rw [hn, cN_nI (by omega)] at hp
      refine e_staysX (td := rowM M 0 (nI 0)) hEV hSG hX.1 (fun q => zi ?_) (fun q => io ?_)
      · rw [if_neg (by rw [q]; decide)] at hp; exact hp _
      · rw [if_pos q] at hp
        have hin : ∀ j, j < cN (rowM M 2 (nI 1) 0) → cN (rowM M 2 (nI 1) (2 + 3 * j)) < n := st_in hn hn9 (by rw [em, cN_nI (by omega)]; omega) hSG q
        refine e_hearX hR hX hn hn9 (fun t' ht => e_fittingX (td := rowM M 0 (nI 0)) (hX.1.trans hn) hX.2.2.1 hn9 hEV hSG hin ht ⟨fun c0 => ?_, fun c0 => e_questionX (td := rowM M 0 (nI 0)) (hX.1.trans hn) hn9 (mkB_iv n hn9) ht (fun f0 => ?_) (fun f0 => ?_)⟩)
        · rw [if_pos c0] at hp; exact hp _
        · rw [if_neg c0, if_pos f0] at hp; exact hp _
        · rw [if_neg c0, if_neg f0] at hp; exact hp _
  · refine ⟨fun h9 => absurd h9 (by decide), fun _ => ?_, fun _ h9 => absurd rfl h9⟩
    refine e_at (hB.2.2.1 2) (fun (hm : ¬ (0 ≤ b ∧ b < T.2 1 2)) => ?_) (fun eb hlb => ?_) (fun eb hlb => ?_)
    · rw [if_neg (fun h9 => hm h9.2)] at hp
      exact ⟨fun _ => hp _, fun h9 => absurd h9 (by decide), fun h9 => absurd rfl h9⟩
    · rw [if_pos (by rw [ea, eb]; exact ⟨⟨by decide, hla⟩, by decide, hlb⟩), ea, eb] at hp
      have hLD : LDR (T.1 10) (T.1 11) (T.1 12) (T.1 13) (T.1 14) (T.1 15) (T.1 16) (T.2 10) (T.2 11) (T.2 12) (T.2 13) (T.2 14) (T.2 15) (T.2 16) (T.2 17) (rowM M 0 (nI 1)) := TM_sl h 0 1 (by decide) (by decide) hla
      have hEV : R3 (T.1 19) (T.2 24) (T.2 25) (T.2 26) (rowM M 2 (nI 0)) := TM_sl h 2 0 (by decide) (by decide) hlb
      have hOK : LOK (rowM M 0 (nI 1)) := LK_row hK (by decide) (by rw [TM_cnt h 0 (by decide)]; exact hla)
      refine ⟨fun h9 => absurd h9 (by decide), fun h9 => absurd h9 (by decide), fun _ _ => ?_⟩
      have hR : RNG (rowM M 0 (nI 1)) := RNG_M hL (by decide)
      have hX := LX_of hR hLD
      have hSG : SGr (rowM M 2 (nI 0)) := SGr_of hS (by decide)
      obtain ⟨n, hn, hn9⟩ := ln_of hR
      obtain ⟨m, em, -, hm10, -⟩ := iv_nI hSG.1 (by decide)
      unfold FIT at hp
      rw [hn, cN_nI (by omega)] at hp
      refine e_staysX (td := rowM M 0 (nI 1)) hEV hSG hX.1 (fun q => zi ?_) (fun q => io ?_)
      · rw [if_neg (by rw [q]; decide)] at hp; exact hp _
      · rw [if_pos q] at hp
        have hin : ∀ j, j < cN (rowM M 2 (nI 0) 0) → cN (rowM M 2 (nI 0) (2 + 3 * j)) < n := st_in hn hn9 (by rw [em, cN_nI (by omega)]; omega) hSG q
        refine e_hearX hR hX hn hn9 (fun t' ht => e_fittingX (td := rowM M 0 (nI 1)) (hX.1.trans hn) hX.2.2.1 hn9 hEV hSG hin ht ⟨fun c0 => ?_, fun c0 => e_questionX (td := rowM M 0 (nI 1)) (hX.1.trans hn) hn9 (mkB_iv n hn9) ht (fun f0 => ?_) (fun f0 => ?_)⟩)
        · rw [if_pos c0] at hp; exact hp _
        · rw [if_neg c0, if_pos f0] at hp; exact hp _
        · rw [if_neg c0, if_neg f0] at hp; exact hp _
    · rw [if_pos (by rw [ea, eb]; exact ⟨⟨by decide, hla⟩, by decide, hlb⟩), ea, eb] at hp
      have hLD : LDR (T.1 10) (T.1 11) (T.1 12) (T.1 13) (T.1 14) (T.1 15) (T.1 16) (T.2 10) (T.2 11) (T.2 12) (T.2 13) (T.2 14) (T.2 15) (T.2 16) (T.2 17) (rowM M 0 (nI 1)) := TM_sl h 0 1 (by decide) (by decide) hla
      have hEV : R3 (T.1 20) (T.2 27) (T.2 28) (T.2 29) (rowM M 2 (nI 1)) := TM_sl h 2 1 (by decide) (by decide) hlb
      have hOK : LOK (rowM M 0 (nI 1)) := LK_row hK (by decide) (by rw [TM_cnt h 0 (by decide)]; exact hla)
      refine ⟨fun h9 => absurd h9 (by decide), fun _ => ?_, fun _ h9 => absurd rfl h9⟩
      have hR : RNG (rowM M 0 (nI 1)) := RNG_M hL (by decide)
      have hX := LX_of hR hLD
      have hSG : SGr (rowM M 2 (nI 1)) := SGr_of hS (by decide)
      obtain ⟨n, hn, hn9⟩ := ln_of hR
      obtain ⟨m, em, -, hm10, -⟩ := iv_nI hSG.1 (by decide)
      unfold FIT at hp
      rw [hn, cN_nI (by omega)] at hp
      refine e_staysX (td := rowM M 0 (nI 1)) hEV hSG hX.1 (fun q => zi ?_) (fun q => io ?_)
      · rw [if_neg (by rw [q]; decide)] at hp; exact hp _
      · rw [if_pos q] at hp
        have hin : ∀ j, j < cN (rowM M 2 (nI 1) 0) → cN (rowM M 2 (nI 1) (2 + 3 * j)) < n := st_in hn hn9 (by rw [em, cN_nI (by omega)]; omega) hSG q
        refine e_hearX hR hX hn hn9 (fun t' ht => e_fittingX (td := rowM M 0 (nI 1)) (hX.1.trans hn) hX.2.2.1 hn9 hEV hSG hin ht ⟨fun c0 => ?_, fun c0 => e_questionX (td := rowM M 0 (nI 1)) (hX.1.trans hn) hn9 (mkB_iv n hn9) ht (fun f0 => ?_) (fun f0 => ?_)⟩)
        · rw [if_pos c0] at hp; exact hp _
        · rw [if_neg c0, if_pos f0] at hp; exact hp _
        · rw [if_neg c0, if_neg f0] at hp; exact hp _
end
section
section
variable {td : Nat → Int32} {huts singers villages dams echoes deep slide : Int32} {heights ladders minutes echoFrom echoTo homes talls known : Nat → Int32}
theorem e_earX2 {h : Nat} {post : Int32 → Prop} (hR : RNG td) (hd : dams = td 3) (he : echoes = td 4) (hf : ∀ j : Nat, j < 4 → nI j < td 4 → echoFrom j = td (43 + 2 * j) ∧ echoTo j = td (44 + 2 * j)) (hh : h < 9) (hp : ∀ set, (∀ x, x < 32 → hb set x = hear td h x) → post set) : q_wl_X2_earshot_0 dams echoes echoFrom echoTo (nI h) post := by
  have h4 : iv 0 4 (td 4) := hR 4 (by omega)
  obtain ⟨c, hc, -, hc4, -⟩ := iv_nI h4 (by decide)
  have st : ∀ y : Int32, (∀ x, x < 32 → hb y x = (!dam td x && decide (x = h))) → q_wl_X2_earshot_15 dams echoes echoFrom echoTo (nI h) y post := by
    intro y hy P hP
    have loop : ∀ m j (x2 : Int32), m = c - j → j ≤ c → (∀ x, x < 32 → hb x2 x = (!dam td x && (decide (x = h) || ech td h x j))) → P x2 (nI j) := by
      intro m
      induction m using Nat.strongRecOn with
      | ind m ih =>
        intro j x2 hm hj hx
        apply hP
        rw [he, hc]
        refine pk_le c j (fun h9 => ?_) (fun h9 => ?_)
        · refine hp x2 (fun x hx9 => ?_)
          rw [hx x hx9]
          unfold hear
          rw [hc, cN_nI (by omega), show j = c by omega]
        · have hin : vp_in (nI j) 4 := vp_in_nI (by omega) (by omega)
          have hl4 : nI j < td 4 := by rw [hc]; exact nI_lt h9 (by omega)
          obtain ⟨f1, f2⟩ := hf j (by omega) hl4
          have nx : ∀ x2' : Int32, (∀ x, x < 32 → hb x2' x = (!dam td x && (decide (x = h) || ech td h x (j + 1)))) → q_wl_X2_earshot_60 P dams (nI c) echoFrom echoTo (nI h) x2' (nI j) post := by
            intro x2' h2 v ev
            rw [ev, nI_1]
            exact ih (c - (j + 1)) (by omega) (j + 1) x2' rfl (by omega) h2
          have st1 : ∀ x, ech td h x (j + 1) = (ech td h x j || (decide (td (43 + 2 * j) = nI h) && decide (td (44 + 2 * j) = nI x))) := fun x => rfl
          refine ⟨hin, ?_⟩
          rw [nI_clamp (by omega), f1, f2]
          refine ⟨fun hne => nx x2 (fun x hx9 => ?_), fun heq => ⟨hin, ?_⟩⟩
          · rw [hx x hx9, st1, decide_eq_false hne, Bool.false_and, Bool.or_false]
          · have hy8 : iv 0 8 (td (44 + 2 * j)) := iv_w (hR (44 + 2 * j) (by omega)) (by
              have hcs : j = 0 ∨ j = 1 ∨ j = 2 ∨ j = 3 := by omega
              rcases hcs with rfl | rfl | rfl | rfl <;> decide)
            obtain ⟨y2, ey, -, hy2, -⟩ := iv_nI hy8 (by decide)
            rw [ey]
            have ex : ∀ x, x < 32 → (decide (td (43 + 2 * j) = nI h) && decide (td (44 + 2 * j) = nI x)) = decide (y2 = x) := by
              intro x hx9
              rw [decide_eq_true heq, Bool.true_and, ey]
              by_cases e : y2 = x
              · subst e; rw [decide_eq_true rfl, decide_eq_true rfl]
              · rw [decide_eq_false e, decide_eq_false (fun h8 => e ((nI_eq (by omega) (by omega)).mp h8))]
            refine e_damX (by omega) (fun hd0 => zi ⟨hin, fun v ev => nx v (fun x hx9 => ?_)⟩) (fun hd1 => io (nx x2 (fun x hx9 => ?_)))
            · rw [ev, hb_or, hx x hx9, show ∀ i, hb ((1 : Int32) <<< (nI i &&& 31)) x = hb (bitI i) x from fun _ => rfl, hb_b32' (by omega) hx9, st1, ex x hx9]
              rw [hd] at hd0
              by_cases e : y2 = x
              · subst e
                unfold dam
                rw [hd0, decide_eq_true rfl]
                simp
              · rw [decide_eq_false e, Bool.or_false, Bool.or_false]
            · rw [hx x hx9, st1, ex x hx9]
              rw [hd] at hd1
              by_cases e : y2 = x
              · subst e
                unfold dam
                rw [hd1]
                rfl
              · rw [decide_eq_false e, Bool.or_false]
    exact loop _ 0 y rfl (by omega) (fun x hx9 => by rw [hy x hx9]; show _ = (!dam td x && (decide (x = h) || false)); rw [Bool.or_false])
  refine e_damX (by omega) (fun hd0 => iz (st _ (fun x hx9 => ?_))) (fun hd1 => oi (st 0 (fun x hx9 => ?_)))
  · rw [show ∀ i, hb ((1 : Int32) <<< (nI i &&& 31)) x = hb (bitI i) x from fun _ => rfl, hb_b32' (by omega) hx9]
    rw [hd] at hd0
    by_cases e : h = x
    · subst e
      unfold dam
      rw [hd0, decide_eq_true rfl]
      rfl
    · rw [decide_eq_false e, de_ne e, Bool.and_false]
  · rw [hb_0]
    rw [hd] at hd1
    by_cases e : h = x
    · subst e
      unfold dam
      rw [hd1]
      rfl
    · rw [de_ne e, Bool.and_false]
/-- the way the sound goes on, at once or by a way down -/
def NXT (td : Nat → Int32) (a b : Nat) : Bool := !dam td a && (hear td a b || leadB td a b)
theorem NXT_EL {td : Nat → Int32} {a b : Nat} : EL td (td 3) a b = NXT td a b := by
  unfold EL NXT hear leadB echB dam
  cases hb (td 3) a <;> cases hb (td 3) b <;> cases decide (0 < td (51 + 9 * a + b)) <;> cases decide (td (7 + b) < td (7 + a)) <;> cases ech td a b (cN (td 4)) <;> (by_cases e : a = b) <;> simp [e, eq_comm]
theorem EL_sh {td : Nat → Int32} {x : Int32} {a b : Nat} : EL td (td 3 ||| x) a b = (NXT td a b && (!hb x a && !hb x b)) := by
  rw [← NXT_EL]
  unfold EL
  rw [hb_or, hb_or]
  cases hb (td 3) a <;> cases hb (td 3) b <;> cases hb x a <;> cases hb x b <;> simp
theorem e_linkX {t : Nat → Int32} {n : Nat} {post : (Nat → Int32) → Prop} (hR : RNG td) (hD : LX td huts singers dams echoes deep heights ladders minutes echoFrom echoTo talls) (hO : LOK td) (hn : td 0 = nI n) (hn9 : n ≤ 9) (hp : ∀ t', (∀ a b, a < n → b < 32 → hb (t' a) b = (decide (b < n) && NXT td a b)) → post t') : q_wp_X7_link_9_0 t huts dams echoes heights minutes echoFrom echoTo post := by
  have h0 : huts = nI n := hD.1.trans hn
  have hlt : ∀ a b, a < n → b < 32 → hear td a b = true → b < n := by
    intro a b ha hb1 h
    unfold hear at h
    rw [Bool.and_eq_true, Bool.or_eq_true] at h
    rcases h.2 with h | h
    · have := of_decide_eq_true h
      omega
    · obtain ⟨k, hk, -, e2⟩ := (ech_iff _).mp h
      have h4 : iv 0 4 (td 4) := hR 4 (by omega)
      obtain ⟨c, hc, -, hc4, -⟩ := iv_nI h4 (by decide)
      rw [hc, cN_nI (by omega)] at hk
      have g := (hO.2.1 k (by omega) (by rw [hc]; exact nI_lt hk (by omega))).2
      rw [e2, hn] at g
      exact (nI_ltI (by omega) (by omega)).mp g
  intro P hP
  have loop : ∀ d a (t : Nat → Int32), d = n - a → a ≤ n → (∀ a' b, a' < a → b < 32 → hb (t a') b = (decide (b < n) && NXT td a' b)) → P (nI a) t := by
    intro d
    induction d using Nat.strongRecOn with
    | ind d ih =>
      intro a t hd ha hI
      apply hP
      refine pk_le n a (fun h9 => hp t (fun a' b ha' hb1 => hI a' b (by omega) hb1)) (fun h9 => ?_) h0
      have row : ∀ y : Int32, (∀ b, b < 32 → hb y b = (!dam td a && hear td a b)) → q_wp_X7_link_9_32 P t huts dams echoes heights minutes echoFrom echoTo (nI a) (nI a) y post := by
        intro y hy
        refine ⟨vp_in_nI (by omega) (by omega), fun t1 e1 => ?_⟩
        rw [nI_clamp (by omega)] at e1
        intro P2 hP2
        have loop2 : ∀ d b (t : Nat → Int32), d = n - b → b ≤ n → (∀ a' b, a' < a → b < 32 → hb (t a') b = (decide (b < n) && NXT td a' b)) → (∀ b', b' < 32 → hb (t a) b' = ((!dam td a && hear td a b') || (decide (b' < b) && leadB td a b'))) → P2 (nI b) t := by
          intro d
          induction d using Nat.strongRecOn with
          | ind d ih2 =>
            intro b t hd2 hbn hI2 hrow
            apply hP2
            refine pk_le n b (fun h8 v ev => ?_) (fun h8 => ?_) h0
            · rw [ev, nI_1]
              refine ih (n - (a + 1)) (by omega) (a + 1) t rfl (by omega) (fun a' b' ha' hb1 => ?_)
              by_cases e : a' = a
              · subst e
                rw [hrow b' hb1, show b = n by omega]
                unfold NXT
                by_cases q : b' < n
                · rw [decide_eq_true q]
                  unfold leadB
                  cases dam td a' <;> simp
                · rw [decide_eq_false q]
                  have : hear td a' b' = false := by
                    rw [← Bool.not_eq_true]
                    exact fun h => q (hlt a' b' h9 hb1 h)
                  rw [this]
                  simp
              · exact hI2 a' b' (by omega) hb1
            · have nx : ∀ t' : Nat → Int32, (∀ a' b, a' < a → b < 32 → hb (t' a') b = (decide (b < n) && NXT td a' b)) → (∀ b', b' < 32 → hb (t' a) b' = ((!dam td a && hear td a b') || (decide (b' < b + 1) && leadB td a b'))) → q_wp_X7_link_9_64 P P2 t' huts dams echoes heights minutes echoFrom echoTo (nI a) (nI b) post := by
                intro t' k1 k2 v ev
                rw [ev, nI_1]
                exact ih2 (n - (b + 1)) (by omega) (b + 1) t' rfl (by omega) k1 k2
              have hina : vp_in (nI a) 9 := vp_in_nI (by omega) (by omega)
              refine e_leadsX hD hn hn9 h9 h8 (fun q => iz (nx t hI2 (fun b' hb1 => ?_))) (fun q => oi ⟨hina, fun v ev => ⟨hina, fun t' et => nx t' (fun a' b' ha' hb1 => ?_) (fun b' hb1 => ?_)⟩⟩)
              · rw [hrow b' hb1]
                by_cases e : b' = b
                · subst e; rw [q, Bool.and_false, Bool.and_false]
                · by_cases e2 : b' < b
                  · rw [decide_eq_true e2, decide_eq_true (by omega)]
                  · rw [decide_eq_false e2, decide_eq_false (by omega)]
              · rw [et, nI_clamp (by omega), up_n (by omega)]; exact hI2 a' b' ha' hb1
              · rw [nI_clamp (by omega)] at ev et
                rw [et, up_s, ev, hb_or, hrow b' hb1, show hb ((1 : Int32) <<< (nI b &&& 31)) b' = decide (b = b') from hb_b32' (by omega) hb1]
                by_cases e : b' = b
                · subst e
                  rw [q, decide_eq_true (rfl : b' = b'), decide_eq_true (by omega : b' < b' + 1)]
                  simp
                · rw [decide_eq_false (show ¬ b = b' from fun h => e h.symm)]
                  by_cases e2 : b' < b
                  · rw [decide_eq_true e2, decide_eq_true (by omega), Bool.or_false]
                  · rw [decide_eq_false e2, decide_eq_false (by omega), Bool.or_false]
        refine loop2 _ 0 t1 rfl (by omega) (fun a' b ha' hb1 => by rw [e1, up_n (by omega)]; exact hI a' b ha' hb1) (fun b' hb1 => ?_)
        rw [e1, up_s, hy b' hb1, decide_eq_false (Nat.not_lt_zero b'), Bool.false_and, Bool.or_false]
      refine e_damX (by omega) (fun q => iz ?_) (fun q => oi (row 0 (fun b hb1 => ?_)))
      · rw [hD.2.2.1] at q ⊢
        refine e_earX2 hR rfl hD.2.2.2.1 hD.2.2.2.2.2.2.2.2.1 (by omega) (fun set hset => ?_)
        have g := row set (fun b hb1 => by rw [hset b hb1]; unfold dam; rw [q]; rfl)
        rw [hD.2.2.1] at g
        exact g
      · rw [hD.2.2.1] at q
        rw [hb_0]
        unfold dam
        rw [q]
        rfl
  exact loop _ 0 t rfl (by omega) (fun a' b ha' => absurd ha' (Nat.not_lt_zero a'))
end
/-- whom the sound reaches when x too is dammed -/
def RSB (td : Nat → Int32) (x : Int32) (n f h : Nat) : Bool := decide (RUN td (td 3 ||| x) n f h < 1000)
theorem clB_f {E : Nat → Nat → Bool} {n f : Nat} : clB E n f f = true := @decide_eq_true _ (Classical.propDecidable _) (fun _ c1 _ => c1)
theorem clB_s {E : Nat → Nat → Bool} {n f a b : Nat} (ha : a < n) (hb1 : b < n) (h : clB E n f a = true) (he : E a b = true) : clB E n f b = true := by
  have g := @of_decide_eq_true _ (Classical.propDecidable _) h
  exact @decide_eq_true _ (Classical.propDecidable _) (fun C c1 c2 => c2 a b ha hb1 (g C c1 c2) he)
theorem clB_i {E : Nat → Nat → Bool} {n f h : Nat} (hc : clB E n f h = true) (C : Nat → Bool) (c1 : C f = true) (c2 : ∀ a b, a < n → b < n → C a = true → E a b = true → C b = true) : C h = true :=
  (@of_decide_eq_true _ (Classical.propDecidable _) hc) C c1 c2
theorem RS_cl {td : Nat → Int32} {x : Int32} {n f h : Nat} (hn9 : n ≤ 9) (hf : f < n) (hh : h < n) (hd : dam td f = false) (hx : hb x f = false) : RSB td x n f h = clB (fun a b => NXT td a b && !hb x b) n f h := by
  have hE : ∀ a b, EL td (td 3 ||| x) a b = (NXT td a b && (!hb x a && !hb x b)) := fun a b => EL_sh
  have hff : EL td (td 3 ||| x) f f = true := by
    rw [hE, hx]
    unfold NXT hear
    rw [hd, decide_eq_true (rfl : f = f)]
    rfl
  have e1 : RSB td x n f h = true ↔ clB (fun a b => NXT td a b && !hb x b) n f h = true := by
    constructor
    · intro h1
      refine SD_cl (E := EL td (td 3 ||| x)) (W := WL td) (F := 1000) (C := fun u => clB (fun a b => NXT td a b && !hb x b) n f u = true) hf hh (fun a b ha hb1 hc he => clB_s ha hb1 hc ?_) (of_decide_eq_true h1) clB_f
      rw [hE, Bool.and_eq_true, Bool.and_eq_true] at he
      show (NXT td a b && !hb x b) = true
      rw [he.1, he.2.2]
      rfl
    · intro h1
      have g := clB_i h1 (fun u => RSB td x n f u && !hb x u) ?_ ?_
      · exact (Bool.and_eq_true _ _ ▸ g).1
      · show (RSB td x n f f && !hb x f) = true
        have := SD_e (E := EL td (td 3 ||| x)) (W := WL td) (F := 1000) (n := n) hff
        have h0 := WL_0 (td := td) f
        rw [hx, Bool.not_false, Bool.and_true]
        exact decide_eq_true (show SD (EL td (td 3 ||| x)) (WL td) 1000 n f f < 1000 by omega)
      · intro a b ha hb1 hc he
        have hc2 : RSB td x n f a = true ∧ (!hb x a) = true := by
          have := hc
          rw [Bool.and_eq_true] at this
          exact this
        rw [Bool.and_eq_true] at he
        have hab : EL td (td 3 ||| x) a b = true := by
          rw [hE, he.1, hc2.2, he.2]
          rfl
        show (RSB td x n f b && !hb x b) = true
        rw [he.2, Bool.and_true]
        exact decide_eq_true (SD_fin WL_le (by omega) hn9 hf ha hff (WL_0 f) hab (of_decide_eq_true hc2.1))
  cases h1 : clB (fun a b => NXT td a b && !hb x b) n f h with
  | true => exact e1.mpr h1
  | false =>
    rw [← Bool.not_eq_true]
    intro h2
    rw [e1.mp h2] at h1
    exact absurd h1 (by decide)
theorem e_reachP {links : Nat → Int32} {bar : Int32} {n f : Nat} {x0 x2 : Int32} {post : Int32 → Prop} (hn : n ≤ 9) (hf : f < n) (hx : x0 = nI f) (hb2 : x2 = bar) (hl : ∀ a, a < n → ∀ b, b < 32 → hb (links a) b = true → b < n) (hp : ∀ set, (∀ h, h < 32 → hb set h = (decide (h < n) && clB (fun a b => hb (links a) b && !hb bar b) n f h)) → post set) : q_wp_X7_reach_5_0 links x0 x2 post := by
  subst hx
  subst hb2
  intro v1 e1
  have e1' : v1 = bitI f := e1
  intro P hP
  have dn : ∀ (s : Int32), hb s f = true → (∀ k, k < 32 → hb s k = true → k < n) → (∀ C : Nat → Bool, C f = true → (∀ a b, a < n → b < n → C a = true → (hb (links a) b && !hb x2 b) = true → C b = true) → ∀ h, h < n → hb s h = true → C h = true) → (∀ a b, a < n → b < n → hb s a = true → (hb (links a) b && !hb x2 b) = true → hb s b = true) → post s := by
    intro s s1 s2 s3 s4
    refine hp s (fun h hh => ?_)
    by_cases hhn : h < n
    · rw [decide_eq_true hhn, Bool.true_and]
      exact cl_eq (S := hb s) s1 s4 s3 h hhn
    · rw [decide_eq_false hhn, Bool.false_and, ← Bool.not_eq_true]
      exact fun h9 => hhn (s2 h hh h9)
  have loop : ∀ m r (s : Int32), m = 9 - r → r ≤ 9 → hb s f = true → (∀ k, k < 32 → hb s k = true → k < n) → (∀ C : Nat → Bool, C f = true → (∀ a b, a < n → b < n → C a = true → (hb (links a) b && !hb x2 b) = true → C b = true) → ∀ h, h < n → hb s h = true → C h = true) → r + 1 ≤ cntB (hb s) 9 → P s (nI r) := by
    intro m
    induction m using Nat.strongRecOn with
    | ind m ih =>
      intro r s hm hr s1 s2 s3 hc
      apply hP
      refine pk_le 9 r (fun h9 => ?_) (fun h9 => ?_)
      · have := cnt_le (hb s) 9
        omega
      · intro P2 hP2
        have loop2 : ∀ m j (x : Int32), m = 9 - j → j ≤ 9 → (∀ k, k < 32 → hb s k = true → hb x k = true) → (∀ k, k < 32 → hb x k = true → k < n) → (∀ C : Nat → Bool, C f = true → (∀ a b, a < n → b < n → C a = true → (hb (links a) b && !hb x2 b) = true → C b = true) → ∀ h, h < n → hb x h = true → C h = true) → (∀ a b, a < j → b < 32 → hb s a = true → (hb (links a) b && !hb x2 b) = true → hb x b = true) → P2 x (nI j) := by
          intro m
          induction m using Nat.strongRecOn with
          | ind m ih2 =>
            intro j x hm2 hj x1 x2' x3 x4
            apply hP2
            refine pk_le 9 j (fun h8 => ?_) (fun h8 => ?_)
            · refine ⟨fun hne => fun v ev => ?_, fun heq => ?_⟩
              · rw [ev, nI_1]
                refine ih (9 - (r + 1)) (by omega) (r + 1) x rfl (by omega) (x1 f (by omega) s1) x2' x3 ?_
                have hd : ∃ k, k < 9 ∧ hb x k = true ∧ hb s k = false := by
                  apply Classical.byContradiction
                  intro hno
                  apply hne
                  apply hb_eq
                  intro k hk
                  by_cases hsk : hb s k = true
                  · rw [hsk, x1 k hk hsk]
                  · rw [Bool.not_eq_true] at hsk
                    rw [hsk, ← Bool.not_eq_true]
                    intro hxk
                    exact hno ⟨k, by have := x2' k hk hxk; omega, hxk, hsk⟩
                have := cnt_lt 9 (fun k hk => x1 k (by omega)) hd
                omega
              · refine dn s s1 s2 s3 (fun a b ha hb1 hsa hE => ?_)
                rw [← heq]
                exact x4 a b (by omega) (by omega) hsa hE
            · have nx : ∀ y : Int32, (∀ k, k < 32 → hb s k = true → hb y k = true) → (∀ k, k < 32 → hb y k = true → k < n) → (∀ C : Nat → Bool, C f = true → (∀ a b, a < n → b < n → C a = true → (hb (links a) b && !hb x2 b) = true → C b = true) → ∀ h, h < n → hb y h = true → C h = true) → (∀ a b, a < j + 1 → b < 32 → hb s a = true → (hb (links a) b && !hb x2 b) = true → hb y b = true) → q_wp_X7_reach_5_49 P P2 links x2 s (nI r) y (nI j) post := by
                intro y y1 y2 y3 y4 v ev
                rw [ev, nI_1]
                exact ih2 (9 - (j + 1)) (by omega) (j + 1) y rfl (by omega) y1 y2 y3 y4
              refine e_hasX (by omega) (fun hh0 => iz (nx x x1 x2' x3 (fun a b ha hb1 hsa hE => ?_))) (fun hh1 => oi ⟨vp_in_nI h8 (by omega), fun v ev => ?_⟩)
              · by_cases e : a = j
                · subst e; rw [hh0] at hsa; exact absurd hsa (by decide)
                · exact x4 a b (by omega) hb1 hsa hE
              · rw [nI_clamp (by omega)] at ev
                have hv : ∀ k, k < 32 → hb v k = (hb x k || (hb (links j) k && !hb x2 k)) := fun k hk => by rw [ev, hb_or, hb_and, hb_not _ hk]
                have hjn : j < n := s2 j (by omega) hh1
                refine nx v (fun k hk h => by rw [hv k hk, x1 k hk h]; rfl) (fun k hk h => ?_) (fun C c1 c2 k hk h => ?_) (fun a b ha hb1 hsa hE => ?_)
                · rw [hv k hk, Bool.or_eq_true] at h
                  rcases h with h | h
                  · exact x2' k hk h
                  · rw [Bool.and_eq_true] at h
                    exact hl j hjn k hk h.1
                · rw [hv k (by omega), Bool.or_eq_true] at h
                  rcases h with h | h
                  · exact x3 C c1 c2 k hk h
                  · exact c2 j k hjn hk (s3 C c1 c2 j hjn hh1) h
                · rw [hv b hb1]
                  by_cases e : a = j
                  · subst e; rw [hE, Bool.or_true]
                  · rw [x4 a b (by omega) hb1 hsa hE]; rfl
        exact loop2 _ 0 s rfl (by omega) (fun k _ h => h) s2 s3 (fun a b ha => absurd ha (Nat.not_lt_zero a))
  have hbf : ∀ k, k < 32 → hb v1 k = decide (f = k) := fun k hk => by rw [e1']; exact hb_b32 (by omega) hk
  refine loop _ 0 v1 rfl (by omega) (by rw [hbf f (by omega), decide_eq_true rfl]) (fun k hk h => ?_) (fun C c1 c2 h hh hs => ?_) ?_
  · rw [hbf k hk] at h
    have := of_decide_eq_true h
    omega
  · rw [hbf h (by omega)] at hs
    rw [← of_decide_eq_true hs]
    exact c1
  · have g := cnt_lt (p := fun _ => false) (q := hb v1) 9 (fun _ _ h => absurd h (by decide)) ⟨f, by omega, by rw [hbf f (by omega), decide_eq_true rfl], rfl⟩
    omega
theorem e_reachRS {td links : Nat → Int32} {x x0 x2 : Int32} {n f : Nat} {post : Int32 → Prop} (hn9 : n ≤ 9) (hf : f < n) (hd : dam td f = false) (hx : hb x f = false) (h0 : x0 = nI f) (h2 : x2 = x) (hl : ∀ a b, a < n → b < 32 → hb (links a) b = (decide (b < n) && NXT td a b)) (hp : post (mkB (RSB td x n f) n)) : q_wp_X7_reach_5_0 links x0 x2 post := by
  refine e_reachP (bar := x) hn9 hf h0 h2 (fun a ha b hb1 h => ?_) (fun set hset => ?_)
  · rw [hl a b ha hb1, Bool.and_eq_true] at h
    exact of_decide_eq_true h.1
  · have e : set = mkB (RSB td x n f) n := by
      apply hb_eq
      intro k hk
      rw [hset k hk, hb_mkB hk n (by omega)]
      by_cases q : k < n
      · rw [RS_cl hn9 hf q hd hx]
        congr 1
        have hcl : ∀ E E' : Nat → Nat → Bool, (∀ a b, a < n → b < n → E a b = E' a b) → clB E n f k = true → clB E' n f k = true := fun E E' hEE h => @decide_eq_true _ (Classical.propDecidable _) (fun C c1 c2 => clB_i h C c1 (fun a b ha hb1 hc he => c2 a b ha hb1 hc (by rw [← hEE a b ha hb1]; exact he)))
        have hee : ∀ a b, a < n → b < n → (hb (links a) b && !hb x b) = (NXT td a b && !hb x b) := fun a b ha hb1 => by rw [hl a b ha (by omega), decide_eq_true hb1, Bool.true_and]
        cases h1 : clB (fun a b => NXT td a b && !hb x b) n f k with
        | true => exact hcl _ _ (fun a b ha hb1 => (hee a b ha hb1).symm) h1
        | false =>
          rw [← Bool.not_eq_true]
          intro h3
          rw [hcl _ _ hee h3] at h1
          exact absurd h1 (by decide)
      · rw [decide_eq_false q, Bool.false_and, Bool.false_and]
    rw [e]
    exact hp
theorem e_comesByM {td : Nat → Int32} {run : Nat → Int32} {huts x sh : Int32} {n f : Nat} {post : Int32 → Prop} (h0 : huts = nI n) (hn9 : n ≤ 9) (hx : x = nI 999999) (hr : ∀ h, h < n → run h = nI (upF (RUN td sh n f h))) (hp : post (mkB (fun h => decide (RUN td sh n f h < 1000)) n)) : q_m_comesBy_0 huts run x post := by
  subst hx
  intro P hP
  have loop : ∀ d h, d = n - h → h ≤ n → P (mkB (fun h => decide (RUN td sh n f h < 1000)) h) (nI h) := by
    intro d
    induction d using Nat.strongRecOn with
    | ind d ih =>
      intro h hd hh
      apply hP
      refine pk_le n h (fun h9 => by rw [show h = n by omega]; exact hp) (fun h9 => ⟨vp_in_nI (by omega) (by omega), ?_⟩) h0
      have e : mkB (fun h => decide (RUN td sh n f h < 1000)) (h + 1) = mkB (fun h => decide (RUN td sh n f h < 1000)) h ||| (if decide (RUN td sh n f h < 1000) = true then bitI h else 0) := rfl
      have nx : ∀ y : Int32, y = (if decide (RUN td sh n f h < 1000) = true then bitI h else 0) → q_m_comesBy_30 P huts run (nI 999999) (nI h) (mkB (fun h => decide (RUN td sh n f h < 1000)) h) y post := by
        intro y hy v1 ev1 v2 ev2
        rw [ev1, ev2, nI_1, hy]
        exact ih (n - (h + 1)) (by omega) (h + 1) rfl (by omega)
      rw [nI_clamp (by omega), hr h h9]
      have ub : upF (RUN td sh n f h) < 2 ^ 30 := upF_b
      have hup : 999999 < upF (RUN td sh n f h) ↔ ¬ RUN td sh n f h < 1000 := by
        unfold upF
        split <;> omega
      refine pk_lt 999999 (upF (RUN td sh n f h)) (fun q => nx _ ?_) (fun q => nx _ ?_) rfl rfl (by omega) (by omega)
      · rw [if_neg (by rw [decide_eq_false (hup.mp q)]; decide)]
      · rw [if_pos (decide_eq_true (Classical.byContradiction (fun q2 => by have := hup.mpr q2; omega)))]
        rfl
  exact loop _ 0 rfl (by omega)
def muS (td : Nat → Int32) (n f t : Nat) : Int32 := (mkB (RSB td 0 n f) n &&& (mkB (RSB td (bitI t) n f) n ^^^ (-1))) &&& (bitI t ^^^ (-1))
def MUT (td : Nat → Int32) (n f t : Nat) : Nat := cntB (hb (muS td n f t)) 9
theorem muS_iv {td : Nat → Int32} {n f t : Nat} (hn9 : n ≤ 9) : iv 0 511 (muS td n f t) := iv_andl (c := 0) (d := 511) (iv_andl (c := 0) (d := 511) (l := 0) (h := 511) (mkB_iv n hn9) (by decide)) (by decide)
theorem RS_ff {td : Nat → Int32} {x : Int32} {n f : Nat} (hn9 : n ≤ 9) (hf : f < n) (hd : dam td f = false) (hx : hb x f = false) : RSB td x n f f = true := by
  rw [RS_cl hn9 hf hf hd hx]
  exact clB_f
theorem e_mutedX {td links : Nat → Int32} {x1 x2 : Int32} {n f t : Nat} {post : Int32 → Prop} (hn9 : n ≤ 9) (hf : f < n) (ht : t < n) (hft : ¬ f = t) (hd : dam td f = false) (h1 : x1 = nI f) (h2 : x2 = nI t) (hl : ∀ a b, a < n → b < 32 → hb (links a) b = (decide (b < n) && NXT td a b)) (hp : post (nI (MUT td n f t))) : q_wp_X7_muted_0 links x1 x2 post := by
  subst h2
  refine e_reachRS hn9 hf hd (hb_0 f) h1 rfl hl (e_reachRS (x := bitI t) hn9 hf hd (by rw [hb_b32' (by omega) (by omega), decide_eq_false (fun h => hft h.symm)]) h1 rfl hl (e_bc ?_ hp))
  exact muS_iv hn9
theorem e_mutesOfM {M : Nat → Nat → Int32} {run : Nat → Int32} {x1 x2 : Int32} {k n f t : Nat} {post : Int32 → (Nat → Int32) → Prop} (hk : k < 2) (hL : mLand (M 5)) (hO : LOK (tdM M k)) (hn : tdM M k 0 = nI n) (hn9 : n ≤ 9) (hf : f < n) (ht : t < n) (hft : ¬ f = t) (hd : dam (tdM M k) f = false) (h1 : x1 = nI f) (h2 : x2 = nI t) (hp : ∀ run', post (nI (MUT (tdM M k) n f t)) run') : q_m_mutesOf_0 (M 5) (nI k) (tdM M k 0) run x1 x2 post := by
  subst h1 h2
  refine e_runM hk hL hO hn hn9 hf rfl (fun r1 hr1 => e_comesByM hn hn9 rfl hr1 (e_runM hk hL hO hn hn9 hf rfl (fun r2 hr2 => e_comesByM hn hn9 rfl hr2 (e_onesM ?_))))
  have e : ((mkB (RSB (tdM M k) 0 n f) n &&& (mkB (RSB (tdM M k) (bitI t) n f) n ^^^ (-1))) &&& (((1 : Int32) <<< (nI f &&& 31)) ^^^ (-1))) &&& (((1 : Int32) <<< (nI t &&& 31)) ^^^ (-1)) = muS (tdM M k) n f t := by
    apply hb_eq
    intro h hh
    show hb (((mkB (RSB (tdM M k) 0 n f) n &&& (mkB (RSB (tdM M k) (bitI t) n f) n ^^^ (-1))) &&& (bitI f ^^^ (-1))) &&& (bitI t ^^^ (-1))) h = hb ((mkB (RSB (tdM M k) 0 n f) n &&& (mkB (RSB (tdM M k) (bitI t) n f) n ^^^ (-1))) &&& (bitI t ^^^ (-1))) h
    rw [hb_and _ (bitI t ^^^ (-1)) h, hb_and _ (bitI t ^^^ (-1)) h, hb_and _ (bitI f ^^^ (-1)) h, hb_and (mkB (RSB (tdM M k) 0 n f) n) _ h, hb_not (bitI f) hh, hb_b32' (show f < 31 by omega) hh, hb_not (mkB (RSB (tdM M k) (bitI t) n f) n) hh, hb_mkB (p := RSB (tdM M k) (bitI t) n f) hh n (by omega)]
    by_cases q : f = h
    · subst q
      rw [RS_ff hn9 hf hd (by rw [hb_b32' (by omega) (by omega), decide_eq_false (fun h => hft h.symm)]), decide_eq_true hf]
      simp
    · rw [decide_eq_false q, Bool.not_false, Bool.and_true]
  show post (nI (cntB (hb (((mkB (RSB (tdM M k) 0 n f) n &&& (mkB (RSB (tdM M k) (bitI t) n f) n ^^^ (-1))) &&& (((1 : Int32) <<< (nI f &&& 31)) ^^^ (-1))) &&& (((1 : Int32) <<< (nI t &&& 31)) ^^^ (-1)))) 9)) r2
  rw [e]
  exact hp r2
/-- whose damming mutes most: the first -/
def wst (td : Nat → Int32) (n f : Nat) : Nat → Int32 × Int32
  | 0 => (-1, -1)
  | t + 1 => if (¬ t = f ∧ dam td t = false) ∧ ¬ nI (MUT td n f t) ≤ (wst td n f t).2 then (nI t, nI (MUT td n f t)) else wst td n f t
theorem wst_lo {td : Nat → Int32} {n f : Nat} : ∀ m, -1 ≤ (wst td n f m).2
  | 0 => by
    show (-1 : Int32) ≤ -1
    decide
  | t + 1 => by
    have e : wst td n f (t + 1) = if (¬ t = f ∧ dam td t = false) ∧ ¬ nI (MUT td n f t) ≤ (wst td n f t).2 then (nI t, nI (MUT td n f t)) else wst td n f t := rfl
    rw [e]
    split
    · have c9 : MUT td n f t ≤ 9 := cnt_le _ 9
      show -1 ≤ nI (MUT td n f t)
      exact Int32.le_iff_toInt_le.mpr (by rw [nI_toInt (by omega)]; have : (-1 : Int32).toInt = -1 := rfl; omega)
    · exact wst_lo t
def OPN (td : Nat → Int32) (x : Int32) : Prop := (0 ≤ x ∧ x < td 0) ∧ dam td (cN x) = false
noncomputable def MTS (td : Nat → Int32) (n : Nat) (b c : Int32) : Int32 := @ite _ (OPN td b) (Classical.propDecidable _) (if c = -1 then (wst td n (cN b) n).1 else @ite _ (OPN td c ∧ ¬ c = b) (Classical.propDecidable _) (nI (MUT td n (cN b) (cN c))) (-2)) (-2)
noncomputable def AN_mutes (M : Nat → Nat → Int32) (a b c : Int32) : Int32 := if 0 ≤ a ∧ a < M 4 0 then MTS (rowM M 0 a) (cN (rowM M 0 a 0)) b c else -2
theorem OPN_k {td : Nat → Int32} {n k : Nat} (hn : td 0 = nI n) (hn9 : n ≤ 9) (hk : k < n) (hd : dam td k = false) : OPN td (nI k) := ⟨⟨nI_pos' (by omega), by rw [hn]; exact nI_lt hk (by omega)⟩, by rw [cN_nI (by omega)]; exact hd⟩
theorem OPN_no {td : Nat → Int32} {n k : Nat} (hn9 : n ≤ 9) (hk : k < n) (hd : dam td k = true) : ¬ OPN td (nI k) := fun h => by
  have := h.2
  rw [cN_nI (by omega), hd] at this
  exact absurd this (by decide)
theorem e_isOpenX2 {td : Nat → Int32} {c dm x : Int32} {n : Nat} {post : Int32 → Prop} (hn : td 0 = nI n) (hn9 : n ≤ 9) (hc : c = td 0) (hd : dm = td 3) (h0 : ¬ OPN td x → post 0) (h1 : ∀ k, k < n → x = nI k → dam td k = false → OPN td x → post 1) : q_wl_X2_isOpen_0 c dm x post :=
  e_isOpenX (td := td) hn9 (hc.trans hn) hd (fun h => h0 (fun h9 => h (by rw [← hn]; exact h9.1))) (fun k hk e hd1 => h0 (by rw [e]; exact OPN_no hn9 hk hd1)) (fun k hk e hd1 => h1 k hk e hd1 (by rw [e]; exact OPN_k hn hn9 hk hd1))
theorem e_worstX {td links : Nat → Int32} {huts dams x2 : Int32} {n f : Nat} {post : Int32 → Prop} (h0 : huts = nI n) (h3 : dams = td 3) (hn9 : n ≤ 9) (hf : f < n) (hd : dam td f = false) (h2 : x2 = nI f) (hl : ∀ a b, a < n → b < 32 → hb (links a) b = (decide (b < n) && NXT td a b)) (hp : post (wst td n f n).1) : q_wp_X7_worst_9_0 links huts dams x2 post := by
  subst h2 h3
  intro P hP
  have loop : ∀ d t, d = n - t → t ≤ n → P (wst td n f t).1 (wst td n f t).2 (nI t) := by
    intro d
    induction d using Nat.strongRecOn with
    | ind d ih =>
      intro t hd2 ht
      apply hP
      refine pk_le n t (fun h9 => by rw [show t = n by omega]; exact hp) (fun h9 => ?_) h0
      have e : wst td n f (t + 1) = if (¬ t = f ∧ dam td t = false) ∧ ¬ nI (MUT td n f t) ≤ (wst td n f t).2 then (nI t, nI (MUT td n f t)) else wst td n f t := rfl
      have nx : ∀ x y : Int32, x = (wst td n f (t + 1)).1 → y = (wst td n f (t + 1)).2 → q_wp_X7_worst_9_56 P links huts (td 3) (nI f) x y (nI t) post := by
        intro x y hx hy v ev
        rw [ev, nI_1, hx, hy]
        exact ih (n - (t + 1)) (by omega) (t + 1) rfl (by omega)
      refine ⟨fun q => ?_, fun q => ?_⟩
      · have e2 : t = f := (nI_eq (by omega) (by omega)).mp q
        exact nx _ _ (by rw [e, if_neg (fun h => h.1.1 e2)]) (by rw [e, if_neg (fun h => h.1.1 e2)])
      · have e2 : ¬ t = f := fun h => q (by rw [h])
        refine e_damX (by omega) (fun qd => zi ?_) (fun qd => io (nx _ _ ?_ ?_))
        · refine e_mutedX hn9 hf h9 (fun h => e2 h.symm) hd rfl rfl hl ⟨fun hle => nx _ _ ?_ ?_, fun hgt => e_mutedX hn9 hf h9 (fun h => e2 h.symm) hd rfl rfl hl (nx _ _ ?_ ?_)⟩
          · rw [e, if_neg (fun h => h.2 hle)]
          · rw [e, if_neg (fun h => h.2 hle)]
          · rw [e, if_pos ⟨⟨e2, qd⟩, hgt⟩]
          · rw [e, if_pos ⟨⟨e2, qd⟩, hgt⟩]
        · rw [e, if_neg (fun h => by have := h.1.2; unfold dam at this; rw [qd] at this; exact absurd this (by decide))]
        · rw [e, if_neg (fun h => by have := h.1.2; unfold dam at this; rw [qd] at this; exact absurd this (by decide))]
  exact loop _ 0 rfl (by omega)
set_option maxRecDepth 40000 in
set_option maxHeartbeats 4000000 in
theorem e_m_mutes {M : Nat → Nat → Int32} {f_code f_land f_huts f_singers a b c : Int32} {a_run : Nat → Int32} {post : Int32 → (Int32) → (Int32) → (Int32) → (Int32) → (Nat → Int32) → Prop} (hc : ∀ o, iv 0 2 (M 4 o)) (hL : mLand (M 5)) (hK : LK M) (hp : ∀ z0 z1 z2 z3 z4, post (AN_mutes M a b c) z0 z1 z2 z3 z4) : q_m_mutes_0 f_code (M 4) (M 5) f_land f_huts f_singers a_run a b c post := by
  unfold AN_mutes at hp
  refine e_hand (hc 0) (fun hno => iz ?_) (fun k hk ea hy => oi ?_)
  · rw [if_neg hno] at hp; exact hp _ _ _ _ _
  rw [if_pos hy] at hp
  subst ea
  have hO : LOK (rowM M 0 (nI k)) := LK_row hK hk hy.2
  have hR : RNG (rowM M 0 (nI k)) := RNG_M hL hk
  obtain ⟨n, hn, hn9⟩ := ln_of hR
  have b0 : iv 0 9 (tdM M k 0) := hR 0 (by omega)
  unfold MTS at hp
  refine e_isHutM b0 (fun h => iz ?_) (fun h1 => oi ?_)
  · rw [if_neg (fun h9 => h h9.1)] at hp; exact hp _ _ _ _ _
  rw [hn] at h1
  obtain ⟨f, hf, eb⟩ := lt_n hn9 h1
  subst eb
  refine e_isDamM hk (by omega) (fun hd => zi ?_) (fun hd => io ?_)
  · rw [if_pos (OPN_k hn hn9 hf hd), hn, cN_nI (by omega), cN_nI (by omega)] at hp
    refine ⟨fun c1 => ⟨fun _ => ?_, fun c9 => absurd c1 c9⟩, fun c1 => ?_⟩
    · rw [if_pos c1] at hp
      intro P hP
      have loop : ∀ d t (run : Nat → Int32), d = n - t → t ≤ n → P (wst (tdM M k) n f t).1 (wst (tdM M k) n f t).2 (nI t) run := by
        intro d
        induction d using Nat.strongRecOn with
        | ind d ih =>
          intro t run hd2 ht
          apply hP
          refine pk_le n t (fun h9 => by rw [show t = n by omega]; exact hp _ _ _ _ _) (fun h9 => ?_) hn
          have e : wst (tdM M k) n f (t + 1) = if (¬ t = f ∧ dam (tdM M k) t = false) ∧ ¬ nI (MUT (tdM M k) n f t) ≤ (wst (tdM M k) n f t).2 then (nI t, nI (MUT (tdM M k) n f t)) else wst (tdM M k) n f t := rfl
          have lo := wst_lo (td := tdM M k) (n := n) (f := f) t
          have go : ∀ (x y : Int32) (run : Nat → Int32), x = (wst (tdM M k) n f (t + 1)).1 → y = (wst (tdM M k) n f (t + 1)).2 → ∀ v_1 : Int32, v_1 = nI t + 1 → P x y v_1 run := by
            intro x y run hx hy v ev
            rw [ev, nI_1, hx, hy]
            exact ih (n - (t + 1)) (by omega) (t + 1) run rfl (by omega)
          have stay : ∀ (run : Nat → Int32) (y0 : Int32), wst (tdM M k) n f (t + 1) = wst (tdM M k) n f t → y0 ≤ (wst (tdM M k) n f t).2 → q_m_mutes_114 P 0 (M 4) (M 5) (nI k) (tdM M k 0) (tdM M k 1) run (nI f) (wst (tdM M k) n f t).1 (wst (tdM M k) n f t).2 (nI t) y0 post := by
            intro run y0 hw hle
            refine ⟨fun _ => ⟨fun hge => ?_, fun hge => ?_⟩, fun hno => absurd hle hno⟩
            · exact go _ _ run (by rw [hw]) (by rw [hw]; exact Int32.le_antisymm hle hge)
            · exact go _ _ run (by rw [hw]) (by rw [hw])
          refine ⟨fun q => ?_, fun q => ?_⟩
          · have e2 : t = f := (nI_eq (by omega) (by omega)).mp q
            exact stay run (-1) (by rw [e, if_neg (fun h => h.1.1 e2)]) lo
          · have e2 : ¬ t = f := fun h => q (by rw [h])
            refine e_isDamM hk (by omega) (fun qd => iz ?_) (fun qd => oi (stay run (-1) (by rw [e, if_neg (fun h => by rw [qd] at h; exact absurd h.1.2 (by decide))]) lo))
            refine e_mutesOfM hk hL hO hn hn9 hf h9 (fun h => e2 h.symm) hd rfl rfl (fun run' => ?_)
            by_cases hle : nI (MUT (tdM M k) n f t) ≤ (wst (tdM M k) n f t).2
            · exact stay run' _ (by rw [e, if_neg (fun h => h.2 hle)]) hle
            · have hw := e
              rw [if_pos ⟨⟨e2, qd⟩, hle⟩] at hw
              refine ⟨fun h => absurd h hle, fun _ => ⟨fun hge => ?_, fun hge => ?_⟩⟩
              · exact go _ _ run' (by rw [hw]) (by rw [hw])
              · exact absurd (Int32.le_of_lt (Int32.not_le.mp hle)) hge
      exact loop _ 0 a_run rfl (by omega)
    · rw [if_neg c1] at hp
      refine e_isHutM b0 (fun h => iz ?_) (fun h2 => oi ?_)
      · rw [if_neg (fun h9 => h h9.1.1)] at hp; exact hp _ _ _ _ _
      rw [hn] at h2
      obtain ⟨t, ht, ec⟩ := lt_n hn9 h2
      subst ec
      refine e_isDamM hk (by omega) (fun hd2 => zi ⟨fun hne => ?_, fun heq => ?_⟩) (fun hd2 => io ?_)
      · rw [if_pos ⟨OPN_k hn hn9 ht hd2, hne⟩, cN_nI (by omega)] at hp
        exact ⟨fun q => absurd q c1, fun _ => e_mutesOfM hk hL hO hn hn9 hf ht (fun h => hne (by rw [h])) hd rfl rfl (fun run' => hp _ _ _ _ _)⟩
      · rw [if_neg (fun h9 => h9.2 heq)] at hp; exact hp _ _ _ _ _
      · rw [if_neg (fun h9 => OPN_no hn9 ht hd2 h9.1)] at hp; exact hp _ _ _ _ _
  · rw [if_neg (OPN_no hn9 hf hd)] at hp; exact hp _ _ _ _ _
set_option maxRecDepth 40000 in
set_option maxHeartbeats 4000000 in
theorem e_x_mutes {T : TT} {M : Nat → Nat → Int32} {a b c : Int32} {pa_next : Nat → Int32} {post : Int32 → (Nat → Int32) → Prop} (h : TM T M 0) (hB : tB T) (hK : LK M) (hL : mLand (M 5)) (hp : ∀ z0, post (AN_mutes M a b c) z0) : q_wx_X10_mutes_0 (T.2 1) (T.1 3) (T.1 6) (T.1 7) (T.2 2) (T.2 4) (T.2 5) (T.2 6) (T.1 10) (T.1 13) (T.1 14) (T.2 10) (T.2 12) (T.2 13) (T.2 14) pa_next a b c post := by
  unfold AN_mutes at hp
  rw [TM_cnt h 0 (by decide)] at hp
  refine e_at (hB.2.2.1 0) (fun (hno : ¬ (0 ≤ a ∧ a < T.2 1 0)) => ?_) (fun ea hla => ?_) (fun ea hla => ?_)
  · rw [if_neg hno] at hp
    exact ⟨fun _ => hp _, fun h9 => absurd h9 (by decide), fun h9 => absurd rfl h9⟩
  · rw [if_pos (by rw [ea]; exact ⟨by decide, hla⟩), ea] at hp
    have hR : RNG (rowM M 0 (nI 0)) := RNG_M hL (by decide)
    have hLD : LDR (T.1 3) (T.1 4) (T.1 5) (T.1 6) (T.1 7) (T.1 8) (T.1 9) (T.2 2) (T.2 3) (T.2 4) (T.2 5) (T.2 6) (T.2 7) (T.2 8) (T.2 9) (rowM M 0 (nI 0)) := TM_sl h 0 0 (by decide) (by decide) hla
    have hX := LX_of hR hLD
    have hOK : LOK (rowM M 0 (nI 0)) := LK_row hK (by decide) (by rw [TM_cnt h 0 (by decide)]; exact hla)
    obtain ⟨n, hn, hn9⟩ := ln_of hR
    refine ⟨fun h9 => absurd h9 (by decide), fun h9 => absurd h9 (by decide), fun _ _ => ?_⟩
    unfold MTS at hp
    refine e_isOpenX2 hn hn9 hX.1 hX.2.2.1 (fun h => zi ?_) (fun f hf eb hd hop => io ?_)
    · rw [if_neg h] at hp; exact hp _
    subst eb
    rw [if_pos hop, hn, cN_nI (by omega), cN_nI (by omega)] at hp
    refine ⟨fun c1 => ?_, fun c1 => e_isOpenX2 hn hn9 hX.1 hX.2.2.1 (fun h => iz ?_) (fun t ht ec hd2 hop2 => oi ⟨fun hne => ?_, fun heq => ?_⟩)⟩
    · rw [if_pos c1] at hp
      exact e_linkX hR hX hOK hn hn9 (fun t' hl => ⟨fun c9 => absurd c1 c9, fun _ => e_worstX (td := rowM M 0 (nI 0)) (hX.1.trans hn) hX.2.2.1 hn9 hf hd rfl hl (hp _)⟩)
    · rw [if_neg c1, if_neg (fun h9 => h h9.1)] at hp; exact hp _
    · subst ec
      rw [if_neg c1, if_pos ⟨hop2, hne⟩, cN_nI (by omega)] at hp
      exact e_linkX hR hX hOK hn hn9 (fun t' hl => ⟨fun _ => e_mutedX (td := rowM M 0 (nI 0)) hn9 hf ht (fun h => hne (by rw [h])) hd rfl rfl hl (hp _), fun c9 => absurd c9 c1⟩)
    · rw [if_neg c1, if_neg (fun h9 => h9.2 heq)] at hp; exact hp _
  · rw [if_pos (by rw [ea]; exact ⟨by decide, hla⟩), ea] at hp
    have hR : RNG (rowM M 0 (nI 1)) := RNG_M hL (by decide)
    have hLD : LDR (T.1 10) (T.1 11) (T.1 12) (T.1 13) (T.1 14) (T.1 15) (T.1 16) (T.2 10) (T.2 11) (T.2 12) (T.2 13) (T.2 14) (T.2 15) (T.2 16) (T.2 17) (rowM M 0 (nI 1)) := TM_sl h 0 1 (by decide) (by decide) hla
    have hX := LX_of hR hLD
    have hOK : LOK (rowM M 0 (nI 1)) := LK_row hK (by decide) (by rw [TM_cnt h 0 (by decide)]; exact hla)
    obtain ⟨n, hn, hn9⟩ := ln_of hR
    refine ⟨fun h9 => absurd h9 (by decide), fun _ => ?_, fun _ h9 => absurd rfl h9⟩
    unfold MTS at hp
    refine e_isOpenX2 hn hn9 hX.1 hX.2.2.1 (fun h => zi ?_) (fun f hf eb hd hop => io ?_)
    · rw [if_neg h] at hp; exact hp _
    subst eb
    rw [if_pos hop, hn, cN_nI (by omega), cN_nI (by omega)] at hp
    refine ⟨fun c1 => ?_, fun c1 => e_isOpenX2 hn hn9 hX.1 hX.2.2.1 (fun h => iz ?_) (fun t ht ec hd2 hop2 => oi ⟨fun hne => ?_, fun heq => ?_⟩)⟩
    · rw [if_pos c1] at hp
      exact e_linkX hR hX hOK hn hn9 (fun t' hl => ⟨fun c9 => absurd c1 c9, fun _ => e_worstX (td := rowM M 0 (nI 1)) (hX.1.trans hn) hX.2.2.1 hn9 hf hd rfl hl (hp _)⟩)
    · rw [if_neg c1, if_neg (fun h9 => h h9.1)] at hp; exact hp _
    · subst ec
      rw [if_neg c1, if_pos ⟨hop2, hne⟩, cN_nI (by omega)] at hp
      exact e_linkX hR hX hOK hn hn9 (fun t' hl => ⟨fun _ => e_mutedX (td := rowM M 0 (nI 1)) hn9 hf ht (fun h => hne (by rw [h])) hd rfl rfl hl (hp _), fun c9 => absurd c9 c1⟩)
    · rw [if_neg c1, if_neg (fun h9 => h9.2 heq)] at hp; exact hp _
end
section
/-- sums, greatest, least over the huts -/
def sm (g : Nat → Nat) : Nat → Nat
  | 0 => 0
  | m + 1 => sm g m + g m
theorem sm_ext {g g' : Nat → Nat} : ∀ m, (∀ a, a < m → g a = g' a) → sm g m = sm g' m
  | 0, _ => rfl
  | m + 1, h => by
    show sm g m + g m = sm g' m + g' m
    rw [sm_ext m (fun a ha => h a (by omega)), h m (by omega)]
theorem sm_add {g g' : Nat → Nat} : ∀ m, sm (fun a => g a + g' a) m = sm g m + sm g' m
  | 0 => rfl
  | m + 1 => by
    show sm (fun a => g a + g' a) m + (g m + g' m) = (sm g m + g m) + (sm g' m + g' m)
    rw [sm_add m]
    omega
theorem sm_z {g : Nat → Nat} : ∀ m, (∀ a, a < m → g a = 0) → sm g m = 0
  | 0, _ => rfl
  | m + 1, h => by
    show sm g m + g m = 0
    rw [sm_z m (fun a ha => h a (by omega)), h m (by omega)]
theorem sm_ex {g : Nat → Nat} : ∀ m, 0 < sm g m → ∃ a, a < m ∧ 0 < g a
  | 0, h => absurd h (Nat.lt_irrefl 0)
  | m + 1, h => by
    have h' : 0 < sm g m + g m := h
    by_cases q : 0 < g m
    · exact ⟨m, by omega, q⟩
    · obtain ⟨a, ha, hg⟩ := sm_ex (g := g) m (by omega)
      exact ⟨a, by omega, hg⟩
theorem sm_ge {g : Nat → Nat} {a : Nat} : ∀ m, a < m → g a ≤ sm g m
  | 0, h => absurd h (Nat.not_lt_zero a)
  | m + 1, h => by
    show g a ≤ sm g m + g m
    by_cases q : a = m
    · subst q; omega
    · have := sm_ge (g := g) (a := a) m (by omega); omega
theorem sm_le {g : Nat → Nat} {c : Nat} : ∀ m, (∀ a, a < m → g a ≤ c) → sm g m ≤ m * c
  | 0, _ => by rw [Nat.zero_mul]; exact Nat.le_refl _
  | m + 1, h => by
    show sm g m + g m ≤ (m + 1) * c
    have h1 := sm_le m (fun a ha => h a (by omega))
    have h2 := h m (by omega)
    rw [Nat.succ_mul]
    omega
theorem sm_mono {g g' : Nat → Nat} : ∀ m, (∀ a, a < m → g a ≤ g' a) → sm g m ≤ sm g' m
  | 0, _ => Nat.le_refl _
  | m + 1, h => by
    show sm g m + g m ≤ sm g' m + g' m
    have h1 := sm_mono m (fun a ha => h a (by omega))
    have h2 := h m (by omega)
    omega
theorem sm_upd {g g' : Nat → Nat} {x v : Nat} : ∀ m, x < m → (∀ a, a < m → ¬ a = x → g' a = g a) → g' x = g x + v → sm g' m = sm g m + v
  | 0, h, _, _ => absurd h (Nat.not_lt_zero x)
  | m + 1, h, h1, h2 => by
    show sm g' m + g' m = sm g m + g m + v
    by_cases q : x = m
    · subst q
      rw [sm_ext (g := g') (g' := g) x (fun a ha => h1 a (by omega) (by omega)), h2]
      omega
    · rw [sm_upd m (by omega) (fun a ha => h1 a (by omega)) h2, h1 m (by omega) (fun e => q e.symm)]
      omega
def mx (g : Nat → Nat) : Nat → Nat
  | 0 => 0
  | m + 1 => max (mx g m) (g m)
theorem mx_ext {g g' : Nat → Nat} : ∀ m, (∀ a, a < m → g a = g' a) → mx g m = mx g' m
  | 0, _ => rfl
  | m + 1, h => by
    show max (mx g m) (g m) = max (mx g' m) (g' m)
    rw [mx_ext m (fun a ha => h a (by omega)), h m (by omega)]
theorem mx_ge {g : Nat → Nat} {a : Nat} : ∀ m, a < m → g a ≤ mx g m
  | 0, h => absurd h (Nat.not_lt_zero a)
  | m + 1, h => by
    show g a ≤ max (mx g m) (g m)
    by_cases q : a = m
    · subst q; omega
    · have := mx_ge (g := g) (a := a) m (by omega); omega
theorem mx_ex {g : Nat → Nat} : ∀ m, mx g m = 0 ∨ ∃ a, a < m ∧ mx g m = g a
  | 0 => Or.inl rfl
  | m + 1 => by
    have e : mx g (m + 1) = max (mx g m) (g m) := rfl
    rcases mx_ex (g := g) m with h | ⟨a, ha, h⟩
    · by_cases q : g m = 0
      · exact Or.inl (by omega)
      · exact Or.inr ⟨m, by omega, by omega⟩
    · by_cases q : mx g m ≤ g m
      · exact Or.inr ⟨m, by omega, by omega⟩
      · exact Or.inr ⟨a, by omega, by omega⟩
theorem mx_upd {g g' : Nat → Nat} {x v : Nat} : ∀ m, x < m → (∀ a, a < m → ¬ a = x → g' a = g a) → g x = 0 → g' x = v → mx g' m = max (mx g m) v
  | 0, h, _, _, _ => absurd h (Nat.not_lt_zero x)
  | m + 1, h, h1, h0, h2 => by
    show max (mx g' m) (g' m) = max (max (mx g m) (g m)) v
    by_cases q : x = m
    · subst q
      rw [mx_ext (g := g') (g' := g) x (fun a ha => h1 a (by omega) (by omega)), h2, h0]
      omega
    · rw [mx_upd m (by omega) (fun a ha => h1 a (by omega)) h0 h2, h1 m (by omega) (fun e => q e.symm)]
      omega
theorem mx_le {g : Nat → Nat} {c : Nat} : ∀ m, (∀ a, a < m → g a ≤ c) → mx g m ≤ c
  | 0, _ => Nat.zero_le _
  | m + 1, h => by
    show max (mx g m) (g m) ≤ c
    have h1 := mx_le m (fun a ha => h a (by omega))
    have h2 := h m (by omega)
    omega
def mn (g : Nat → Nat) : Nat → Nat
  | 0 => 1000
  | m + 1 => min (mn g m) (g m)
theorem mn_ext {g g' : Nat → Nat} : ∀ m, (∀ a, a < m → g a = g' a) → mn g m = mn g' m
  | 0, _ => rfl
  | m + 1, h => by
    show min (mn g m) (g m) = min (mn g' m) (g' m)
    rw [mn_ext m (fun a ha => h a (by omega)), h m (by omega)]
theorem mn_b {g : Nat → Nat} : ∀ m, mn g m ≤ 1000
  | 0 => Nat.le_refl _
  | m + 1 => by
    show min (mn g m) (g m) ≤ 1000
    have := mn_b (g := g) m
    omega
theorem mn_le {g : Nat → Nat} {a : Nat} : ∀ m, a < m → mn g m ≤ g a
  | 0, h => absurd h (Nat.not_lt_zero a)
  | m + 1, h => by
    show min (mn g m) (g m) ≤ g a
    by_cases q : a = m
    · subst q; omega
    · have := mn_le (g := g) (a := a) m (by omega); omega
theorem mn_hi {g : Nat → Nat} : ∀ m, (∀ a, a < m → 1000 ≤ g a) → mn g m = 1000
  | 0, _ => rfl
  | m + 1, h => by
    show min (mn g m) (g m) = 1000
    have h1 := mn_hi m (fun a ha => h a (by omega))
    have h2 := h m (by omega)
    omega
theorem mn_mono {g g' : Nat → Nat} : ∀ m, (∀ a, a < m → g a ≤ g' a) → mn g m ≤ mn g' m
  | 0, _ => Nat.le_refl _
  | m + 1, h => by
    show min (mn g m) (g m) ≤ min (mn g' m) (g' m)
    have h1 := mn_mono m (fun a ha => h a (by omega))
    have h2 := h m (by omega)
    omega
theorem mn_upd {g g' : Nat → Nat} {x v : Nat} : ∀ m, x < m → (∀ a, a < m → ¬ a = x → g' a = g a) → 1000 ≤ g x → g' x = v → mn g' m = min (mn g m) v
  | 0, h, _, _, _ => absurd h (Nat.not_lt_zero x)
  | m + 1, h, h1, h0, h2 => by
    show min (mn g' m) (g' m) = min (min (mn g m) (g m)) v
    by_cases q : x = m
    · subst q
      rw [mn_ext (g := g') (g' := g) x (fun a ha => h1 a (by omega) (by omega)), h2]
      have := mn_b (g := g) x
      omega
    · rw [mn_upd m (by omega) (fun a ha => h1 a (by omega)) h0 h2, h1 m (by omega) (fun e => q e.symm)]
      omega
section
variable {td : Nat → Int32} {n f : Nat}
/-- the huts that lie higher -/
def rk (td : Nat → Int32) (n h : Nat) : Nat := cntB (fun x => decide (td (7 + h) < td (7 + x))) n
theorem lead_ht {a b : Nat} (h : leadB td a b = true) : td (7 + b) < td (7 + a) := by
  unfold leadB at h
  rw [Bool.and_eq_true, Bool.and_eq_true] at h
  exact of_decide_eq_true h.2.1
theorem lead_dam {a b : Nat} (h : leadB td a b = true) : dam td a = false ∧ dam td b = false := by
  unfold leadB at h
  rw [Bool.and_eq_true, Bool.and_eq_true, Bool.and_eq_true, Bool.not_eq_true', Bool.not_eq_true'] at h
  exact h.2.2
theorem rk_lt {a b : Nat} (ha : a < n) (h : leadB td a b = true) : rk td n a < rk td n b := by
  have g := lead_ht h
  have c := cnt_lt (p := fun x => decide (td (7 + a) < td (7 + x))) (q := fun x => decide (td (7 + b) < td (7 + x))) n (fun k _ h1 => decide_eq_true (by
    have h2 := of_decide_eq_true h1
    rw [Int32.lt_iff_toInt_lt] at g h2 ⊢
    omega)) ⟨a, ha, decide_eq_true g, decide_eq_false (by rw [Int32.lt_iff_toInt_lt]; omega)⟩
  unfold rk
  omega
theorem rk_b {h : Nat} (hh : h < n) : rk td n h < n := by
  have c := cnt_lt (p := fun x => decide (td (7 + h) < td (7 + x))) (q := fun _ => true) n (fun _ _ _ => rfl) ⟨h, hh, rfl, decide_eq_false (by rw [Int32.lt_iff_toInt_lt]; omega)⟩
  have l := cnt_le (fun _ => true) n
  unfold rk
  omega
/-- the ways of k steps down from f -/
def NW (td : Nat → Int32) (n f : Nat) : Nat → Nat → Nat
  | 0, h => if h = f then 1 else 0
  | k + 1, h => sm (fun a => if leadB td a h = true then NW td n f k a else 0) n
theorem NW_s {k h : Nat} : NW td n f (k + 1) h = sm (fun a => if leadB td a h = true then NW td n f k a else 0) n := rfl
theorem NW_p {k h : Nat} (h0 : 0 < NW td n f (k + 1) h) : ∃ a, a < n ∧ leadB td a h = true ∧ 0 < NW td n f k a := by
  rw [NW_s] at h0
  obtain ⟨a, ha, g⟩ := sm_ex n h0
  by_cases q : leadB td a h = true
  · rw [if_pos q] at g
    exact ⟨a, ha, q, g⟩
  · rw [if_neg q] at g
    exact absurd g (Nat.lt_irrefl 0)
theorem NW_n {k h a : Nat} (ha : a < n) (hl : leadB td a h = true) (h0 : 0 < NW td n f k a) : 0 < NW td n f (k + 1) h := by
  have g := sm_ge (g := fun a => if leadB td a h = true then NW td n f k a else 0) n ha
  rw [NW_s]
  have e : (if leadB td a h = true then NW td n f k a else 0) = NW td n f k a := if_pos hl
  rw [e] at g
  omega
theorem NW_rk : ∀ k h, 0 < NW td n f k h → rk td n f + k ≤ rk td n h
  | 0, h, h0 => by
    have e : NW td n f 0 h = if h = f then 1 else 0 := rfl
    rw [e] at h0
    by_cases q : h = f
    · subst q; exact Nat.le_refl _
    · rw [if_neg q] at h0; exact absurd h0 (Nat.lt_irrefl 0)
  | k + 1, h, h0 => by
    obtain ⟨a, ha, hl, g⟩ := NW_p h0
    have := NW_rk k a g
    have := rk_lt ha hl
    omega
theorem NW_far {k h : Nat} (hh : h < n) (hk : n ≤ k) : NW td n f k h = 0 := by
  apply Classical.byContradiction
  intro q
  have := NW_rk (td := td) (n := n) (f := f) k h (by omega)
  have := rk_b (td := td) hh
  omega
theorem NW_le (hn : n ≤ 9) : ∀ k h, NW td n f k h ≤ 9 ^ k
  | 0, h => by
    show (if h = f then 1 else 0) ≤ 1
    split <;> omega
  | k + 1, h => by
    rw [NW_s]
    have g := sm_le (g := fun a => if leadB td a h = true then NW td n f k a else 0) (c := 9 ^ k) n (fun a _ => by
      show (if leadB td a h = true then NW td n f k a else 0) ≤ 9 ^ k
      split
      · exact NW_le hn k a
      · exact Nat.zero_le _)
    have : n * 9 ^ k ≤ 9 * 9 ^ k := Nat.mul_le_mul_right _ hn
    rw [Nat.pow_succ, Nat.mul_comm (9 ^ k) 9]
    omega
def PW (td : Nat → Int32) (n f : Nat) : Nat → Nat → Nat
  | 0, _ => 0
  | m + 1, h => PW td n f m h + NW td n f m h
theorem PW_s {m h : Nat} : PW td n f (m + 1) h = PW td n f m h + NW td n f m h := rfl
theorem PW_rec {h : Nat} : ∀ m, sm (fun a => if leadB td a h = true then PW td n f m a else 0) n + NW td n f 0 h = PW td n f (m + 1) h
  | 0 => by
    rw [sm_z n (fun a _ => by show (if leadB td a h = true then PW td n f 0 a else 0) = 0; split <;> rfl), PW_s]
    rfl
  | m + 1 => by
    rw [PW_s, ← PW_rec m, NW_s]
    have e : sm (fun a => if leadB td a h = true then PW td n f (m + 1) a else 0) n = sm (fun a => (if leadB td a h = true then PW td n f m a else 0) + (if leadB td a h = true then NW td n f m a else 0)) n := sm_ext n (fun a _ => by
      show (if leadB td a h = true then PW td n f (m + 1) a else 0) = (if leadB td a h = true then PW td n f m a else 0) + (if leadB td a h = true then NW td n f m a else 0)
      split
      · rfl
      · rfl)
    rw [e, sm_add]
    omega
/-- all ways from f -/
def WY (td : Nat → Int32) (n f h : Nat) : Nat := PW td n f n h
theorem WY_rec {h : Nat} (hh : h < n) : WY td n f h = NW td n f 0 h + sm (fun a => if leadB td a h = true then WY td n f a else 0) n := by
  have g := PW_rec (td := td) (n := n) (f := f) (h := h) n
  rw [PW_s, NW_far hh (Nat.le_refl n)] at g
  unfold WY
  omega
theorem PW_ex {h : Nat} : ∀ m, 0 < PW td n f m h → ∃ k, k < m ∧ 0 < NW td n f k h
  | 0, h0 => absurd h0 (Nat.lt_irrefl 0)
  | m + 1, h0 => by
    rw [PW_s] at h0
    by_cases q : 0 < NW td n f m h
    · exact ⟨m, by omega, q⟩
    · obtain ⟨k, hk, g⟩ := PW_ex (h := h) m (by omega)
      exact ⟨k, by omega, g⟩
theorem PW_ge {h k : Nat} : ∀ m, k < m → NW td n f k h ≤ PW td n f m h
  | 0, hk => absurd hk (Nat.not_lt_zero k)
  | m + 1, hk => by
    rw [PW_s]
    by_cases q : k = m
    · subst q; omega
    · have := PW_ge (h := h) (k := k) m (by omega); omega
theorem WY_0 {h : Nat} (h0 : ¬ WY td n f h = 0) : rk td n f ≤ rk td n h := by
  obtain ⟨k, hk, g⟩ := PW_ex n (Nat.pos_of_ne_zero h0)
  have := NW_rk k h g
  omega
theorem PW_f : ∀ m, 0 < m → PW td n f m f = 1
  | 0, h => absurd h (Nat.lt_irrefl 0)
  | 1, _ => by
    show 0 + (if f = f then 1 else 0) = 1
    rw [if_pos rfl]
  | m + 2, _ => by
    have z : NW td n f (m + 1) f = 0 := by
      apply Classical.byContradiction
      intro q
      have := NW_rk (td := td) (n := n) (f := f) (m + 1) f (by omega)
      omega
    rw [PW_s, z, PW_f (m + 1) (by omega)]
theorem PW_b (hn : n ≤ 9) {h : Nat} : ∀ m, m ≤ 9 → PW td n f m h ≤ m * 9 ^ 8
  | 0, _ => by rw [Nat.zero_mul]; exact Nat.le_refl _
  | m + 1, hm => by
    rw [PW_s, Nat.succ_mul]
    have h1 := PW_b hn (h := h) m (by omega)
    have h2 := NW_le (td := td) (f := f) hn m h
    have h3 : 9 ^ m ≤ 9 ^ 8 := Nat.pow_le_pow_right (by omega) (by omega)
    omega
/-- the reference's count: of a dammed f none -/
def FRr (td : Nat → Int32) (n f h : Nat) : Nat := if h = f then (if dam td f = true then 0 else 1) else WY td n f h
def bsr (td : Nat → Int32) (f h : Nat) : Nat := if h = f ∧ dam td f = false then 1 else 0
theorem FRr_rec {h : Nat} (hh : h < n) : FRr td n f h = bsr td f h + sm (fun a => if leadB td a h = true then FRr td n f a else 0) n := by
  have pre : ∀ a, a < n → leadB td a h = true → FRr td n f a = WY td n f a := by
    intro a ha hl
    unfold FRr
    by_cases q : a = f
    · subst q
      rw [if_pos rfl, if_neg (by rw [(lead_dam hl).1]; decide)]
      exact (PW_f n (by omega)).symm
    · rw [if_neg q]
  have es : sm (fun a => if leadB td a h = true then FRr td n f a else 0) n = sm (fun a => if leadB td a h = true then WY td n f a else 0) n := sm_ext n (fun a ha => by
    show (if leadB td a h = true then FRr td n f a else 0) = (if leadB td a h = true then WY td n f a else 0)
    by_cases q : leadB td a h = true
    · rw [if_pos q, if_pos q, pre a ha q]
    · rw [if_neg q, if_neg q])
  rw [es]
  have r := WY_rec (td := td) (f := f) hh
  by_cases q : h = f
  · subst q
    have w1 : WY td n h h = 1 := PW_f n (by omega)
    have n1 : NW td n h 0 h = 1 := if_pos rfl
    unfold FRr bsr
    rw [if_pos rfl]
    cases hd : dam td h with
    | true =>
      rw [if_pos rfl, if_neg (fun h => absurd h.2 (by decide))]
      omega
    | false =>
      rw [if_neg (by decide), if_pos ⟨rfl, rfl⟩]
      omega
  · have n0 : NW td n f 0 h = 0 := if_neg q
    unfold FRr bsr
    rw [if_neg q, if_neg (fun h => q h.1)]
    omega
theorem FRr_rk {h : Nat} (h0 : ¬ FRr td n f h = 0) : rk td n f ≤ rk td n h := by
  unfold FRr at h0
  by_cases q : h = f
  · subst q; exact Nat.le_refl _
  · rw [if_neg q] at h0; exact WY_0 h0
theorem FRr_b (hn : n ≤ 9) {h : Nat} : FRr td n f h ≤ 387420489 := by
  unfold FRr
  split
  · split
    · exact Nat.zero_le _
    · decide
  · have h1 := PW_b (td := td) (f := f) hn (h := h) n hn
    have h2 : n * 9 ^ 8 ≤ 9 * 9 ^ 8 := Nat.mul_le_mul_right _ hn
    exact Nat.le_trans h1 h2
/-- what is got hut by hut down the slope -/
def itv (G : (Nat → Nat) → Nat → Nat) : Nat → Nat → Nat
  | 0, _ => 0
  | k + 1, h => G (itv G k) h
theorem itv_st {G : (Nat → Nat) → Nat → Nat} (hG : ∀ v w h, h < n → (∀ a, a < n → leadB td a h = true → v a = w a) → G v h = G w h) : ∀ k h, h < n → rk td n h < k → itv G (k + 1) h = itv G k h
  | 0, h, _, hk => absurd hk (Nat.not_lt_zero _)
  | k + 1, h, hh, hk => hG _ _ h hh (fun a ha hl => itv_st hG k a ha (by have := rk_lt ha hl; omega))
theorem itv_fix {G : (Nat → Nat) → Nat → Nat} (hG : ∀ v w h, h < n → (∀ a, a < n → leadB td a h = true → v a = w a) → G v h = G w h) (hn : n ≤ 9) {h : Nat} (hh : h < n) : itv G 9 h = G (itv G 9) h := by
  have g := itv_st (td := td) (n := n) hG 9 h hh (by have := rk_b (td := td) hh; omega)
  exact g.symm
end
end
section
/-- how far down -/
def drp (td : Nat → Int32) (a h : Nat) : Nat := cN (td (7 + a)) - cN (td (7 + h))
def gcB (td : Nat → Int32) (n f a h : Nat) : Bool := leadB td a h && decide (¬ FRr td n f a = 0)
def GLf (td : Nat → Int32) (n f : Nat) (v : Nat → Nat) (h : Nat) : Nat := mx (fun a => if gcB td n f a h = true then v a + 1 else 0) n
def GSf (td : Nat → Int32) (n f : Nat) (v : Nat → Nat) (h : Nat) : Nat := if h = f then 0 else mn (fun a => if gcB td n f a h = true then max (v a) (drp td a h) else 1000) n
/-- the longest way, the least of the greatest falls -/
def FLg (td : Nat → Int32) (n f : Nat) : Nat → Nat := itv (GLf td n f) 9
def FSt (td : Nat → Int32) (n f : Nat) : Nat → Nat := itv (GSf td n f) 9
section
variable {td : Nat → Int32} {n f : Nat}
theorem gc_lead {a h : Nat} (hg : gcB td n f a h = true) : leadB td a h = true ∧ ¬ FRr td n f a = 0 := by
  unfold gcB at hg
  rw [Bool.and_eq_true] at hg
  exact ⟨hg.1, of_decide_eq_true hg.2⟩
theorem FLg_rec (hn9 : n ≤ 9) {h : Nat} (hh : h < n) : FLg td n f h = mx (fun a => if gcB td n f a h = true then FLg td n f a + 1 else 0) n :=
  itv_fix (td := td) (G := GLf td n f) (fun v w h _ hv => mx_ext n (fun a ha => by
    show (if gcB td n f a h = true then v a + 1 else 0) = (if gcB td n f a h = true then w a + 1 else 0)
    by_cases q : gcB td n f a h = true
    · rw [if_pos q, if_pos q, hv a ha (gc_lead q).1]
    · rw [if_neg q, if_neg q])) hn9 hh
theorem FSt_rec (hn9 : n ≤ 9) {h : Nat} (hh : h < n) : FSt td n f h = if h = f then 0 else mn (fun a => if gcB td n f a h = true then max (FSt td n f a) (drp td a h) else 1000) n :=
  itv_fix (td := td) (G := GSf td n f) (fun v w h _ hv => by
    unfold GSf
    split
    · rfl
    · exact mn_ext n (fun a ha => by
        show (if gcB td n f a h = true then max (v a) (drp td a h) else 1000) = (if gcB td n f a h = true then max (w a) (drp td a h) else 1000)
        by_cases q : gcB td n f a h = true
        · rw [if_pos q, if_pos q, hv a ha (gc_lead q).1]
        · rw [if_neg q, if_neg q])) hn9 hh
theorem FLg_le (hn9 : n ≤ 9) : ∀ k h, h < n → rk td n h < k → FLg td n f h ≤ rk td n h
  | 0, h, _, hk => absurd hk (Nat.not_lt_zero _)
  | k + 1, h, hh, hk => by
    rw [FLg_rec hn9 hh]
    refine mx_le n (fun a ha => ?_)
    show (if gcB td n f a h = true then FLg td n f a + 1 else 0) ≤ rk td n h
    by_cases q : gcB td n f a h = true
    · rw [if_pos q]
      have r := rk_lt ha (gc_lead q).1
      have := FLg_le hn9 k a ha (by omega)
      omega
    · rw [if_neg q]; exact Nat.zero_le _
theorem FLg_b (hn9 : n ≤ 9) {h : Nat} (hh : h < n) : FLg td n f h ≤ 9 := by
  have := FLg_le (td := td) (f := f) hn9 10 h hh (by have := rk_b (td := td) hh; omega)
  have := rk_b (td := td) hh
  omega
theorem FSt_b (hn9 : n ≤ 9) {h : Nat} (hh : h < n) : FSt td n f h ≤ 1000 := by
  rw [FSt_rec hn9 hh]
  split
  · omega
  · exact mn_b n
/-- what stands after the ways of the huts of S are gone down -/
def FRs (td : Nat → Int32) (n f : Nat) (S : Nat → Bool) (h : Nat) : Nat := bsr td f h + sm (fun a => if (S a && leadB td a h) = true then FRr td n f a else 0) n
def FLs (td : Nat → Int32) (n f : Nat) (S : Nat → Bool) (h : Nat) : Nat := mx (fun a => if (S a && gcB td n f a h) = true then FLg td n f a + 1 else 0) n
def FSs (td : Nat → Int32) (n f : Nat) (S : Nat → Bool) (h : Nat) : Nat := if FRs td n f S h = 0 then 0 else if h = f then 0 else mn (fun a => if (S a && gcB td n f a h) = true then max (FSt td n f a) (drp td a h) else 1000) n
def uB (S : Nat → Bool) (x : Nat) : Nat → Bool := fun a => decide (a = x) || S a
theorem uB_s {S : Nat → Bool} {x : Nat} : uB S x x = true := by unfold uB; rw [decide_eq_true rfl]; rfl
theorem uB_n {S : Nat → Bool} {x a : Nat} (e : ¬ a = x) : uB S x a = S a := by unfold uB; rw [decide_eq_false e]; rfl
theorem FRs_all {S : Nat → Bool} {h : Nat} (hh : h < n) (hS : ∀ a, a < n → leadB td a h = true → S a = true) : FRs td n f S h = FRr td n f h := by
  rw [FRr_rec hh]
  unfold FRs
  congr 1
  exact sm_ext n (fun a ha => by
    show (if (S a && leadB td a h) = true then FRr td n f a else 0) = (if leadB td a h = true then FRr td n f a else 0)
    by_cases q : leadB td a h = true
    · rw [hS a ha q, Bool.true_and]
    · rw [if_neg q, if_neg (fun h9 => q (Bool.and_eq_true _ _ ▸ h9).2)])
theorem FLs_all {S : Nat → Bool} {h : Nat} (hn9 : n ≤ 9) (hh : h < n) (hS : ∀ a, a < n → leadB td a h = true → S a = true) : FLs td n f S h = FLg td n f h := by
  rw [FLg_rec hn9 hh]
  exact mx_ext n (fun a ha => by
    show (if (S a && gcB td n f a h) = true then FLg td n f a + 1 else 0) = (if gcB td n f a h = true then FLg td n f a + 1 else 0)
    by_cases q : gcB td n f a h = true
    · rw [hS a ha (gc_lead q).1, Bool.true_and]
    · rw [if_neg q, if_neg (fun h9 => q (Bool.and_eq_true _ _ ▸ h9).2)])
theorem FSs_all {S : Nat → Bool} {h : Nat} (hn9 : n ≤ 9) (hh : h < n) (hS : ∀ a, a < n → leadB td a h = true → S a = true) (h0 : ¬ FRr td n f h = 0) : FSs td n f S h = FSt td n f h := by
  unfold FSs
  rw [FRs_all hh hS, if_neg h0, FSt_rec hn9 hh]
  by_cases e : h = f
  · rw [if_pos e, if_pos e]
  · rw [if_neg e, if_neg e]
    exact mn_ext n (fun a ha => by
      show (if (S a && gcB td n f a h) = true then max (FSt td n f a) (drp td a h) else 1000) = (if gcB td n f a h = true then max (FSt td n f a) (drp td a h) else 1000)
      by_cases q : gcB td n f a h = true
      · rw [hS a ha (gc_lead q).1, Bool.true_and]
      · rw [if_neg q, if_neg (fun h9 => q (Bool.and_eq_true _ _ ▸ h9).2)])
/-- nothing goes where no way is gone -/
theorem FRs_no {S : Nat → Bool} {x h : Nat} (hg : gcB td n f x h = false) : FRs td n f (uB S x) h = FRs td n f S h := by
  unfold FRs
  congr 1
  exact sm_ext n (fun a _ => by
    show (if (uB S x a && leadB td a h) = true then FRr td n f a else 0) = (if (S a && leadB td a h) = true then FRr td n f a else 0)
    by_cases e : a = x
    · subst e
      by_cases q : leadB td a h = true
      · have z : FRr td n f a = 0 := by
          apply Classical.byContradiction
          intro h0
          unfold gcB at hg
          rw [q, decide_eq_true h0] at hg
          exact absurd hg (by decide)
        rw [z]
        split <;> split <;> rfl
      · rw [if_neg (fun h9 => q (Bool.and_eq_true _ _ ▸ h9).2), if_neg (fun h9 => q (Bool.and_eq_true _ _ ▸ h9).2)]
    · rw [uB_n e])
theorem FLs_no {S : Nat → Bool} {x h : Nat} (hg : gcB td n f x h = false) : FLs td n f (uB S x) h = FLs td n f S h :=
  mx_ext n (fun a _ => by
    show (if (uB S x a && gcB td n f a h) = true then FLg td n f a + 1 else 0) = (if (S a && gcB td n f a h) = true then FLg td n f a + 1 else 0)
    by_cases e : a = x
    · subst e
      rw [hg, Bool.and_false, Bool.and_false]
    · rw [uB_n e])
theorem FSs_no {S : Nat → Bool} {x h : Nat} (hg : gcB td n f x h = false) : FSs td n f (uB S x) h = FSs td n f S h := by
  unfold FSs
  rw [FRs_no hg]
  congr 2
  exact mn_ext n (fun a _ => by
    show (if (uB S x a && gcB td n f a h) = true then max (FSt td n f a) (drp td a h) else 1000) = (if (S a && gcB td n f a h) = true then max (FSt td n f a) (drp td a h) else 1000)
    by_cases e : a = x
    · subst e
      rw [hg, Bool.and_false, Bool.and_false]
    · rw [uB_n e])
theorem FRs_yes {S : Nat → Bool} {x h : Nat} (hx : x < n) (hS : S x = false) (hg : gcB td n f x h = true) : FRs td n f (uB S x) h = FRs td n f S h + FRr td n f x := by
  unfold FRs
  rw [sm_upd (g := fun a => if (S a && leadB td a h) = true then FRr td n f a else 0) (x := x) (v := FRr td n f x) n hx (fun a _ e => by
    show (if (uB S x a && leadB td a h) = true then FRr td n f a else 0) = (if (S a && leadB td a h) = true then FRr td n f a else 0)
    rw [uB_n e]) (by
    show (if (uB S x x && leadB td x h) = true then FRr td n f x else 0) = (if (S x && leadB td x h) = true then FRr td n f x else 0) + FRr td n f x
    rw [uB_s, (gc_lead hg).1, hS, Bool.true_and, Bool.false_and, if_pos rfl, if_neg (by decide), Nat.zero_add])]
  omega
theorem FLs_yes {S : Nat → Bool} {x h : Nat} (hx : x < n) (hS : S x = false) (hg : gcB td n f x h = true) : FLs td n f (uB S x) h = max (FLs td n f S h) (FLg td n f x + 1) :=
  mx_upd (g := fun a => if (S a && gcB td n f a h) = true then FLg td n f a + 1 else 0) (x := x) n hx (fun a _ e => by
    show (if (uB S x a && gcB td n f a h) = true then FLg td n f a + 1 else 0) = (if (S a && gcB td n f a h) = true then FLg td n f a + 1 else 0)
    rw [uB_n e]) (by
    show (if (S x && gcB td n f x h) = true then FLg td n f x + 1 else 0) = 0
    rw [hS, Bool.false_and, if_neg (by decide)]) (by
    show (if (uB S x x && gcB td n f x h) = true then FLg td n f x + 1 else 0) = FLg td n f x + 1
    rw [uB_s, hg, Bool.true_and, if_pos rfl])
theorem FSs_yes {S : Nat → Bool} {x h : Nat} (hx : x < n) (hS : S x = false) (hg : gcB td n f x h = true) (hb1 : max (FSt td n f x) (drp td x h) ≤ 1000) : FSs td n f (uB S x) h = if FRs td n f S h = 0 then max (FSt td n f x) (drp td x h) else min (FSs td n f S h) (max (FSt td n f x) (drp td x h)) := by
  have hgl := gc_lead hg
  have hne : ¬ h = f := fun e => by
    have r1 := FRr_rk (td := td) (f := f) hgl.2
    have r2 := rk_lt hx hgl.1
    rw [e] at r2
    omega
  have hm := mn_upd (g := fun a => if (S a && gcB td n f a h) = true then max (FSt td n f a) (drp td a h) else 1000) (g' := fun a => if (uB S x a && gcB td n f a h) = true then max (FSt td n f a) (drp td a h) else 1000) (x := x) n hx (fun a _ e => by
    show (if (uB S x a && gcB td n f a h) = true then max (FSt td n f a) (drp td a h) else 1000) = (if (S a && gcB td n f a h) = true then max (FSt td n f a) (drp td a h) else 1000)
    rw [uB_n e]) (by
    show 1000 ≤ (if (S x && gcB td n f x h) = true then max (FSt td n f x) (drp td x h) else 1000)
    rw [hS, Bool.false_and, if_neg (by decide)]
    exact Nat.le_refl _) (v := max (FSt td n f x) (drp td x h)) (by
    show (if (uB S x x && gcB td n f x h) = true then max (FSt td n f x) (drp td x h) else 1000) = max (FSt td n f x) (drp td x h)
    rw [uB_s, hg, Bool.true_and, if_pos rfl])
  have e1 : ¬ FRs td n f (uB S x) h = 0 := by
    rw [FRs_yes hx hS hg]
    have := hgl.2
    omega
  unfold FSs
  rw [if_neg e1, if_neg hne, if_neg hne, hm]
  by_cases q : FRs td n f S h = 0
  · rw [if_pos q]
    have z : mn (fun a => if (S a && gcB td n f a h) = true then max (FSt td n f a) (drp td a h) else 1000) n = 1000 := mn_hi n (fun a ha => by
      show 1000 ≤ (if (S a && gcB td n f a h) = true then max (FSt td n f a) (drp td a h) else 1000)
      by_cases e : (S a && gcB td n f a h) = true
      · rw [Bool.and_eq_true] at e
        have g := gc_lead e.2
        unfold FRs at q
        have s1 := sm_ge (g := fun a => if (S a && leadB td a h) = true then FRr td n f a else 0) n ha
        have s2 : (if (S a && leadB td a h) = true then FRr td n f a else 0) = FRr td n f a := if_pos (by rw [e.1, g.1]; rfl)
        rw [s2] at s1
        have := g.2
        omega
      · rw [if_neg e]; exact Nat.le_refl _)
    rw [z]
    omega
  · rw [if_neg q, if_neg q]
end
theorem ht_iv {td : Nat → Int32} {h : Nat} (hR : RNG td) (hh : h < 9) : ∃ v, td (7 + h) = nI v ∧ v ≤ 99 := by
  have g : iv 0 99 (td (7 + h)) := iv_w (hR (7 + h) (by omega)) (by
    have hcs : h = 0 ∨ h = 1 ∨ h = 2 ∨ h = 3 ∨ h = 4 ∨ h = 5 ∨ h = 6 ∨ h = 7 ∨ h = 8 := by omega
    rcases hcs with rfl | rfl | rfl | rfl | rfl | rfl | rfl | rfl | rfl <;> decide)
  obtain ⟨v, e, -, h2, -⟩ := iv_nI g (by decide)
  exact ⟨v, e, by omega⟩
theorem drp_b {td : Nat → Int32} {a h : Nat} (hR : RNG td) (ha : a < 9) : drp td a h ≤ 99 := by
  obtain ⟨v, e, hv⟩ := ht_iv hR ha
  unfold drp
  rw [e, cN_nI (by omega)]
  omega
theorem e_heightM {M : Nat → Nat → Int32} {k h : Nat} {post : Int32 → Prop} (hk : k < 2) (hh : h < 9) (hp : post (tdM M k (7 + h))) : q_m_height_0 (M 5) (nI k) (nI h) post :=
  e_of (i := 7 + h) hk (by omega) (show (7 : Int32) + nI h = nI (7 + h) from nI_add 7 h) hp
theorem e_wayM {M : Nat → Nat → Int32} {k a b : Nat} {post : Int32 → Prop} (hk : k < 2) (ha : a < 9) (hb1 : b < 9) (hp : post (tdM M k (51 + 9 * a + b))) : q_m_way_0 (M 5) (nI k) (nI a) (nI b) post :=
  e_of (i := 51 + 9 * a + b) hk (by omega) (show ((51 : Int32) + ((9 : Int32) * nI a)) + nI b = nI (51 + 9 * a + b) by
    rw [show (9 : Int32) * nI a = nI (9 * a) from pk_mul 9 a, show (51 : Int32) + nI (9 * a) = nI (51 + 9 * a) from nI_add 51 (9 * a), nI_add]) hp
/-- one way down gone by the reference -/
theorem e_goesDownM {M : Nat → Nat → Int32} {routes longest steep : Nat → Int32} {k n f x h rx rh lx lh sx sh : Nat} {post : (Nat → Int32) → (Nat → Int32) → (Nat → Int32) → Prop} (hk : k < 2) (hL : mLand (M 5)) (hn9 : n ≤ 9) (hx : x < n) (hh : h < n)
    (e1 : routes x = nI rx) (e2 : routes h = nI rh) (e3 : longest x = nI lx) (e4 : longest h = nI lh) (e5 : steep x = nI sx) (e6 : steep h = nI sh) (b1 : rx < 2 ^ 29) (b2 : rh < 2 ^ 29) (b3 : lx ≤ 9) (b4 : lh ≤ 10) (b5 : sx ≤ 1000) (b6 : sh ≤ 1000)
    (hr : rx = FRr (tdM M k) n f x) (hd : ¬ rx = 0 → dam (tdM M k) x = false)
    (h0 : gcB (tdM M k) n f x h = false → post routes longest steep)
    (h1 : gcB (tdM M k) n f x h = true → post (upd routes h (nI (rh + rx))) (upd longest h (nI (if rh = 0 then lx + 1 else max lh (lx + 1)))) (upd steep h (nI (if rh = 0 then max sx (drp (tdM M k) x h) else min sh (max sx (drp (tdM M k) x h)))))) : q_m_goesDown_0 (M 5) (nI k) routes longest steep (nI x) (nI h) post := by
  have hR : RNG (tdM M k) := RNG_M hL hk
  obtain ⟨vx, ex, hvx⟩ := ht_iv (h := x) hR (by omega)
  obtain ⟨vh, eh, hvh⟩ := ht_iv (h := h) hR (by omega)
  obtain ⟨w, ew, -, hw9, -⟩ := iv_nI (way_iv hR (by omega : x < 9) (by omega : h < 9)) (by decide)
  have vix : vp_in (nI x) 9 := vp_in_nI (by omega) (by omega)
  have vih : vp_in (nI h) 9 := vp_in_nI (by omega) (by omega)
  have no : leadB (tdM M k) x h = false ∨ rx = 0 → post routes longest steep := fun q => h0 (by
    unfold gcB
    rcases q with q | q
    · rw [q]; rfl
    · rw [← hr, q]; simp)
  refine e_wayM hk (by omega) (by omega) ⟨fun q => no (Or.inl ?_), fun q => e_heightM hk (by omega) (e_heightM hk (by omega) ?_)⟩
  · unfold leadB
    rw [q]
    simp
  rw [ex, eh]
  have hw0 : 0 < tdM M k (51 + 9 * x + h) := by
    rw [ew] at q ⊢
    exact nI_lt (a := 0) (Nat.pos_of_ne_zero (fun e => q (by rw [e]; rfl))) (by omega)
  refine pk_le vx vh (fun q2 => no (Or.inl ?_)) (fun q2 => e_isDamM hk (by omega) (fun q3 => zi ⟨vix, ?_⟩) (fun q3 => io (no (Or.inl ?_)))) rfl rfl (by omega) (by omega)
  · unfold leadB
    rw [ex, eh, decide_eq_false (show ¬ nI vh < nI vx from fun h9 => by have := (nI_ltI (by omega) (by omega)).mp h9; omega)]
    simp
  · rw [nI_clamp (by omega), e1]
    refine ⟨fun q4 => ⟨vix, e_heightM hk (by omega) (e_heightM hk (by omega) ?_)⟩, fun q4 => no (Or.inr ?_)⟩
    · have hrx : ¬ rx = 0 := fun e => q4 (by rw [e]; rfl)
      have hgc : gcB (tdM M k) n f x h = true := by
        unfold gcB leadB
        rw [ex, eh, hd hrx, q3, decide_eq_true hw0, decide_eq_true (nI_lt q2 (by omega)), ← hr, decide_eq_true hrx]
        rfl
      have g := h1 hgc
      have ed : drp (tdM M k) x h = vx - vh := by
        unfold drp
        rw [ex, eh, cN_nI (by omega), cN_nI (by omega)]
      rw [ed] at g
      rw [ex, eh, e5, pk_sub (by omega)]
      have fin : ∀ sn : Nat, sn = (if rh = 0 then max sx (vx - vh) else min sh (max sx (vx - vh))) → q_m_goesDown_89 (M 5) (nI k) routes longest steep (nI x) (nI h) (nI h) (nI sn) post := by
        intro sn hsn
        refine ⟨vih, fun st est => ⟨vih, ?_⟩⟩
        rw [nI_clamp (by omega)] at est
        rw [← hsn] at g
        have fin2 : ∀ ln : Nat, ln = (if rh = 0 then lx + 1 else max lh (lx + 1)) → q_m_goesDown_132 (M 5) (nI k) routes longest st (nI x) (nI h) (nI h) (nI ln) post := by
          intro ln hln
          rw [← hln] at g
          refine ⟨vih, fun lo elo => ⟨vih, vix, fun v ev => ⟨vih, fun ro ero => ?_⟩⟩⟩
          rw [nI_clamp (by omega)] at elo ero
          rw [nI_clamp (by omega), nI_clamp (by omega), e1, e2, nI_add] at ev
          rw [ero, ev, elo, est]
          exact g
        rw [nI_clamp (by omega), nI_clamp (by omega), e2, e3, e4, nI_1]
        refine ⟨fun q5 => ⟨vih, vix, e_grM (by omega) (by omega) (fin2 _ ?_)⟩, fun q5 => ⟨vix, fin2 _ ?_⟩⟩
        · rw [if_neg (fun e => q5 (by rw [e]; rfl))]
        · rw [if_pos ((nI_eq (a := rh) (b := 0) (by omega) (by omega)).mp q5)]
      refine e_grM (by omega) (by omega) ⟨vih, ?_⟩
      rw [nI_clamp (by omega), e2, e6]
      refine ⟨fun q5 => ⟨vih, e_lessM (by omega) (by omega) (fin _ ?_)⟩, fun q5 => fin _ ?_⟩
      · rw [if_neg (fun e => q5 (by rw [e]; rfl))]
      · rw [if_pos ((nI_eq (a := rh) (b := 0) (by omega) (by omega)).mp q5)]
    · exact (nI_eq (by omega) (by omega)).mp q4
  · unfold leadB
    rw [q3]
    simp
end
section
theorem FRs_le {td : Nat → Int32} {n f : Nat} {S : Nat → Bool} {h : Nat} (hh : h < n) : FRs td n f S h ≤ FRr td n f h := by
  rw [FRr_rec hh]
  unfold FRs
  have g := sm_mono (g := fun a => if (S a && leadB td a h) = true then FRr td n f a else 0) (g' := fun a => if leadB td a h = true then FRr td n f a else 0) n (fun a _ => by
    show (if (S a && leadB td a h) = true then FRr td n f a else 0) ≤ (if leadB td a h = true then FRr td n f a else 0)
    by_cases q : leadB td a h = true
    · rw [if_pos q]
      split
      · exact Nat.le_refl _
      · exact Nat.zero_le _
    · rw [if_neg q, if_neg (fun h9 => q (Bool.and_eq_true _ _ ▸ h9).2)]
      exact Nat.le_refl _)
  omega
theorem FLs_le {td : Nat → Int32} {n f : Nat} {S : Nat → Bool} {h : Nat} (hn9 : n ≤ 9) : FLs td n f S h ≤ 10 :=
  mx_le n (fun a ha => by
    show (if (S a && gcB td n f a h) = true then FLg td n f a + 1 else 0) ≤ 10
    have := FLg_b (td := td) (f := f) hn9 ha
    split <;> omega)
theorem FSs_le {td : Nat → Int32} {n f : Nat} {S : Nat → Bool} {h : Nat} : FSs td n f S h ≤ 1000 := by
  unfold FSs
  split
  · omega
  · split
    · omega
    · exact mn_b n
theorem FLs_0 {td : Nat → Int32} {n f : Nat} {S : Nat → Bool} {h : Nat} (h0 : FRs td n f S h = 0) : FLs td n f S h = 0 := by
  rcases mx_ex (g := fun a => if (S a && gcB td n f a h) = true then FLg td n f a + 1 else 0) n with e | ⟨a, ha, e⟩
  · exact e
  · by_cases q : (S a && gcB td n f a h) = true
    · rw [Bool.and_eq_true] at q
      have g := gc_lead q.2
      unfold FRs at h0
      have s1 := sm_ge (g := fun a => if (S a && leadB td a h) = true then FRr td n f a else 0) n ha
      have s2 : (if (S a && leadB td a h) = true then FRr td n f a else 0) = FRr td n f a := if_pos (by rw [q.1, g.1]; rfl)
      rw [s2] at s1
      have := g.2
      omega
    · rw [if_neg q] at e
      exact e
theorem FRr_dam {td : Nat → Int32} {n f h : Nat} (hh : h < n) (h0 : ¬ FRr td n f h = 0) : dam td h = false := by
  rw [← Bool.not_eq_true]
  intro hd
  apply h0
  rw [FRr_rec hh, sm_z n (fun a _ => by
    show (if leadB td a h = true then FRr td n f a else 0) = 0
    rw [if_neg (fun h9 => by rw [(lead_dam h9).2] at hd; exact absurd hd (by decide))])]
  unfold bsr
  rw [if_neg (fun h9 => by rw [h9.1] at hd; rw [hd] at h9; exact absurd h9.2 (by decide))]
theorem gc_self {td : Nat → Int32} {n f x : Nat} (hx : x < n) : gcB td n f x x = false := by
  rw [← Bool.not_eq_true]
  intro h
  have := rk_lt hx (gc_lead h).1
  omega
/-- the highest hut that isn't laid -/
theorem e_nextDownM {M : Nat → Nat → Int32} {laid : Nat → Int32} {k n : Nat} {S : Nat → Bool} {post : Int32 → Prop} (hk : k < 2) (hn : tdM M k 0 = nI n) (hn9 : n ≤ 9) (hl : ∀ a, a < n → laid a = if S a = true then 1 else 0) (hex : ∃ a, a < n ∧ S a = false)
    (hp : ∀ x, x < n → S x = false → (∀ a, a < n → S a = false → tdM M k (7 + a) ≤ tdM M k (7 + x)) → post (nI x)) : q_m_nextDown_0 (M 5) (nI k) (tdM M k 0) laid post := by
  intro P hP
  have loop : ∀ m j (b : Int32), m = n - j → j ≤ n → ((b = -1 ∧ ∀ a, a < j → S a = true) ∨ ∃ x, x < j ∧ b = nI x ∧ S x = false ∧ ∀ a, a < j → S a = false → tdM M k (7 + a) ≤ tdM M k (7 + x)) → P b (nI j) := by
    intro m
    induction m using Nat.strongRecOn with
    | ind m ih =>
      intro j b hm hj hI
      apply hP
      refine pk_le n j (fun h9 => ?_) (fun h9 => ⟨vp_in_nI (by omega) (by omega), ?_⟩) hn
      · rcases hI with ⟨_, h2⟩ | ⟨x, hx, eb, hs, h2⟩
        · obtain ⟨a, ha, hsa⟩ := hex
          rw [h2 a (by omega)] at hsa
          exact absurd hsa (by decide)
        · rw [eb]
          exact hp x (by omega) hs (fun a ha => h2 a (by omega))
      · have nx : ∀ b' : Int32, ((b' = -1 ∧ ∀ a, a < j + 1 → S a = true) ∨ ∃ x, x < j + 1 ∧ b' = nI x ∧ S x = false ∧ ∀ a, a < j + 1 → S a = false → tdM M k (7 + a) ≤ tdM M k (7 + x)) → q_m_nextDown_44 P (M 5) (nI k) (tdM M k 0) laid (nI j) b' post := by
          intro b' hb' v ev
          rw [ev, nI_1]
          exact ih (n - (j + 1)) (by omega) (j + 1) b' rfl (by omega) hb'
        rw [nI_clamp (by omega), hl j h9]
        cases hs : S j with
        | true =>
          rw [if_pos rfl]
          refine ⟨fun _ => nx b ?_, fun h => absurd h (by decide)⟩
          rcases hI with ⟨h1, h2⟩ | ⟨x, hx, eb, hsx, h2⟩
          · refine Or.inl ⟨h1, fun a ha => ?_⟩
            by_cases e : a = j
            · subst e; exact hs
            · exact h2 a (by omega)
          · refine Or.inr ⟨x, by omega, eb, hsx, fun a ha hsa => ?_⟩
            by_cases e : a = j
            · subst e; rw [hs] at hsa; exact absurd hsa (by decide)
            · exact h2 a (by omega) hsa
        | false =>
          rw [if_neg (by decide)]
          refine ⟨fun h => absurd rfl h, fun _ => ⟨fun hb1 => ?_, fun hb1 => ?_⟩⟩
          · rcases hI with ⟨h1, h2⟩ | ⟨x, hx, eb, hsx, h2⟩
            · refine nx (nI j) (Or.inr ⟨j, by omega, rfl, hs, fun a ha hsa => ?_⟩)
              by_cases e : a = j
              · subst e; exact Int32.le_refl _
              · rw [h2 a (by omega)] at hsa; exact absurd hsa (by decide)
            · exact absurd (eb.symm.trans hb1) (nIm1' (by omega))
          · rcases hI with ⟨h1, h2⟩ | ⟨x, hx, eb, hsx, h2⟩
            · exact absurd h1 hb1
            · subst eb
              refine e_heightM hk (by omega) (e_heightM hk (by omega) ⟨fun hle => ?_, fun hgt => ?_⟩)
              · refine nx _ (Or.inr ⟨x, by omega, rfl, hsx, fun a ha hsa => ?_⟩)
                by_cases e : a = j
                · subst e; exact hle
                · exact h2 a (by omega) hsa
              · refine nx (nI j) (Or.inr ⟨j, by omega, rfl, hs, fun a ha hsa => ?_⟩)
                by_cases e : a = j
                · subst e; exact Int32.le_refl _
                · exact le_tr (h2 a (by omega) hsa) (Int32.le_of_lt (Int32.not_le.mp hgt))
  exact loop _ 0 _ rfl (by omega) (Or.inl ⟨rfl, fun a ha => absurd ha (Nat.not_lt_zero a)⟩)
def RST (td : Nat → Int32) (n f : Nat) (S : Nat → Nat → Bool) (ro lo st : Nat → Int32) : Prop := ∀ h, h < n → ro h = nI (FRs td n f (S h) h) ∧ lo h = nI (FLs td n f (S h) h) ∧ st h = nI (FSs td n f (S h) h)
theorem FR_cong {td : Nat → Int32} {n f : Nat} {S S' : Nat → Bool} {h : Nat} (e : ∀ a, a < n → S a = S' a) : FRs td n f S h = FRs td n f S' h ∧ FLs td n f S h = FLs td n f S' h ∧ FSs td n f S h = FSs td n f S' h := by
  have e1 : FRs td n f S h = FRs td n f S' h := by
    unfold FRs
    congr 1
    exact sm_ext n (fun a ha => by show (if (S a && leadB td a h) = true then FRr td n f a else 0) = (if (S' a && leadB td a h) = true then FRr td n f a else 0); rw [e a ha])
  refine ⟨e1, mx_ext n (fun a ha => by show (if (S a && gcB td n f a h) = true then FLg td n f a + 1 else 0) = (if (S' a && gcB td n f a h) = true then FLg td n f a + 1 else 0); rw [e a ha]), ?_⟩
  unfold FSs
  rw [e1]
  congr 2
  exact mn_ext n (fun a ha => by show (if (S a && gcB td n f a h) = true then max (FSt td n f a) (drp td a h) else 1000) = (if (S' a && gcB td n f a h) = true then max (FSt td n f a) (drp td a h) else 1000); rw [e a ha])
/-- one hut's ways are gone down -/
theorem e_fr86 {M : Nat → Nat → Int32} {P : Int32 → (Nat → Int32) → (Nat → Int32) → (Nat → Int32) → (Nat → Int32) → Prop} {ro lo st laid : Nat → Int32} {i : Int32} {k n f x : Nat} {S : Nat → Bool} {post : (Nat → Int32) → (Nat → Int32) → (Nat → Int32) → (Nat → Int32) → Prop} (hk : k < 2) (hL : mLand (M 5)) (hn : tdM M k 0 = nI n) (hn9 : n ≤ 9) (hx : x < n) (hSx : S x = false) (hup : ∀ a, a < n → leadB (tdM M k) a x = true → S a = true)
    (hI : RST (tdM M k) n f (fun _ => S) ro lo st) (hp : ∀ ro' lo' st', RST (tdM M k) n f (fun _ => uB S x) ro' lo' st' → ∀ v : Int32, v = i + 1 → P v ro' lo' st' laid) : q_m_findRoutes_86 P (M 5) (nI k) (tdM M k 0) ro lo st laid i (nI x) 0 post := by
  have hR : RNG (tdM M k) := RNG_M hL hk
  intro P2 hP2
  have loop : ∀ m h (ro lo st : Nat → Int32), m = n - h → h ≤ n → RST (tdM M k) n f (fun h' => if h' < h then uB S x else S) ro lo st → P2 (nI h) ro lo st := by
    intro m
    induction m using Nat.strongRecOn with
    | ind m ih =>
      intro h ro lo st hm hh hJ
      apply hP2
      refine pk_le n h (fun h9 => hp ro lo st (fun h' hh' => ?_)) (fun h9 => ?_) hn
      · have g := hJ h' hh'
        dsimp only at g
        rw [if_pos (show h' < h by omega)] at g
        exact g
      · have nx : ∀ ro' lo' st' : Nat → Int32, (∀ h', h' < n → ¬ h' = h → ro' h' = ro h' ∧ lo' h' = lo h' ∧ st' h' = st h') → ro' h = nI (FRs (tdM M k) n f (uB S x) h) → lo' h = nI (FLs (tdM M k) n f (uB S x) h) → st' h = nI (FSs (tdM M k) n f (uB S x) h) → ∀ v : Int32, v = nI h + 1 → P2 v ro' lo' st' := by
          intro ro' lo' st' k1 k2 k3 k4 v ev
          rw [ev, nI_1]
          refine ih (n - (h + 1)) (by omega) (h + 1) ro' lo' st' rfl (by omega) (fun h' hh' => ?_)
          by_cases e : h' = h
          · subst e
            dsimp only
            rw [if_pos (show h' < h' + 1 by omega)]
            exact ⟨k2, k3, k4⟩
          · obtain ⟨g1, g2, g3⟩ := hJ h' hh'
            obtain ⟨j1, j2, j3⟩ := k1 h' hh' e
            rw [j1, j2, j3]
            by_cases q : h' < h
            · dsimp only at g1 g2 g3 ⊢
              rw [if_pos q] at g1 g2 g3
              rw [if_pos (show h' < h + 1 by omega)]
              exact ⟨g1, g2, g3⟩
            · dsimp only at g1 g2 g3 ⊢
              rw [if_neg q] at g1 g2 g3
              rw [if_neg (show ¬ h' < h + 1 by omega)]
              exact ⟨g1, g2, g3⟩
        have atx : ro x = nI (FRr (tdM M k) n f x) ∧ lo x = nI (FLg (tdM M k) n f x) ∧ st x = nI (FSs (tdM M k) n f S x) := by
          obtain ⟨g1, g2, g3⟩ := hJ x hx
          have gs := gc_self (td := tdM M k) (f := f) hx
          by_cases q : x < h
          · dsimp only at g1 g2 g3
            rw [if_pos q] at g1 g2 g3
            rw [FRs_no gs, FRs_all hx hup] at g1
            rw [FLs_no gs, FLs_all hn9 hx hup] at g2
            rw [FSs_no gs] at g3
            exact ⟨g1, g2, g3⟩
          · dsimp only at g1 g2 g3
            rw [if_neg q] at g1 g2 g3
            rw [FRs_all hx hup] at g1
            rw [FLs_all hn9 hx hup] at g2
            exact ⟨g1, g2, g3⟩
        obtain ⟨a1, a2, a3⟩ := atx
        obtain ⟨g1, g2, g3⟩ := hJ h h9
        dsimp only at g1 g2 g3
        rw [if_neg (Nat.lt_irrefl h)] at g1 g2 g3
        have bx := FRr_b (td := tdM M k) (f := f) hn9 (h := x)
        have bh := FRr_b (td := tdM M k) (f := f) hn9 (h := h)
        have bh2 := FRs_le (td := tdM M k) (f := f) (S := S) h9
        have p29 : 2 ^ 29 = 536870912 := rfl
        refine e_goesDownM (n := n) (f := f) hk hL hn9 hx h9 a1 g1 a2 g2 a3 g3 (by omega) (by omega) (FLg_b hn9 hx) (FLs_le hn9) FSs_le FSs_le rfl (fun h0 => FRr_dam hx h0) (fun hg => ?_) (fun hg => ?_)
        · exact nx ro lo st (fun _ _ _ => ⟨rfl, rfl, rfl⟩) (by rw [FRs_no hg]; exact g1) (by rw [FLs_no hg]; exact g2) (by rw [FSs_no hg]; exact g3)
        · have h0 := (gc_lead hg).2
          have e1 := FSs_all (S := S) hn9 hx hup h0
          have bs := FSt_b (td := tdM M k) (f := f) hn9 hx
          have bd := drp_b (h := h) hR (show x < 9 by omega)
          refine nx _ _ _ (fun h' hh' e => ⟨up_n e, up_n e, up_n e⟩) ?_ ?_ ?_
          · rw [up_s, FRs_yes hx hSx hg]
          · rw [up_s, FLs_yes hx hSx hg]
            by_cases q : FRs (tdM M k) n f S h = 0
            · rw [if_pos q, FLs_0 q]
              rfl
            · rw [if_neg q]
          · rw [up_s, FSs_yes hx hSx hg (by omega), e1]
  exact loop _ 0 ro lo st rfl (by omega) (fun h hh => by
    have g := hI h hh
    dsimp only
    rw [if_neg (Nat.not_lt_zero h)]
    exact g)
theorem vnb0 : vp_nar .boolean 0 = 0 := by decide
theorem vnb1 : vp_nar .boolean 1 = 1 := by decide
theorem e_findRoutesM {M : Nat → Nat → Int32} {ro lo st laid : Nat → Int32} {k n f : Nat} {x1 : Int32} {post : (Nat → Int32) → (Nat → Int32) → (Nat → Int32) → (Nat → Int32) → Prop} (hk : k < 2) (hL : mLand (M 5)) (hn : tdM M k 0 = nI n) (hn9 : n ≤ 9) (hf : f < n) (e1 : x1 = nI f)
    (hp : ∀ ro lo st la, (∀ h, h < n → ro h = nI (FRr (tdM M k) n f h) ∧ lo h = nI (FLg (tdM M k) n f h) ∧ (¬ FRr (tdM M k) n f h = 0 → st h = nI (FSt (tdM M k) n f h))) → post ro lo st la) : q_m_findRoutes_0 (M 5) (nI k) (tdM M k 0) ro lo st laid x1 post := by
  subst e1
  have main : ∀ m i (S : Nat → Bool) (ro lo st la : Nat → Int32), m = n - i → i ≤ n → sm (fun a => if S a = true then 1 else 0) n = i → RST (tdM M k) n f (fun _ => S) ro lo st → (∀ a, a < n → la a = if S a = true then 1 else 0) → ∀ P : Int32 → (Nat → Int32) → (Nat → Int32) → (Nat → Int32) → (Nat → Int32) → Prop, (∀ (x2 : Int32) (a_routes a_longest a_steep a_laid : Nat → Int32), ((tdM M k 0 ≤ x2 → post a_routes a_longest a_steep a_laid) ∧ (¬ tdM M k 0 ≤ x2 → q_m_nextDown_0 (M 5) (nI k) (tdM M k 0) a_laid (fun r_1 => vp_in r_1 9 ∧ (∀ a_laid_1 : Nat → Int32, a_laid_1 = upd a_laid (Int32.toNatClampNeg r_1) (vp_nar .boolean 1) → q_m_findRoutes_86 P (M 5) (nI k) (tdM M k 0) a_routes a_longest a_steep a_laid_1 x2 r_1 0 post)))) → P x2 a_routes a_longest a_steep a_laid) → P (nI i) ro lo st la := by
    intro m
    induction m using Nat.strongRecOn with
    | ind m ih =>
      intro i S ro lo st la hm hi hc hI hla P hP
      apply hP
      have full : ∀ a, a < n → S a = false → sm (fun a => if S a = true then 1 else 0) n < n := by
        intro a ha hs
        have g := sm_upd (g := fun a => if S a = true then 1 else 0) (g' := fun b => if uB S a b = true then 1 else 0) (x := a) (v := 1) n ha (fun b _ e => by show (if uB S a b = true then 1 else 0) = (if S b = true then 1 else 0); rw [uB_n e]) (by show (if uB S a a = true then 1 else 0) = (if S a = true then 1 else 0) + 1; rw [uB_s, hs]; rfl)
        have g2 := sm_le (g := fun b => if uB S a b = true then 1 else 0) (c := 1) n (fun b _ => by show (if uB S a b = true then 1 else 0) ≤ 1; split <;> omega)
        omega
      refine pk_le n i (fun h9 => ?_) (fun h9 => ?_) hn
      · have all : ∀ a, a < n → S a = true := fun a ha => by
          apply Classical.byContradiction
          intro h
          have := full a ha (by rw [← Bool.not_eq_true]; exact h)
          omega
        refine hp ro lo st la (fun h hh => ?_)
        obtain ⟨g1, g2, g3⟩ := hI h hh
        have hup : ∀ a, a < n → leadB (tdM M k) a h = true → S a = true := fun a ha _ => all a ha
        exact ⟨by rw [g1, FRs_all hh hup], by rw [g2, FLs_all hn9 hh hup], fun h0 => by rw [g3, FSs_all hn9 hh hup h0]⟩
      · have hex : ∃ a, a < n ∧ S a = false := by
          apply Classical.byContradiction
          intro hno
          have : sm (fun a => if S a = true then 1 else 0) n = n := by
            have one : ∀ m, m ≤ n → sm (fun a => if S a = true then 1 else 0) m = m := by
              intro m
              induction m with
              | zero => intro _; rfl
              | succ m ihm =>
                intro hm
                show sm (fun a => if S a = true then 1 else 0) m + (if S m = true then 1 else 0) = m + 1
                rw [ihm (by omega), if_pos (by
                  cases hs : S m with
                  | true => rfl
                  | false => exact absurd ⟨m, by omega, hs⟩ hno)]
            exact one n (Nat.le_refl n)
          omega
        refine e_nextDownM hk hn hn9 hla hex (fun x hx hSx hhi => ⟨vp_in_nI (by omega) (by omega), fun la' ela => ?_⟩)
        rw [nI_clamp (by omega), vnb1] at ela
        refine e_fr86 hk hL hn hn9 hx hSx (fun a ha hl => ?_) hI (fun ro' lo' st' hI' v ev => ?_)
        · apply Classical.byContradiction
          intro h
          have h1 := hhi a ha (by rw [← Bool.not_eq_true]; exact h)
          have h2 := lead_ht hl
          exact absurd h1 (Int32.not_le.mpr h2)
        · rw [ev, nI_1]
          refine ih (n - (i + 1)) (by omega) (i + 1) (uB S x) ro' lo' st' la' rfl (by omega) ?_ hI' (fun a ha => ?_) P hP
          · rw [← hc]
            exact sm_upd (g := fun a => if S a = true then 1 else 0) (x := x) (v := 1) n hx (fun b _ e => by show (if uB S x b = true then 1 else 0) = (if S b = true then 1 else 0); rw [uB_n e]) (by show (if uB S x x = true then 1 else 0) = (if S x = true then 1 else 0) + 1; rw [uB_s, hSx]; rfl)
          · rw [ela]
            by_cases e : a = x
            · subst e; rw [up_s, uB_s]; rfl
            · rw [up_n e, uB_n e]; exact hla a ha
  intro P hP
  have loop : ∀ m h (ro lo st la : Nat → Int32), m = n - h → h ≤ n → (∀ a, a < h → ro a = nI (bsr (tdM M k) f a) ∧ lo a = 0 ∧ st a = 0 ∧ la a = 0) → P (nI h) ro lo st la := by
    intro m
    induction m using Nat.strongRecOn with
    | ind m ih =>
      intro h ro lo st la hm hh hI
      apply hP
      refine pk_le n h (fun h9 => ?_) (fun h9 => ?_) hn
      · intro P2 hP2
        refine main n 0 (fun _ => false) ro lo st la (by omega) (by omega) (sm_z n (fun a _ => rfl)) (fun a ha => ?_) (fun a ha => ?_) P2 hP2
        · obtain ⟨g1, g2, g3, _⟩ := hI a (by omega)
          have z1 : FRs (tdM M k) n f (fun _ => false) a = bsr (tdM M k) f a := by
            unfold FRs
            exact congrArg (bsr (tdM M k) f a + ·) (sm_z (g := fun b => if ((fun _ : Nat => false) b && leadB (tdM M k) b a) = true then FRr (tdM M k) n f b else 0) n (fun b _ => rfl))
          have z2 : FLs (tdM M k) n f (fun _ => false) a = 0 := by
            rcases mx_ex (g := fun b => if ((fun _ : Nat => false) b && gcB (tdM M k) n f b a) = true then FLg (tdM M k) n f b + 1 else 0) n with e | ⟨b, hb1, e⟩
            · exact e
            · exact e
          have z3 : FSs (tdM M k) n f (fun _ => false) a = 0 := by
            unfold FSs
            rw [z1]
            by_cases hz : bsr (tdM M k) f a = 0
            · rw [if_pos hz]
            · rw [if_neg hz]
              by_cases q : a = f
              · rw [if_pos q]
              · exact absurd (by unfold bsr; rw [if_neg (fun h9 => q h9.1)]) hz
          exact ⟨by rw [g1, z1], by rw [g2, z2]; rfl, by rw [g3, z3]; rfl⟩
        · obtain ⟨_, _, _, g4⟩ := hI a (by omega)
          rw [g4]; rfl
      · have vih : vp_in (nI h) 9 := vp_in_nI (by omega) (by omega)
        have nx : ∀ y : Int32, y = nI (bsr (tdM M k) f h) → q_m_findRoutes_33 P (M 5) (nI k) (tdM M k 0) ro lo st la (nI f) (nI h) (nI h) y post := by
          intro y hy
          refine ⟨vih, fun ro' e1 => ⟨vih, fun lo' e2 => ⟨vih, fun st' e3 => ⟨vih, fun la' e4 v ev => ?_⟩⟩⟩⟩
          rw [nI_clamp (by omega)] at e1 e2 e3 e4
          rw [vnb0] at e4
          rw [ev, nI_1]
          refine ih (n - (h + 1)) (by omega) (h + 1) ro' lo' st' la' rfl (by omega) (fun a ha => ?_)
          rw [e1, e2, e3, e4]
          by_cases e : a = h
          · subst e; rw [up_s, up_s, up_s, up_s, hy]; exact ⟨rfl, rfl, rfl, rfl⟩
          · rw [up_n e, up_n e, up_n e, up_n e]; exact hI a (by omega)
        refine ⟨fun q => nx 0 ?_, fun q => ?_⟩
        · unfold bsr
          rw [if_neg (fun h9 => q (by rw [h9.1]))]; rfl
        · have e : h = f := (nI_eq (by omega) (by omega)).mp q
          refine e_isDamM hk (by omega) (fun hd => zi (nx 1 ?_)) (fun hd => io (nx 0 ?_))
          · unfold bsr
            rw [if_pos ⟨e, by rw [← e]; exact hd⟩]; rfl
          · unfold bsr
            rw [if_neg (fun h9 => by rw [← e, hd] at h9; exact absurd h9.2 (by decide))]; rfl
  exact loop _ 0 ro lo st laid rfl (by omega) (fun a ha => absurd ha (Nat.not_lt_zero a))
def RT (td : Nat → Int32) (n f t : Nat) (d : Int32) : Int32 := if d = 0 then nI (FRr td n f t) else if FRr td n f t = 0 then -1 else if d = 1 then nI (FLg td n f t) else nI (FSt td n f t)
def RTS (td : Nat → Int32) (n : Nat) (b c d : Int32) : Int32 := if (((0 ≤ b ∧ b < td 0) ∧ (0 ≤ c ∧ c < td 0)) ∧ ¬ b = c) ∧ (0 ≤ d ∧ d ≤ 2) then RT td n (cN b) (cN c) d else -2
def AN_routes (M : Nat → Nat → Int32) (a b c d : Int32) : Int32 := if 0 ≤ a ∧ a < M 4 0 then RTS (rowM M 0 a) (cN (rowM M 0 a 0)) b c d else -2
set_option maxRecDepth 40000 in
set_option maxHeartbeats 4000000 in
theorem e_m_routes {M : Nat → Nat → Int32} {f_code f_land f_huts f_singers a b c d : Int32} {a_routes a_longest a_steep a_laid : Nat → Int32} {post : Int32 → (Int32) → (Int32) → (Int32) → (Int32) → (Nat → Int32) → (Nat → Int32) → (Nat → Int32) → (Nat → Int32) → Prop} (hc : ∀ o, iv 0 2 (M 4 o)) (hL : mLand (M 5)) (hK : LK M) (hp : ∀ z0 z1 z2 z3 z4 z5 z6 z7, post (AN_routes M a b c d) z0 z1 z2 z3 z4 z5 z6 z7) : q_m_routes_0 f_code (M 4) (M 5) f_land f_huts f_singers a_routes a_longest a_steep a_laid a b c d post := by
  unfold AN_routes at hp
  refine e_hand (hc 0) (fun hno => iz ?_) (fun k hk ea hy => oi ?_)
  · rw [if_neg hno] at hp; exact hp _ _ _ _ _ _ _ _
  rw [if_pos hy] at hp
  subst ea
  have hO : LOK (rowM M 0 (nI k)) := LK_row hK hk hy.2
  have hR : RNG (rowM M 0 (nI k)) := RNG_M hL hk
  obtain ⟨n, hn, hn9⟩ := ln_of hR
  have b0 : iv 0 9 (tdM M k 0) := hR 0 (by omega)
  unfold RTS at hp
  refine e_isHutM b0 (fun h => iz ?_) (fun h1 => oi (e_isHutM b0 (fun h => iz ?_) (fun h2 => oi ?_)))
  · rw [if_neg (fun h9 => h h9.1.1.1)] at hp; exact hp _ _ _ _ _ _ _ _
  · rw [if_neg (fun h9 => h h9.1.1.2)] at hp; exact hp _ _ _ _ _ _ _ _
  refine ⟨fun heq => ?_, fun hne => sp_in (fun h => zi ?_) (fun d1 d2 => io ?_)⟩
  · rw [if_neg (fun h9 => h9.1.2 heq)] at hp; exact hp _ _ _ _ _ _ _ _
  · rw [if_neg (fun h9 => h h9.2)] at hp; exact hp _ _ _ _ _ _ _ _
  · rw [if_pos ⟨⟨⟨h1, h2⟩, hne⟩, d1, d2⟩, hn] at hp
    rw [hn] at h1 h2
    obtain ⟨f, hf, eb⟩ := lt_n hn9 h1
    obtain ⟨t, ht, ec⟩ := lt_n hn9 h2
    subst eb ec
    rw [cN_nI (by omega), cN_nI (by omega), cN_nI (by omega)] at hp
    unfold RT at hp
    have vit : vp_in (nI t) 9 := vp_in_nI (by omega) (by omega)
    refine e_findRoutesM hk hL hn hn9 hf rfl (fun ro lo st la hr => ?_)
    obtain ⟨r1, r2, r3⟩ := hr t ht
    have bb := FRr_b (td := tdM M k) (f := f) hn9 (h := t)
    rw [nI_clamp (by omega), r1, r2]
    refine ⟨fun w0 => ⟨vit, fun q => ⟨fun w1 => ⟨vit, ?_⟩, fun w1 => ⟨vit, ?_⟩⟩, fun q => ?_⟩, fun w0 => ⟨vit, ?_⟩⟩
    · have q0 : ¬ FRr (tdM M k) n f t = 0 := fun e => q (by rw [e]; rfl)
      rw [if_neg w0, if_neg q0, if_neg w1] at hp
      rw [r3 q0]
      exact hp _ _ _ _ _ _ _ _
    · have q0 : ¬ FRr (tdM M k) n f t = 0 := fun e => q (by rw [e]; rfl)
      rw [if_neg w0, if_neg q0, if_pos w1] at hp; exact hp _ _ _ _ _ _ _ _
    · rw [if_neg w0, if_pos ((nI_eq (b := 0) (by omega) (by omega)).mp q)] at hp; exact hp _ _ _ _ _ _ _ _
    · rw [if_pos w0] at hp; exact hp _ _ _ _ _ _ _ _
end
