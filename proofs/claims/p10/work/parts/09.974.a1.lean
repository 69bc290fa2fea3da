/-- a row of bytes that go on -/
def scn (p : Nat → Bool) : Nat → Nat → Nat
  | 0, r => r
  | m + 1, r => if p r = true then scn p m (r + 1) else r
theorem scn_le (p : Nat → Bool) : ∀ (m r : Nat), r ≤ scn p m r ∧ scn p m r ≤ r + m
  | 0, r => ⟨Nat.le_refl _, Nat.le_refl _⟩
  | m + 1, r => by
    unfold scn
    have := scn_le p m (r + 1)
    by_cases h : p r = true
    · rw [if_pos h]; omega
    · rw [if_neg h]; omega
theorem scn_t {p : Nat → Bool} {m r : Nat} (h : p r = true) : scn p (m + 1) r = scn p m (r + 1) := by
  rw [scn, if_pos h]
theorem scn_f {p : Nat → Bool} {m r : Nat} (h : ¬ p r = true) : scn p m r = r := by
  cases m with
  | zero => rfl
  | succ m => rw [scn, if_neg h]
theorem scn_all (p : Nat → Bool) : ∀ (m r j : Nat), r ≤ j → j < scn p m r → p j = true
  | 0, r, j => fun h1 h2 => absurd h2 (by unfold scn; omega)
  | m + 1, r, j => fun h1 h2 => by
    unfold scn at h2
    by_cases h : p r = true
    · rw [if_pos h] at h2
      by_cases hj : j = r
      · rw [hj]; exact h
      · exact scn_all p m (r + 1) j (by omega) h2
    · rw [if_neg h] at h2; omega
def isB (B : Nat → Int32) (j : Nat) : Bool := decide (B j = 10 ∨ B j = 32)
def isL (B : Nat → Int32) (j : Nat) : Bool := decide (97 ≤ B j ∧ B j ≤ 122)
def isD (B : Nat → Int32) (j : Nat) : Bool := decide (48 ≤ B j ∧ B j ≤ 57)
/-- a token from r on: its first byte, what is behind it, its kind (0 end, 1 word, 2 number, 3 stroke, 4 none), its value -/
def tF (B : Nat → Int32) (n r : Nat) : Nat := scn (isB B) (n - r) r
def tN (B : Nat → Int32) (n r : Nat) : Nat := if tF B n r < n then (if isL B (tF B n r) = true then scn (isL B) (n - tF B n r) (tF B n r) else if isD B (tF B n r) = true then scn (isD B) (n - tF B n r) (tF B n r) else tF B n r + 1) else tF B n r
def tK (B : Nat → Int32) (n r : Nat) : Nat := if tF B n r < n then (if isL B (tF B n r) = true then 1 else if isD B (tF B n r) = true then (if tN B n r - tF B n r ≤ 2 then 2 else 4) else if B (tF B n r) = 59 then 3 else 4) else 0
def vD (B : Nat → Int32) (f : Nat) : Nat → Int32
  | 0 => 0
  | m + 1 => if m < 2 then vD B f m * 10 + B (f + m) - 48 else vD B f m
def tV (B : Nat → Int32) (n r : Nat) : Int32 := vD B (tF B n r) (tN B n r - tF B n r)
def pw (B : Nat → Int32) (f : Nat) : Nat → Int64
  | 0 => 0
  | m + 1 => (pw B f m <<< (Int32.toInt64 8 &&& 63)) ||| Int32.toInt64 (B (f + m) &&& 255)
def tW (B : Nat → Int32) (n r : Nat) : Int64 := if tN B n r - tF B n r ≤ 8 then pw B (tF B n r) (tN B n r - tF B n r) else 0
def sI (k : Nat) : Int32 := if k = 0 then 0 else if k = 1 then 2 else if k = 2 then 3 else if k = 3 then 4 else 1
theorem tF_le {B : Nat → Int32} {n r : Nat} (hr : r ≤ n) : r ≤ tF B n r ∧ tF B n r ≤ n := by
  have := scn_le (isB B) (n - r) r
  unfold tF
  omega
theorem tk_end {B : Nat → Int32} {n r : Nat} (h : ¬ tF B n r < n) : tK B n r = 0 ∧ tN B n r = tF B n r := ⟨if_neg h, if_neg h⟩
theorem tk_let {B : Nat → Int32} {n r f : Nat} (hf : tF B n r = f) (h : f < n) (hL : isL B f = true) : tK B n r = 1 ∧ tN B n r = scn (isL B) (n - f) f := by
  unfold tK tN
  rw [hf, if_pos h, if_pos hL, if_pos h, if_pos hL]
  exact ⟨rfl, rfl⟩
theorem tk_dig {B : Nat → Int32} {n r f : Nat} (hf : tF B n r = f) (h : f < n) (hL : ¬ isL B f = true) (hD : isD B f = true) : tN B n r = scn (isD B) (n - f) f ∧ tK B n r = if scn (isD B) (n - f) f - f ≤ 2 then 2 else 4 := by
  have e : tN B n r = scn (isD B) (n - f) f := by
    unfold tN
    rw [hf, if_pos h, if_neg hL, if_pos hD]
  refine ⟨e, ?_⟩
  unfold tK
  rw [e, hf, if_pos h, if_neg hL, if_pos hD]
theorem tk_sgn {B : Nat → Int32} {n r f : Nat} (hf : tF B n r = f) (h : f < n) (hL : ¬ isL B f = true) (hD : ¬ isD B f = true) : tN B n r = f + 1 ∧ tK B n r = if B f = 59 then 3 else 4 := by
  unfold tK tN
  rw [hf, if_pos h, if_neg hL, if_neg hD, if_pos h, if_neg hL, if_neg hD]
  exact ⟨rfl, rfl⟩
theorem tk_le {B : Nat → Int32} {n r : Nat} (hr : r ≤ n) : tF B n r ≤ tN B n r ∧ tN B n r ≤ n ∧ (¬ tK B n r = 0 → tF B n r < tN B n r) ∧ (tK B n r = 0 → tF B n r = n) ∧ tK B n r ≤ 4 := by
  have h1 := tF_le (B := B) hr
  by_cases h : tF B n r < n
  · by_cases hL : isL B (tF B n r) = true
    · obtain ⟨a, b⟩ := tk_let rfl h hL
      have c := scn_le (isL B) (n - tF B n r) (tF B n r)
      have d : scn (isL B) (n - tF B n r) (tF B n r) = scn (isL B) (n - tF B n r - 1) (tF B n r + 1) := by
        conv => lhs; rw [show n - tF B n r = (n - tF B n r - 1) + 1 by omega]
        exact scn_t hL
      have e := scn_le (isL B) (n - tF B n r - 1) (tF B n r + 1)
      rw [b, a]
      exact ⟨by omega, by omega, fun _ => by omega, fun h => by omega, by omega⟩
    · by_cases hD : isD B (tF B n r) = true
      · obtain ⟨b, a⟩ := tk_dig rfl h hL hD
        have c := scn_le (isD B) (n - tF B n r) (tF B n r)
        have d : scn (isD B) (n - tF B n r) (tF B n r) = scn (isD B) (n - tF B n r - 1) (tF B n r + 1) := by
          conv => lhs; rw [show n - tF B n r = (n - tF B n r - 1) + 1 by omega]
          exact scn_t hD
        have e := scn_le (isD B) (n - tF B n r - 1) (tF B n r + 1)
        have k : tK B n r = 2 ∨ tK B n r = 4 := by
          rw [a]
          by_cases hh : scn (isD B) (n - tF B n r) (tF B n r) - tF B n r ≤ 2
          · rw [if_pos hh]; exact Or.inl rfl
          · rw [if_neg hh]; exact Or.inr rfl
        rw [b]
        exact ⟨by omega, by omega, fun _ => by omega, fun h => by omega, by omega⟩
      · obtain ⟨b, a⟩ := tk_sgn rfl h hL hD
        have k : tK B n r = 3 ∨ tK B n r = 4 := by
          rw [a]
          by_cases hh : B (tF B n r) = 59
          · rw [if_pos hh]; exact Or.inl rfl
          · rw [if_neg hh]; exact Or.inr rfl
        rw [b]
        exact ⟨by omega, by omega, fun _ => by omega, fun h => by omega, by omega⟩
  · obtain ⟨a, b⟩ := tk_end h
    rw [a, b]
    exact ⟨by omega, by omega, fun h => absurd rfl h, fun _ => by omega, by omega⟩
theorem sp_isLet {x : Int32} {post : Int32 → Prop} (h1 : 97 ≤ x ∧ x ≤ 122 → post 1) (h0 : ¬ (97 ≤ x ∧ x ≤ 122) → post 0) : q_z_X4_isLetter_0 x post :=
  ⟨fun h => h0 (fun h2 => absurd h (Int32.not_lt.mpr h2.1)), fun h => ⟨fun g => h0 (fun h2 => absurd g (Int32.not_lt.mpr h2.2)), fun g => h1 ⟨Int32.not_lt.mp h, Int32.not_lt.mp g⟩⟩⟩
theorem sp_isDig {x : Int32} {post : Int32 → Prop} (h1 : 48 ≤ x ∧ x ≤ 57 → post 1) (h0 : ¬ (48 ≤ x ∧ x ≤ 57) → post 0) : q_z_X4_isDigit_0 x post :=
  ⟨fun h => h0 (fun h2 => absurd h (Int32.not_lt.mpr h2.1)), fun h => ⟨fun g => h0 (fun h2 => absurd g (Int32.not_lt.mpr h2.2)), fun g => h1 ⟨Int32.not_lt.mp h, Int32.not_lt.mp g⟩⟩⟩
/-- the class's next token -/
theorem e_adv {tp B : Nat → Int32} {n r : Nat} {ki fi va : Int32} {post : Int32 → Int32 → Int32 → Int32 → Prop} (hn : n ≤ 600) (hr : r ≤ n) (hB : ∀ j, j < n → tp j = B j) (h : ∀ v', (tK B n r = 2 → v' = tV B n r) → post (nI (tN B n r)) (nI (tK B n r)) (nI (tF B n r)) v') : q_wr_X4_advance_0 tp (nI n) (nI r) ki fi va post := by
  have hF := tF_le (B := B) hr
  have f41 : ∀ f, tF B n r = f → q_wr_X4_advance_41 tp (nI n) (nI r) ki fi va (nI f) post := by
    intro f hf
    have hfn : f ≤ n := by omega
    refine pk_lt f n (fun hlt => ?_) (fun hge => ?_)
    · have hin : vp_in (nI f) 600 := vp_in_nI (by omega) (by omega)
      refine ⟨hin, ?_⟩
      rw [nI_clamp (by omega), hB f hlt]
      refine sp_isLet (fun a => oi ?_) (fun hnl => iz ⟨hin, ?_⟩)
      · have hL : isL B f = true := decide_eq_true a
        obtain ⟨hK, hN⟩ := tk_let hf hlt hL
        have fin : ∀ j, j = tN B n r → q_wr_X4_advance_149 tp (nI n) (nI r) 1 (nI f) va (nI j) post := by
          intro j hj
          have h1 := h va (fun hk => absurd (hK.symm.trans hk) (by decide))
          rw [← hj, hK, hf] at h1
          exact h1
        intro P hP
        have loop : ∀ m j, m + j = n → scn (isL B) m j = tN B n r → P (nI j) := by
          intro m
          induction m with
          | zero =>
            intro j hj hs
            apply hP
            refine pk_le n j (fun _ => fin j hs) (fun hlt2 => absurd hlt2 (by omega))
          | succ m ih =>
            intro j hj hs
            apply hP
            refine pk_le n j (fun hlt2 => absurd hlt2 (by omega)) (fun _ => ⟨vp_in_nI (by omega) (by omega), ?_⟩)
            rw [nI_clamp (by omega), hB j (by omega)]
            refine sp_isLet (fun a => oi (fun v e => ?_)) (fun a => iz (fin j ?_))
            · rw [e, nI_1]
              refine ih (j + 1) (by omega) ?_
              rw [← hs]
              exact (scn_t (decide_eq_true a)).symm
            · rw [← hs]
              exact (scn_f (by unfold isL; rw [decide_eq_true_iff]; exact a)).symm
        exact loop (n - f) f (by omega) hN.symm
      · have hL : ¬ isL B f = true := by unfold isL; rw [decide_eq_true_iff]; exact hnl
        refine sp_isDig (fun a => oi ?_) (fun hnd => iz ⟨hin, ?_⟩)
        · have hD : isD B f = true := decide_eq_true a
          obtain ⟨hN, hK⟩ := tk_dig hf hlt hL hD
          have fin : ∀ j, j = tN B n r → f < j → j ≤ n → q_wr_X4_readNumber_68 tp (nI n) ki (vD B f (j - f)) (nI f) (nI j) (fun r_3 f_kind_1 f_value_1 => q_wr_X4_advance_149 tp (nI n) (nI r) f_kind_1 (nI f) f_value_1 r_3 post) := by
            intro j hj h1 h2
            have e : nI j - nI f = nI (j - f) := pk_sub (by omega)
            have hv : tV B n r = vD B f (j - f) := by unfold tV; rw [hf, hj]
            rw [← hN, ← hj] at hK
            have g := h (vD B f (j - f)) (fun _ => hv.symm)
            rw [← hj, hf] at g
            unfold q_wr_X4_readNumber_68
            rw [e]
            refine pk_lt 2 (j - f) (fun h3 => ?_) (fun h3 => ?_)
            · rw [if_neg (by omega)] at hK
              rw [hK] at g
              exact g
            · rw [if_pos (by omega)] at hK
              rw [hK] at g
              exact g
          intro P hP
          have loop : ∀ m j, m + j = n → f ≤ j → (f = j → 0 < m) → scn (isD B) m j = tN B n r → P (nI j) (vD B f (j - f)) := by
            intro m
            induction m with
            | zero =>
              intro j hj hfj h0 hs
              apply hP
              refine pk_le n j (fun _ => fin j hs (by omega) (by omega)) (fun hlt2 => absurd hlt2 (by omega))
            | succ m ih =>
              intro j hj hfj h0 hs
              apply hP
              have hin2 : vp_in (nI j) 600 := vp_in_nI (by omega) (by omega)
              refine pk_le n j (fun hlt2 => absurd hlt2 (by omega)) (fun _ => ⟨hin2, ?_⟩)
              rw [nI_clamp (by omega), hB j (by omega)]
              refine sp_isDig (fun a2 => oi ?_) (fun a2 => iz (fin j ?_ ?_ (by omega)))
              · have nx : ∀ y, y = vD B f (j + 1 - f) → q_wr_X4_readNumber_59 P tp (nI n) ki (vD B f (j - f)) (nI f) (nI j) y (fun r_3 f_kind_1 f_value_1 => q_wr_X4_advance_149 tp (nI n) (nI r) f_kind_1 (nI f) f_value_1 r_3 post) := by
                  intro y hy v e
                  rw [e, nI_1, hy]
                  refine ih (j + 1) (by omega) (by omega) (fun h9 => by omega) ?_
                  rw [← hs]
                  exact (scn_t (decide_eq_true a2)).symm
                have e2 : nI j - nI f = nI (j - f) := pk_sub (by omega)
                have e3 : j + 1 - f = (j - f) + 1 := by omega
                rw [e2]
                refine pk_le 2 (j - f) (fun h3 => nx _ ?_) (fun h3 => ⟨hin2, nx _ ?_⟩)
                · rw [e3, vD, if_neg (by omega)]
                · rw [e3, vD, if_pos h3, show f + (j - f) = j by omega]
              · rw [← hs]
                exact (scn_f (by unfold isD; rw [decide_eq_true_iff]; exact a2)).symm
              · refine Nat.lt_of_le_of_ne hfj (fun h9 => a2 ?_)
                rw [← h9]; exact a
          have h0 := loop (n - f) f (by omega) (Nat.le_refl f) (fun _ => by omega) hN.symm
          rw [Nat.sub_self] at h0
          exact h0
        · have hD : ¬ isD B f = true := by unfold isD; rw [decide_eq_true_iff]; exact hnd
          obtain ⟨hN, hK⟩ := tk_sgn hf hlt hL hD
          refine ⟨fun a v e => ?_, fun a v e => ?_⟩
          · rw [if_neg a] at hK
            have g := h va (fun hk => absurd (hK.symm.trans hk) (by decide))
            rw [hN, hK, hf] at g
            rw [e, nI_1]
            exact g
          · rw [if_pos a] at hK
            have g := h va (fun hk => absurd (hK.symm.trans hk) (by decide))
            rw [hN, hK, hf] at g
            rw [e, nI_1]
            exact g
    · obtain ⟨hK, hN⟩ := tk_end (B := B) (n := n) (r := r) (by omega)
      have g := h va (fun hk => absurd (hK.symm.trans hk) (by decide))
      rw [hN, hK, hf] at g
      exact g
  intro P hP
  have loop : ∀ m j, m + j = n → scn (isB B) m j = tF B n r → P (nI j) := by
    intro m
    induction m with
    | zero =>
      intro j hj hs
      apply hP
      refine pk_le n j (fun _ => f41 j hs.symm) (fun hlt2 => absurd hlt2 (by omega))
    | succ m ih =>
      intro j hj hs
      apply hP
      have hin2 : vp_in (nI j) 600 := vp_in_nI (by omega) (by omega)
      have nx : isB B j = true → q_wr_X4_advance_35 P tp (nI n) (nI r) ki fi va (nI j) post := by
        intro hb v e
        rw [e, nI_1]
        refine ih (j + 1) (by omega) ?_
        rw [← hs]
        exact (scn_t hb).symm
      refine pk_le n j (fun hlt2 => absurd hlt2 (by omega)) (fun _ => ⟨hin2, ?_⟩)
      rw [nI_clamp (by omega), hB j (by omega)]
      refine ⟨fun a => nx (decide_eq_true (Or.inl a)), fun a => ⟨hin2, fun a2 => f41 j ?_, fun a2 => nx (decide_eq_true (Or.inr a2))⟩⟩
      rw [← hs]
      exact scn_f (by unfold isB; rw [decide_eq_true_iff]; exact fun h9 => h9.elim a a2)
  exact loop (n - r) r (by omega) rfl
