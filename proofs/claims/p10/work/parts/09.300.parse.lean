def mTk (n : Nat) (re : Int32) : Prop := ∃ r, r ≤ n ∧ re = nI r
def adv (re re' so' : Int32) : Prop := re.toInt ≤ re'.toInt ∧ (¬ so' = 0 → re.toInt < re'.toInt)
theorem adv_tr {a b c s t : Int32} (h1 : adv a b s) (h2 : adv b c t) : adv a c t := ⟨Int.le_trans h1.1 h2.1, fun h => Int.lt_of_le_of_lt h1.1 (h2.2 h)⟩
theorem sp_seeE {tp : Nat → Int32} {r n : Nat} {post : Int32 → Prop} (hr : r ≤ n) (hn : n ≤ 600) (hE : r = n → post (-1)) (hN : r < n → post (tp r &&& 255)) : q_m_see_0 tp (nI r) (nI n) post := by
  refine ⟨fun h => hE ?_, fun h => ?_⟩
  · have := (nI_leI (by omega) (by omega)).mp h
    omega
  · have h1 : r < n := Nat.lt_of_not_le (fun h2 => h (nI_le h2 (by omega)))
    refine ⟨vp_in_nI (by omega) (by omega), ?_⟩
    rw [nI_clamp (by omega)]
    exact hN h1
theorem sp_tokenT {tp : Nat → Int32} {re be so va : Int32} {wd : Int64} {n : Nat} {post : Int32 → Int32 → Int32 → Int32 → Int64 → Prop} (hn : n ≤ 600) (hre : mTk n re) (h : ∀ re' be' so' va' wd', mTk n re' → adv re re' so' → post re' be' so' va' wd') : q_m_token_0 tp re (nI n) be so va wd post := by
  obtain ⟨r0, hr0, rfl⟩ := hre
  have hs : ∀ (r : Nat) (be' so' va' : Int32) (wd' : Int64), r0 < r → r ≤ n → post (nI r) be' so' va' wd' := by
    intro r be' so' va' wd' h1 h2
    refine h _ _ _ _ _ ⟨r, h2, rfl⟩ ⟨?_, fun _ => ?_⟩
    · rw [nI_toInt (by omega), nI_toInt (by omega)]; omega
    · rw [nI_toInt (by omega), nI_toInt (by omega)]; omega
  have hz : ∀ (r : Nat) (be' va' : Int32) (wd' : Int64), r0 ≤ r → r ≤ n → post (nI r) be' 0 va' wd' := by
    intro r be' va' wd' h1 h2
    refine h _ _ _ _ _ ⟨r, h2, rfl⟩ ⟨?_, fun h => absurd rfl h⟩
    rw [nI_toInt (by omega), nI_toInt (by omega)]; omega
  intro P hP
  have loop : ∀ (m r : Nat), m + r = n → r0 ≤ r → P (nI r) := by
    intro m
    induction m with
    | zero =>
      intro r hr h0
      apply hP
      have ab : ∀ {Q : Prop}, r < n → Q := fun h => absurd h (by omega)
      refine sp_seeE (by omega) hn (fun _ => ⟨fun h => absurd h (by decide), fun _ => ?_⟩) ab
      refine sp_seeE (by omega) hn (fun _ => ⟨fun _ => ?_, fun h => absurd h (by decide)⟩) ab
      exact sp_seeE (by omega) hn (fun _ => ⟨fun h => absurd h (by decide), fun _ => hz r _ _ _ h0 (by omega)⟩) ab
    | succ m ih =>
      intro r hr h0
      apply hP
      have ab : ∀ {Q : Prop}, r = n → Q := fun h => absurd h (by omega)
      have k18 : q_m_token_18 P tp (nI r) (nI n) be so va wd post := by
        intro v1 e1
        rw [e1, nI_1]
        exact ih (r + 1) (by omega) (by omega)
      refine sp_seeE (by omega) hn ab (fun _ => ⟨fun _ => k18, fun _ => ?_⟩)
      refine sp_seeE (by omega) hn ab (fun _ => ⟨fun _ => ?_, fun _ => k18⟩)
      refine sp_seeE (by omega) hn ab (fun _ => ⟨fun _ => ?_, fun hneg => ?_⟩)
      · refine sp_in (fun _ => iz ?_) (fun w1 w2 => oi ?_)
        · refine sp_in (fun _ => iz (fun v1 e1 => ?_)) (fun d1 d2 => oi ?_)
          · rw [e1, nI_1]
            exact ⟨fun _ => hs (r + 1) _ _ _ _ (by omega) (by omega), fun _ => hs (r + 1) _ _ _ _ (by omega) (by omega)⟩
          · intro P2 hP2
            have loop2 : ∀ (q j : Nat) (x2 va : Int32), q + j = n → r0 < j → P2 x2 (nI j) va := by
              intro q
              induction q with
              | zero =>
                intro j x2 va hj h1
                apply hP2
                refine sp_seeE (by omega) hn (fun _ => sp_in (fun _ => iz ⟨fun _ => hs j _ _ _ _ h1 (by omega), fun _ => hs j _ _ _ _ h1 (by omega)⟩) (fun g1 _ => absurd g1 (by decide))) (fun h => absurd h (by omega))
              | succ q ih2 =>
                intro j x2 va hj h1
                apply hP2
                have k205 : ∀ y : Int32, q_m_token_205 P2 tp (nI j) (nI n) (nI r) so va 0 x2 y post := by
                  intro y v1 e1 v2 e2
                  rw [e1, nI_1]
                  exact ih2 (j + 1) v2 y (by omega) (by omega)
                refine sp_seeE (by omega) hn (fun h => absurd h (by omega)) (fun _ => sp_in (fun _ => iz ⟨fun _ => hs j _ _ _ _ h1 (by omega), fun _ => hs j _ _ _ _ h1 (by omega)⟩) (fun _ _ => oi ⟨fun _ => k205 _, fun _ => ?_⟩))
                exact sp_seeE (by omega) hn (fun h => absurd h (by omega)) (fun _ => k205 _)
            apply hP2
            have k205 : ∀ y : Int32, q_m_token_205 P2 tp (nI r) (nI n) (nI r) so 0 0 0 y post := by
              intro y v1 e1 v2 e2
              rw [e1, nI_1]
              exact loop2 m (r + 1) v2 y (by omega) (by omega)
            refine sp_seeE (by omega) hn ab (fun _ => sp_in (fun h => absurd ⟨d1, d2⟩ h) (fun _ _ => oi ⟨fun _ => k205 _, fun _ => ?_⟩))
            exact sp_seeE (by omega) hn ab (fun _ => k205 _)
        · intro P2 hP2
          have loop2 : ∀ (q j : Nat) (x2 : Int32) (wd : Int64), q + j = n → r0 < j → P2 x2 (nI j) wd := by
            intro q
            induction q with
            | zero =>
              intro j x2 wd hj h1
              apply hP2
              refine sp_seeE (by omega) hn (fun _ => sp_in (fun _ => iz ⟨fun _ => hs j _ _ _ _ h1 (by omega), fun _ => hs j _ _ _ _ h1 (by omega)⟩) (fun g1 _ => absurd g1 (by decide))) (fun h => absurd h (by omega))
            | succ q ih2 =>
              intro j x2 wd hj h1
              apply hP2
              refine sp_seeE (by omega) hn (fun h => absurd h (by omega)) (fun _ => sp_in (fun _ => iz ⟨fun _ => hs j _ _ _ _ h1 (by omega), fun _ => hs j _ _ _ _ h1 (by omega)⟩) (fun _ _ => oi ?_))
              refine sp_seeE (by omega) hn (fun h => absurd h (by omega)) (fun _ v1 e1 v2 e2 v3 e3 => ?_)
              rw [e2, nI_1]
              exact ih2 (j + 1) v3 v1 (by omega) (by omega)
          apply hP2
          refine sp_seeE (by omega) hn ab (fun _ => sp_in (fun h => absurd ⟨w1, w2⟩ h) (fun _ _ => oi ?_))
          refine sp_seeE (by omega) hn ab (fun _ v1 e1 v2 e2 v3 e3 => ?_)
          rw [e2, nI_1]
          exact loop2 m (r + 1) v3 v1 (by omega) (by omega)
      · have h255 : iv 0 255 (tp r &&& 255) := iv_andr (iv_lit (l := 255) (h := 255) (by decide)) (by decide)
        have e0 : (0 : Int32).toInt = 0 := rfl
        exact absurd (Int32.le_iff_toInt_le.mpr (by rw [e0]; exact h255.1)) hneg
  exact loop (n - r0) r0 (by omega) (Nat.le_refl _)
theorem sp_later {lf lp f pl : Int32} {post : Int32 → Int32 → Prop} (hf : ¬ f = 0) (h : ∀ lf' lp', ¬ lf' = 0 → post lf' lp') : q_m_later_0 lf lp f pl post :=
  ⟨fun _ => h _ _ hf, fun h1 => ⟨fun _ => h _ _ hf, fun _ => ⟨fun _ => h _ _ h1, fun _ => ⟨fun _ => h _ _ h1, fun _ => h _ _ hf⟩⟩⟩⟩
theorem sp_takeBut {tp rd : Nat → Int32} {re be so va wr lf lp gd k lo hi but : Int32} {wd : Int64} {n : Nat} {post : Int32 → Int32 → Int32 → Int32 → Int32 → Int64 → Int32 → Int32 → Int32 → (Nat → Int32) → Int32 → Prop} (hn : n ≤ 600) (hre : mTk n re) (hk : iv 0 2 k)
    (h0 : ∀ re be so va wd wr lf lp rd gd, post 0 re be so va wd wr lf lp rd gd)
    (h1 : ∀ re' be' so' va' wd' wr' lf' lp' gd' v, mTk n re' → adv re re' so' → (lf' = 0 → lf = 0 ∧ lo ≤ v ∧ v ≤ hi) → (¬ gd' = 0 → ¬ gd = 0 ∧ lo ≤ v ∧ v ≤ hi) → post 1 re' be' so' va' wd' wr' lf' lp' (upd rd (Int32.toNatClampNeg k) v) gd') : q_m_takeBut_0 tp re (nI n) be so va wd wr lf lp rd gd k lo hi but post := by
  refine ⟨fun _ => ⟨iv_in hk (by decide), fun rd1 e1 => ?_⟩, fun _ => ⟨rfl, h0 _ _ _ _ _ _ _ _ _ _⟩⟩
  subst e1
  have bad : q_m_takeBut_44 tp re (nI n) be so va wd wr lf lp (upd rd (Int32.toNatClampNeg k) va) gd post := sp_later (by decide) (fun lf' lp' hl => sp_tokenT hn hre (fun re' be' so' va' wd' g1 g2 => h1 _ _ _ _ _ _ _ _ _ _ g1 g2 (fun h => absurd h hl) (fun h => absurd rfl h)))
  refine sp_in (fun _ => iz bad) (fun g1 g2 => oi ⟨fun _ => ?_, fun _ => bad⟩)
  exact sp_tokenT hn hre (fun re' be' so' va' wd' k1 k2 => h1 _ _ _ _ _ _ _ _ _ _ k1 k2 (fun h => ⟨h, g1, g2⟩) (fun h => ⟨h, g1, g2⟩))
theorem sp_take {tp rd : Nat → Int32} {re be so va wr lf lp gd k lo hi : Int32} {wd : Int64} {n : Nat} {post : Int32 → Int32 → Int32 → Int32 → Int32 → Int64 → Int32 → Int32 → Int32 → (Nat → Int32) → Int32 → Prop} (hn : n ≤ 600) (hre : mTk n re) (hk : iv 0 2 k)
    (h0 : ∀ re be so va wd wr lf lp rd gd, post 0 re be so va wd wr lf lp rd gd)
    (h1 : ∀ re' be' so' va' wd' wr' lf' lp' gd' v, mTk n re' → adv re re' so' → (lf' = 0 → lf = 0 ∧ lo ≤ v ∧ v ≤ hi) → (¬ gd' = 0 → ¬ gd = 0 ∧ lo ≤ v ∧ v ≤ hi) → post 1 re' be' so' va' wd' wr' lf' lp' (upd rd (Int32.toNatClampNeg k) v) gd') : q_m_take_0 tp re (nI n) be so va wd wr lf lp rd gd k lo hi post :=
  sp_takeBut hn hre hk (fun _ _ _ _ _ _ _ _ _ _ => ⟨rfl, h0 _ _ _ _ _ _ _ _ _ _⟩) (fun _ _ _ _ _ _ _ _ _ _ a b c d => ⟨rfl, h1 _ _ _ _ _ _ _ _ _ _ a b c d⟩)
theorem sp_greater {a b : Int32} {post : Int32 → Prop} (h : ∀ r : Int32, a.toInt ≤ r.toInt → b.toInt ≤ r.toInt → post r) : q_m_greater_0 a b post := by
  refine ⟨fun g => ?_, fun g => ?_⟩
  · exact h _ (by first | exact r_le g | exact Int.le_refl _ | exact Int.le_of_lt (r_lt g)) (by first | exact r_le g | exact Int.le_refl _ | exact Int.le_of_lt (r_lt g))
  · exact h _ (by first | exact Int.le_of_lt (r_nle g) | exact r_nlt g | exact Int.le_refl _) (by first | exact Int.le_of_lt (r_nle g) | exact r_nlt g | exact Int.le_refl _)
theorem sp_takeHut {tp rd : Nat → Int32} {re be so va wr lf lp fh gd k but : Int32} {wd : Int64} {n : Nat} {post : Int32 → Int32 → Int32 → Int32 → Int32 → Int64 → Int32 → Int32 → Int32 → (Nat → Int32) → Int32 → Int32 → Prop} (hn : n ≤ 600) (hre : mTk n re) (hk : iv 0 2 k)
    (h0 : ∀ re be so va wd wr lf lp rd fh gd, post 0 re be so va wd wr lf lp rd fh gd)
    (h1 : ∀ re' be' so' va' wd' wr' lf' lp' fh' gd' v, mTk n re' → adv re re' so' → (lf' = 0 → lf = 0 ∧ 0 ≤ v ∧ v ≤ 8) → (¬ gd' = 0 → ¬ gd = 0 ∧ 0 ≤ v ∧ v ≤ 8) → fh.toInt ≤ fh'.toInt → v.toInt ≤ fh'.toInt → post 1 re' be' so' va' wd' wr' lf' lp' (upd rd (Int32.toNatClampNeg k) v) fh' gd') : q_m_takeHut_0 tp re (nI n) be so va wd wr lf lp rd fh gd k but post := by
  refine sp_takeBut hn hre hk (fun _ _ _ _ _ _ _ _ _ _ => zi (h0 _ _ _ _ _ _ _ _ _ _ _)) (fun re' be' so' va' wd' wr' lf' lp' gd' v g1 g2 g3 g4 => io ⟨iv_in hk (by decide), sp_greater (fun r k1 k2 => ?_)⟩)
  have e : upd rd (Int32.toNatClampNeg k) v (Int32.toNatClampNeg k) = v := by unfold upd; rw [if_pos rfl]
  rw [e] at k2
  exact h1 _ _ _ _ _ _ _ _ _ _ _ g1 g2 g3 g4 k1 k2
/-- the ranges of a text's row, by its sort -/
def rhi (o j : Nat) : Int := if o = 0 then mRh j else if o = 1 then (if j = 0 then 40 else if j ≤ 120 then (if (j - 1) % 3 = 2 then 8 else 5) else 0) else if o = 2 then (if j = 0 then 10 else if j ≤ 30 then (if (j - 1) % 3 = 0 then 1 else if (j - 1) % 3 = 1 then 8 else 60) else 0) else (if j = 0 then 9 else if j ≤ 18 then (if (j - 1) % 2 = 0 then 3 else 9) else if j = 19 then 9 else 0)
def rlo (o j : Nat) : Int := if o = 1 then (if j = 0 then 0 else if j ≤ 120 then (if (j - 1) % 3 = 2 then -1 else 0) else 0) else 0
def PI (o : Nat) (lf : Int32) (told : Nat → Int32) : Prop := iv 0 (rhi o 0) (told 0) ∧ (o = 0 → iv 0 6 (told 1) ∧ iv 0 4 (told 4)) ∧ (lf = 0 → ∀ j, j < 132 → iv (rlo o j) (rhi o j) (told j))
theorem PI_lf {o : Nat} {lf lf' : Int32} {told : Nat → Int32} (h : PI o lf told) (hl : lf' = 0 → lf = 0) : PI o lf' told := ⟨h.1, h.2.1, fun h2 => h.2.2 (hl h2)⟩
theorem PI_upd {o : Nat} {lf lf' : Int32} {told : Nat → Int32} {k : Nat} {v : Int32} (h : PI o lf told) (hl : lf' = 0 → lf = 0 ∧ iv (rlo o k) (rhi o k) v) (h0 : ¬ k = 0) (h1 : o = 0 → ¬ k = 1 ∧ ¬ k = 4) : PI o lf' (upd told k v) := by
  have e : ∀ j, ¬ j = k → upd told k v j = told j := fun j hj => by unfold upd; rw [if_neg hj]
  refine ⟨by rw [e 0 (fun h => h0 h.symm)]; exact h.1, fun ho => ?_, fun h2 j hj => ?_⟩
  · rw [e 1 (fun h => (h1 ho).1 h.symm), e 4 (fun h => (h1 ho).2 h.symm)]
    exact h.2.1 ho
  · by_cases hjk : j = k
    · subst hjk
      have e2 : upd told j v j = v := by unfold upd; rw [if_pos rfl]
      rw [e2]
      exact (hl h2).2
    · rw [e j hjk]
      exact h.2.2 (hl h2).1 j hj
/-- a count goes up by one -/
theorem sp_further {o : Nat} {lf : Int32} {told : Nat → Int32} {c M : Nat} {post : Int32 → (Nat → Int32) → Prop} (h : PI o lf told) (hc : (c = 0 ∧ (M : Int) = rhi o 0) ∨ (o = 0 ∧ c = 1 ∧ M = 6) ∨ (o = 0 ∧ c = 4 ∧ M = 4)) (hM : M ≤ 40) (h0 : told c = nI M → post (-1) told) (h1 : ∀ k told', k < M → told c = nI k → PI o lf told' → (∀ j, ¬ j = c → told' j = told j) → post (nI k) told') : q_m_further_0 told (nI c) (nI M) post := by
  have hc4 : c ≤ 4 := by omega
  have hv : iv 0 M (told c) := by
    rcases hc with ⟨rfl, e⟩ | ⟨ho, rfl, rfl⟩ | ⟨ho, rfl, rfl⟩
    · rw [e]; exact h.1
    · exact (h.2.1 ho).1
    · exact (h.2.1 ho).2
  refine ⟨vp_in_nI (by omega) (by omega), fun v1 e1 => ?_⟩
  rw [nI_clamp (by omega)] at e1 ⊢
  subst e1
  obtain ⟨k, hk, -, hkM, hk2⟩ := iv_nI hv (by omega)
  refine ⟨fun hne => ⟨vp_in_nI (by omega) (by omega), fun v2 e2 => ⟨vp_in_nI (by omega) (by omega), fun t1 e3 => ?_⟩⟩, fun he => h0 he⟩
  have hkM2 : k < M := by
    refine Nat.lt_of_le_of_ne (by omega) (fun he => hne ?_)
    rw [hk, he]
  rw [hk, nI_1] at e2
  rw [hk]
  have e : ∀ j, ¬ j = c → upd told c (nI (k + 1)) j = told j := fun j hj => by unfold upd; rw [if_neg hj]
  subst e2 e3
  refine h1 k _ hkM2 hk ?_ e
  have es : upd told c (nI (k + 1)) c = nI (k + 1) := by unfold upd; rw [if_pos rfl]
  have hn : iv 0 M (nI (k + 1)) := iv_ofN (by omega) (by omega) (by omega)
  refine ⟨?_, fun ho => ⟨?_, ?_⟩, fun hl j hj => ?_⟩
  · rcases hc with ⟨rfl, e4⟩ | ⟨ho, rfl, rfl⟩ | ⟨ho, rfl, rfl⟩
    · rw [es, ← e4]; exact hn
    · rw [e 0 (by omega)]; exact h.1
    · rw [e 0 (by omega)]; exact h.1
  · rcases hc with ⟨rfl, e4⟩ | ⟨_, rfl, rfl⟩ | ⟨_, rfl, rfl⟩
    · rw [e 1 (by omega)]; exact (h.2.1 ho).1
    · rw [es]; exact hn
    · rw [e 1 (by omega)]; exact (h.2.1 ho).1
  · rcases hc with ⟨rfl, e4⟩ | ⟨_, rfl, rfl⟩ | ⟨_, rfl, rfl⟩
    · rw [e 4 (by omega)]; exact (h.2.1 ho).2
    · rw [e 4 (by omega)]; exact (h.2.1 ho).2
    · rw [es]; exact hn
  · by_cases hjc : j = c
    · subst hjc
      rw [es]
      rcases hc with ⟨rfl, e4⟩ | ⟨ho, rfl, rfl⟩ | ⟨ho, rfl, rfl⟩
      · have e5 : rlo o 0 = 0 := by unfold rlo; split <;> rfl
        rw [e5, ← e4]; exact hn
      · subst ho; exact hn
      · subst ho; exact hn
    · rw [e j hjc]
      exact h.2.2 hl j hj
theorem sp_full {lf lp c M x : Int32} {told : Nat → Int32} {post : Int32 → Int32 → Prop} (hc : iv 0 4 c) (h : ∀ lf' lp', (lf' = 0 → lf = 0) → post lf' lp') : q_m_full_0 lf lp told c M x post :=
  ⟨iv_in hc (by decide), fun _ => h _ _ (fun h => h), fun _ => sp_later (by decide) (fun lf' lp' hl => h _ _ (fun h => absurd h hl))⟩
