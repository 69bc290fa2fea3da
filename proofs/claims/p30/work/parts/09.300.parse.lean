section
def mTk (n : Nat) (re : Int32) : Prop := ∃ r, r ≤ n ∧ re = nI r
def adv (re re' so' : Int32) : Prop := re.toInt ≤ re'.toInt ∧ (¬ so' = 0 → re.toInt < re'.toInt)
theorem adv_tr {a b c s t : Int32} (h1 : adv a b s) (h2 : adv b c t) : adv a c t := ⟨Int.le_trans h1.1 h2.1, fun h => Int.lt_of_le_of_lt h1.1 (h2.2 h)⟩
theorem sp_seeE {tp : Nat → Int32} {r n : Nat} {post : Int32 → Prop} (hr : r ≤ n) (hn : n ≤ 600) (hE : r = n → post (-1)) (hN : r < n → post (tp r &&& 255)) : q_m_see_0 tp (nI r) (nI n) post := by
  refine ⟨fun h => hE ?_, fun h => ?_⟩
  · have := (nI_leI (by omega) (by omega)).mp h
    omega
  · have h1 : r < n := Nat.lt_of_not_le (fun h2 => h (nI_le h2 (by omega)))
    refine ⟨vp_in_nI (by omega) (by omega), ?_⟩
    rw [nI_clamp (by omega)]
    exact hN h1
theorem sp_tokenT {tp : Nat → Int32} {re be so va : Int32} {wd : Int64} {n : Nat} {post : Int32 → Int32 → Int32 → Int32 → Int64 → Prop} (hn : n ≤ 600) (hre : mTk n re) (h : ∀ re' be' so' va' wd', mTk n re' → adv re re' so' → post re' be' so' va' wd') : q_m_token_0 tp re (nI n) be so va wd post := by
  obtain ⟨r0, hr0, rfl⟩ := hre
  have hs : ∀ (r : Nat) (be' so' va' : Int32) (wd' : Int64), r0 < r → r ≤ n → post (nI r) be' so' va' wd' := by
    intro r be' so' va' wd' h1 h2
    refine h _ _ _ _ _ ⟨r, h2, rfl⟩ ⟨?_, fun _ => ?_⟩
    · rw [nI_toInt (by omega), nI_toInt (by omega)]; omega
    · rw [nI_toInt (by omega), nI_toInt (by omega)]; omega
  have hz : ∀ (r : Nat) (be' va' : Int32) (wd' : Int64), r0 ≤ r → r ≤ n → post (nI r) be' 0 va' wd' := by
    intro r be' va' wd' h1 h2
    refine h _ _ _ _ _ ⟨r, h2, rfl⟩ ⟨?_, fun h => absurd rfl h⟩
    rw [nI_toInt (by omega), nI_toInt (by omega)]; omega
  intro P hP
  have loop : ∀ (m r : Nat), m + r = n → r0 ≤ r → P (nI r) := by
    intro m
    induction m with
    | zero =>
      intro r hr h0
      apply hP
      have ab : ∀ {Q : Prop}, r < n → Q := fun h => absurd h (by omega)
      refine sp_seeE (by omega) hn (fun _ => ⟨fun h => absurd h (by decide), fun _ => ?_⟩) ab
      refine sp_seeE (by omega) hn (fun _ => ⟨fun _ => ?_, fun h => absurd h (by decide)⟩) ab
      exact sp_seeE (by omega) hn (fun _ => ⟨fun h => absurd h (by decide), fun _ => hz r _ _ _ h0 (by omega)⟩) ab
    | succ m ih =>
      intro r hr h0
      apply hP
      have ab : ∀ {Q : Prop}, r = n → Q := fun h => absurd h (by omega)
      have k18 : q_m_token_18 P tp (nI r) (nI n) be so va wd post := by
        intro v1 e1
        rw [e1, nI_1]
        exact ih (r + 1) (by omega) (by omega)
      refine sp_seeE (by omega) hn ab (fun _ => ⟨fun _ => k18, fun _ => ?_⟩)
      refine sp_seeE (by omega) hn ab (fun _ => ⟨fun _ => ?_, fun _ => k18⟩)
      refine sp_seeE (by omega) hn ab (fun _ => ⟨fun _ => ?_, fun hneg => ?_⟩)
      · refine sp_in (fun _ => iz ?_) (fun w1 w2 => oi ?_)
        · refine sp_in (fun _ => iz (fun v1 e1 => ?_)) (fun d1 d2 => oi ?_)
          · rw [e1, nI_1]
            exact ⟨fun _ => hs (r + 1) _ _ _ _ (by omega) (by omega), fun _ => hs (r + 1) _ _ _ _ (by omega) (by omega)⟩
          · intro P2 hP2
            have loop2 : ∀ (q j : Nat) (x2 va : Int32), q + j = n → r0 < j → P2 x2 (nI j) va := by
              intro q
              induction q with
              | zero =>
                intro j x2 va hj h1
                apply hP2
                refine sp_seeE (by omega) hn (fun _ => sp_in (fun _ => iz ⟨fun _ => hs j _ _ _ _ h1 (by omega), fun _ => hs j _ _ _ _ h1 (by omega)⟩) (fun g1 _ => absurd g1 (by decide))) (fun h => absurd h (by omega))
              | succ q ih2 =>
                intro j x2 va hj h1
                apply hP2
                have k205 : ∀ y : Int32, q_m_token_205 P2 tp (nI j) (nI n) (nI r) so va 0 x2 y post := by
                  intro y v1 e1 v2 e2
                  rw [e1, nI_1]
                  exact ih2 (j + 1) v2 y (by omega) (by omega)
                refine sp_seeE (by omega) hn (fun h => absurd h (by omega)) (fun _ => sp_in (fun _ => iz ⟨fun _ => hs j _ _ _ _ h1 (by omega), fun _ => hs j _ _ _ _ h1 (by omega)⟩) (fun _ _ => oi ⟨fun _ => k205 _, fun _ => ?_⟩))
                exact sp_seeE (by omega) hn (fun h => absurd h (by omega)) (fun _ => k205 _)
            apply hP2
            have k205 : ∀ y : Int32, q_m_token_205 P2 tp (nI r) (nI n) (nI r) so 0 0 0 y post := by
              intro y v1 e1 v2 e2
              rw [e1, nI_1]
              exact loop2 m (r + 1) v2 y (by omega) (by omega)
            refine sp_seeE (by omega) hn ab (fun _ => sp_in (fun h => absurd ⟨d1, d2⟩ h) (fun _ _ => oi ⟨fun _ => k205 _, fun _ => ?_⟩))
            exact sp_seeE (by omega) hn ab (fun _ => k205 _)
        · intro P2 hP2
          have loop2 : ∀ (q j : Nat) (x2 : Int32) (wd : Int64), q + j = n → r0 < j → P2 x2 (nI j) wd := by
            intro q
            induction q with
            | zero =>
              intro j x2 wd hj h1
              apply hP2
              refine sp_seeE (by omega) hn (fun _ => sp_in (fun _ => iz ⟨fun _ => hs j _ _ _ _ h1 (by omega), fun _ => hs j _ _ _ _ h1 (by omega)⟩) (fun g1 _ => absurd g1 (by decide))) (fun h => absurd h (by omega))
            | succ q ih2 =>
              intro j x2 wd hj h1
              apply hP2
              refine sp_seeE (by omega) hn (fun h => absurd h (by omega)) (fun _ => sp_in (fun _ => iz ⟨fun _ => hs j _ _ _ _ h1 (by omega), fun _ => hs j _ _ _ _ h1 (by omega)⟩) (fun _ _ => oi ?_))
              refine sp_seeE (by omega) hn (fun h => absurd h (by omega)) (fun _ v1 e1 v2 e2 v3 e3 => ?_)
              rw [e2, nI_1]
              exact ih2 (j + 1) v3 v1 (by omega) (by omega)
          apply hP2
          refine sp_seeE (by omega) hn ab (fun _ => sp_in (fun h => absurd ⟨w1, w2⟩ h) (fun _ _ => oi ?_))
          refine sp_seeE (by omega) hn ab (fun _ v1 e1 v2 e2 v3 e3 => ?_)
          rw [e2, nI_1]
          exact loop2 m (r + 1) v3 v1 (by omega) (by omega)
      · have h255 : iv 0 255 (tp r &&& 255) := iv_andr (iv_lit (l := 255) (h := 255) (by decide)) (by decide)
        have e0 : (0 : Int32).toInt = 0 := rfl
        exact absurd (Int32.le_iff_toInt_le.mpr (by rw [e0]; exact h255.1)) hneg
  exact loop (n - r0) r0 (by omega) (Nat.le_refl _)
theorem sp_later {lf lp f pl : Int32} {post : Int32 → Int32 → Prop} (hf : ¬ f = 0) (h : ∀ lf' lp', ¬ lf' = 0 → post lf' lp') : q_m_later_0 lf lp f pl post :=
  ⟨fun _ => h _ _ hf, fun h1 => ⟨fun _ => h _ _ hf, fun _ => ⟨fun _ => h _ _ h1, fun _ => ⟨fun _ => h _ _ h1, fun _ => h _ _ hf⟩⟩⟩⟩
theorem sp_takeBut {tp rd : Nat → Int32} {re be so va wr lf lp gd k lo hi but : Int32} {wd : Int64} {n : Nat} {post : Int32 → Int32 → Int32 → Int32 → Int32 → Int64 → Int32 → Int32 → Int32 → (Nat → Int32) → Int32 → Prop} (hn : n ≤ 600) (hre : mTk n re) (hk : iv 0 2 k)
    (h0 : ∀ re be so va wd wr lf lp rd gd, post 0 re be so va wd wr lf lp rd gd)
    (h1 : ∀ re' be' so' va' wd' wr' lf' lp' gd' v, mTk n re' → adv re re' so' → (lf' = 0 → lf = 0 ∧ lo ≤ v ∧ v ≤ hi) → (¬ gd' = 0 → ¬ gd = 0 ∧ lo ≤ v ∧ v ≤ hi) → post 1 re' be' so' va' wd' wr' lf' lp' (upd rd (Int32.toNatClampNeg k) v) gd') : q_m_takeBut_0 tp re (nI n) be so va wd wr lf lp rd gd k lo hi but post := by
  refine ⟨fun _ => ⟨iv_in hk (by decide), fun rd1 e1 => ?_⟩, fun _ => ⟨rfl, h0 _ _ _ _ _ _ _ _ _ _⟩⟩
  subst e1
  have bad : q_m_takeBut_44 tp re (nI n) be so va wd wr lf lp (upd rd (Int32.toNatClampNeg k) va) gd post := sp_later (by decide) (fun lf' lp' hl => sp_tokenT hn hre (fun re' be' so' va' wd' g1 g2 => h1 _ _ _ _ _ _ _ _ _ _ g1 g2 (fun h => absurd h hl) (fun h => absurd rfl h)))
  refine sp_in (fun _ => iz bad) (fun g1 g2 => oi ⟨fun _ => ?_, fun _ => bad⟩)
  exact sp_tokenT hn hre (fun re' be' so' va' wd' k1 k2 => h1 _ _ _ _ _ _ _ _ _ _ k1 k2 (fun h => ⟨h, g1, g2⟩) (fun h => ⟨h, g1, g2⟩))
theorem sp_take {tp rd : Nat → Int32} {re be so va wr lf lp gd k lo hi : Int32} {wd : Int64} {n : Nat} {post : Int32 → Int32 → Int32 → Int32 → Int32 → Int64 → Int32 → Int32 → Int32 → (Nat → Int32) → Int32 → Prop} (hn : n ≤ 600) (hre : mTk n re) (hk : iv 0 2 k)
    (h0 : ∀ re be so va wd wr lf lp rd gd, post 0 re be so va wd wr lf lp rd gd)
    (h1 : ∀ re' be' so' va' wd' wr' lf' lp' gd' v, mTk n re' → adv re re' so' → (lf' = 0 → lf = 0 ∧ lo ≤ v ∧ v ≤ hi) → (¬ gd' = 0 → ¬ gd = 0 ∧ lo ≤ v ∧ v ≤ hi) → post 1 re' be' so' va' wd' wr' lf' lp' (upd rd (Int32.toNatClampNeg k) v) gd') : q_m_take_0 tp re (nI n) be so va wd wr lf lp rd gd k lo hi post :=
  sp_takeBut hn hre hk (fun _ _ _ _ _ _ _ _ _ _ => ⟨rfl, h0 _ _ _ _ _ _ _ _ _ _⟩) (fun _ _ _ _ _ _ _ _ _ _ a b c d => ⟨rfl, h1 _ _ _ _ _ _ _ _ _ _ a b c d⟩)
theorem sp_greater {a b : Int32} {post : Int32 → Prop} (h : ∀ r : Int32, a.toInt ≤ r.toInt → b.toInt ≤ r.toInt → post r) : q_m_greater_0 a b post := by
  refine ⟨fun g => ?_, fun g => ?_⟩
  · exact h _ (by first | exact r_le g | exact Int.le_refl _ | exact Int.le_of_lt (r_lt g)) (by first | exact r_le g | exact Int.le_refl _ | exact Int.le_of_lt (r_lt g))
  · exact h _ (by first | exact Int.le_of_lt (r_nle g) | exact r_nlt g | exact Int.le_refl _) (by first | exact Int.le_of_lt (r_nle g) | exact r_nlt g | exact Int.le_refl _)
theorem sp_takeHut {tp rd : Nat → Int32} {re be so va wr lf lp fh gd k but : Int32} {wd : Int64} {n : Nat} {post : Int32 → Int32 → Int32 → Int32 → Int32 → Int64 → Int32 → Int32 → Int32 → (Nat → Int32) → Int32 → Int32 → Prop} (hn : n ≤ 600) (hre : mTk n re) (hk : iv 0 2 k)
    (h0 : ∀ re be so va wd wr lf lp rd fh gd, post 0 re be so va wd wr lf lp rd fh gd)
    (h1 : ∀ re' be' so' va' wd' wr' lf' lp' fh' gd' v, mTk n re' → adv re re' so' → (lf' = 0 → lf = 0 ∧ 0 ≤ v ∧ v ≤ 8) → (¬ gd' = 0 → ¬ gd = 0 ∧ 0 ≤ v ∧ v ≤ 8) → fh.toInt ≤ fh'.toInt → v.toInt ≤ fh'.toInt → post 1 re' be' so' va' wd' wr' lf' lp' (upd rd (Int32.toNatClampNeg k) v) fh' gd') : q_m_takeHut_0 tp re (nI n) be so va wd wr lf lp rd fh gd k but post := by
  refine sp_takeBut hn hre hk (fun _ _ _ _ _ _ _ _ _ _ => zi (h0 _ _ _ _ _ _ _ _ _ _ _)) (fun re' be' so' va' wd' wr' lf' lp' gd' v g1 g2 g3 g4 => io ⟨iv_in hk (by decide), sp_greater (fun r k1 k2 => ?_)⟩)
  have e : upd rd (Int32.toNatClampNeg k) v (Int32.toNatClampNeg k) = v := by unfold upd; rw [if_pos rfl]
  rw [e] at k2
  exact h1 _ _ _ _ _ _ _ _ _ _ _ g1 g2 g3 g4 k1 k2
/-- the ranges of a text's row, by its sort -/
def rhi (o j : Nat) : Int := if o = 0 then mRh j else if o = 1 then (if j = 0 then 40 else if j ≤ 120 then (if (j - 1) % 3 = 2 then 8 else 5) else 0) else if o = 2 then (if j = 0 then 10 else if j ≤ 30 then (if (j - 1) % 3 = 0 then 1 else if (j - 1) % 3 = 1 then 8 else 60) else 0) else (if j = 0 then 9 else if j ≤ 18 then (if (j - 1) % 2 = 0 then 3 else 9) else if j = 19 then 9 else 0)
def rlo (o j : Nat) : Int := if o = 1 then (if j = 0 then 0 else if j ≤ 120 then (if (j - 1) % 3 = 2 then -1 else 0) else 0) else 0
def PI (o : Nat) (lf : Int32) (told : Nat → Int32) : Prop := iv 0 (rhi o 0) (told 0) ∧ (o = 0 → iv 0 6 (told 1) ∧ iv 0 4 (told 4)) ∧ (lf = 0 → ∀ j, j < 132 → iv (rlo o j) (rhi o j) (told j))
theorem PI_lf {o : Nat} {lf lf' : Int32} {told : Nat → Int32} (h : PI o lf told) (hl : lf' = 0 → lf = 0) : PI o lf' told := ⟨h.1, h.2.1, fun h2 => h.2.2 (hl h2)⟩
theorem PI_upd {o : Nat} {lf lf' : Int32} {told : Nat → Int32} {k : Nat} {v : Int32} (h : PI o lf told) (hl : lf' = 0 → lf = 0 ∧ iv (rlo o k) (rhi o k) v) (h0 : ¬ k = 0) (h1 : o = 0 → ¬ k = 1 ∧ ¬ k = 4) : PI o lf' (upd told k v) := by
  have e : ∀ j, ¬ j = k → upd told k v j = told j := fun j hj => by unfold upd; rw [if_neg hj]
  refine ⟨by rw [e 0 (fun h => h0 h.symm)]; exact h.1, fun ho => ?_, fun h2 j hj => ?_⟩
  · rw [e 1 (fun h => (h1 ho).1 h.symm), e 4 (fun h => (h1 ho).2 h.symm)]
    exact h.2.1 ho
  · by_cases hjk : j = k
    · subst hjk
      have e2 : upd told j v j = v := by unfold upd; rw [if_pos rfl]
      rw [e2]
      exact (hl h2).2
    · rw [e j hjk]
      exact h.2.2 (hl h2).1 j hj
/-- a count goes up by one -/
theorem sp_further {o : Nat} {lf : Int32} {told : Nat → Int32} {c M : Nat} {post : Int32 → (Nat → Int32) → Prop} (h : PI o lf told) (hc : (c = 0 ∧ (M : Int) = rhi o 0) ∨ (o = 0 ∧ c = 1 ∧ M = 6) ∨ (o = 0 ∧ c = 4 ∧ M = 4)) (hM : M ≤ 40) (h0 : told c = nI M → post (-1) told) (h1 : ∀ k told', k < M → told c = nI k → PI o lf told' → (∀ j, ¬ j = c → told' j = told j) → post (nI k) told') : q_m_further_0 told (nI c) (nI M) post := by
  have hc4 : c ≤ 4 := by omega
  have hv : iv 0 M (told c) := by
    rcases hc with ⟨rfl, e⟩ | ⟨ho, rfl, rfl⟩ | ⟨ho, rfl, rfl⟩
    · rw [e]; exact h.1
    · exact (h.2.1 ho).1
    · exact (h.2.1 ho).2
  refine ⟨vp_in_nI (by omega) (by omega), fun v1 e1 => ?_⟩
  rw [nI_clamp (by omega)] at e1 ⊢
  subst e1
  obtain ⟨k, hk, -, hkM, hk2⟩ := iv_nI hv (by omega)
  refine ⟨fun hne => ⟨vp_in_nI (by omega) (by omega), fun v2 e2 => ⟨vp_in_nI (by omega) (by omega), fun t1 e3 => ?_⟩⟩, fun he => h0 he⟩
  have hkM2 : k < M := by
    refine Nat.lt_of_le_of_ne (by omega) (fun he => hne ?_)
    rw [hk, he]
  rw [hk, nI_1] at e2
  rw [hk]
  have e : ∀ j, ¬ j = c → upd told c (nI (k + 1)) j = told j := fun j hj => by unfold upd; rw [if_neg hj]
  subst e2 e3
  refine h1 k _ hkM2 hk ?_ e
  have es : upd told c (nI (k + 1)) c = nI (k + 1) := by unfold upd; rw [if_pos rfl]
  have hn : iv 0 M (nI (k + 1)) := iv_ofN (by omega) (by omega) (by omega)
  refine ⟨?_, fun ho => ⟨?_, ?_⟩, fun hl j hj => ?_⟩
  · rcases hc with ⟨rfl, e4⟩ | ⟨ho, rfl, rfl⟩ | ⟨ho, rfl, rfl⟩
    · rw [es, ← e4]; exact hn
    · rw [e 0 (by omega)]; exact h.1
    · rw [e 0 (by omega)]; exact h.1
  · rcases hc with ⟨rfl, e4⟩ | ⟨_, rfl, rfl⟩ | ⟨_, rfl, rfl⟩
    · rw [e 1 (by omega)]; exact (h.2.1 ho).1
    · rw [es]; exact hn
    · rw [e 1 (by omega)]; exact (h.2.1 ho).1
  · rcases hc with ⟨rfl, e4⟩ | ⟨_, rfl, rfl⟩ | ⟨_, rfl, rfl⟩
    · rw [e 4 (by omega)]; exact (h.2.1 ho).2
    · rw [e 4 (by omega)]; exact (h.2.1 ho).2
    · rw [es]; exact hn
  · by_cases hjc : j = c
    · subst hjc
      rw [es]
      rcases hc with ⟨rfl, e4⟩ | ⟨ho, rfl, rfl⟩ | ⟨ho, rfl, rfl⟩
      · have e5 : rlo o 0 = 0 := by unfold rlo; split <;> rfl
        rw [e5, ← e4]; exact hn
      · subst ho; exact hn
      · subst ho; exact hn
    · rw [e j hjc]
      exact h.2.2 hl j hj
theorem sp_full {lf lp c M x : Int32} {told : Nat → Int32} {post : Int32 → Int32 → Prop} (hc : iv 0 4 c) (h : ∀ lf' lp', (lf' = 0 → lf = 0) → post lf' lp') : q_m_full_0 lf lp told c M x post :=
  ⟨iv_in hc (by decide), fun _ => h _ _ (fun h => h), fun _ => sp_later (by decide) (fun lf' lp' hl => h _ _ (fun h => absurd h hl))⟩
end
section
/-- what a line leaves: the text's row in its ranges, a singer's hut known -/
def LI (o : Nat) (lf fh : Int32) (told : Nat → Int32) : Prop := PI o lf told ∧ (o = 0 → lf = 0 → ¬ told 1 = 0 → 0 ≤ fh.toInt)
theorem LI_up {o : Nat} {lf lf' fh fh' : Int32} {told : Nat → Int32} (h : LI o lf fh told) (hl : lf' = 0 → lf = 0) (hf : fh.toInt ≤ fh'.toInt) : LI o lf' fh' told := ⟨PI_lf h.1 hl, fun ho h2 h3 => Int.le_trans (h.2 ho (hl h2) h3) hf⟩
theorem iv_of {l h : Int} {v a b : Int32} (ha : a.toInt = l) (hb : b.toInt = h) (h1 : a ≤ v) (h2 : v ≤ b) : iv l h v := ⟨by rw [← ha]; exact r_le h1, by rw [← hb]; exact r_le h2⟩
theorem LI_upd {lf lf' fh fh' : Int32} {told : Nat → Int32} {k : Nat} {v : Int32} (h : LI 0 lf fh told) (hl : lf' = 0 → lf = 0 ∧ iv 0 (mRh k) v) (h0 : ¬ k = 0) (h1 : ¬ k = 1) (h4 : ¬ k = 4) (hf : fh.toInt ≤ fh'.toInt) : LI 0 lf' fh' (upd told k v) := by
  refine ⟨PI_upd h.1 (fun h2 => hl h2) h0 (fun _ => ⟨h1, h4⟩), fun ho h2 h3 => ?_⟩
  have e : upd told k v 1 = told 1 := by unfold upd; rw [if_neg (fun h => h1 h.symm)]
  rw [e] at h3
  exact Int.le_trans (h.2 ho (hl h2).1 h3) hf
theorem up_s {f : Nat → Int32} {k : Nat} {v : Int32} : upd f k v k = v := by unfold upd; rw [if_pos rfl]
theorem up_n {f : Nat → Int32} {k j : Nat} {v : Int32} (h : ¬ j = k) : upd f k v j = f j := by unfold upd; rw [if_neg h]

theorem nI_nm1 {k : Nat} (hk : k < 2 ^ 31) : ¬ nI k = -1 := fun h => by
  have := congrArg Int32.toInt h
  rw [nI_toInt hk] at this
  have e : (-1 : Int32).toInt = -1 := rfl
  omega
theorem c_0 : Int32.toNatClampNeg 0 = 0 := rfl
theorem c_1 : Int32.toNatClampNeg 1 = 1 := rfl
theorem c_2 : Int32.toNatClampNeg 2 = 2 := rfl
theorem LI_fur {lf fh : Int32} {told told' : Nat → Int32} {c : Nat} (h : LI 0 lf fh told) (hp : PI 0 lf told') (ht : ∀ j, ¬ j = c → told' j = told j) (hc : ¬ c = 1) : LI 0 lf fh told' := ⟨hp, fun ho h2 h3 => h.2 ho h2 (by rw [← ht 1 (fun h => hc h.symm)]; exact h3)⟩
section PL
variable {tp rd told : Nat → Int32} {re be so va wr lf lp fh fs gd : Int32} {wd : Int64} {n : Nat}

theorem sp_hutLine {post : Int32 → Int32 → Int32 → Int32 → Int32 → Int64 → Int32 → Int32 → Int32 → (Nat → Int32) → (Nat → Int32) → Int32 → Prop} (hn : n ≤ 600) (hre : mTk n re) (hI : LI 0 lf fh told)
    (h0 : ∀ re be so va wd wr lf lp told rd gd, post 0 re be so va wd wr lf lp told rd   gd)
    (h1 : ∀ re' be so' va wd wr lf' lp told' rd gd, mTk n re' → adv re re' so' → LI 0 lf' fh told' → post 1 re' be so' va wd wr lf' lp told' rd   gd) : q_m_hutLine_0 tp re (nI n) be so va wd wr lf lp told rd   gd  post := by
  refine sp_take hn hre (iv_lit (by decide)) (fun _ _ _ _ _ _ _ _ _ _ => zi (h0 _ _ _ _ _ _ _ _ _ _ _)) (fun re' be' so' va' wd' wr' lf' lp' gd' v g1 g2 g3 g4 => io ?_)
  have hI2 := LI_up (lf' := lf') (fh' := fh) hI (fun h => (g3 h).1) (Int.le_refl _)
  refine sp_further (o := 0) (c := 0) (M := 9) hI2.1 (Or.inl ⟨rfl, rfl⟩) (by omega) (fun _ => ⟨fun _ => h1 _ _ _ _ _ _ _ _ _ _ _ g1 g2 hI2, fun h => absurd rfl h⟩) (fun k told' hk ht hp hs => ⟨fun h => absurd h (nI_nm1 (by omega)), fun _ v1 e1 => ?_⟩)
  rw [show (7 : Int32) + nI k = nI (7 + k) from nI_add 7 k]
  refine ⟨vp_in_nI (by omega) (by omega), fun t2 e2 => ?_⟩
  rw [nI_clamp (by omega)] at e2
  have ev : v1 = v := by rw [e1]; exact up_s
  subst ev e2
  refine h1 _ _ _ _ _ _ _ _ _ _ _ g1 g2 (LI_upd (LI_fur hI2 hp hs (by omega)) (fun h => ⟨h, ?_⟩) (by omega) (by omega) (by omega) (Int.le_refl _))
  have e9 : mRh (7 + k) = 99 := by
    unfold mRh
    (repeat rw [if_neg (by omega)])
    rw [if_pos (by omega)]
  rw [e9]
  exact iv_of rfl rfl (g3 h).2.1 (g3 h).2.2

theorem sp_plainLine {post : Int32 → Int32 → Int32 → Int32 → Int32 → Int64 → Int32 → Int32 → Int32 → (Nat → Int32) → (Nat → Int32) → Int32 → Prop} {k : Nat} {l0 : Int} (hl0 : 0 ≤ l0) {lo hi : Int32} (hk : ¬ k = 0 ∧ ¬ k = 1 ∧ ¬ k = 4 ∧ k < 132) (ha : lo.toInt = l0) (hb : hi.toInt = mRh k) (hn : n ≤ 600) (hre : mTk n re) (hI : LI 0 lf fh told)
    (h0 : ∀ re be so va wd wr lf lp told rd gd, post 0 re be so va wd wr lf lp told rd   gd)
    (h1 : ∀ re' be so' va wd wr lf' lp told' rd gd, mTk n re' → adv re re' so' → LI 0 lf' fh told' → post 1 re' be so' va wd wr lf' lp told' rd   gd) : q_m_plainLine_0 tp re (nI n) be so va wd wr lf lp told rd   gd (nI k) lo hi post := by
  refine sp_take hn hre (iv_lit (by decide)) (fun _ _ _ _ _ _ _ _ _ _ => zi (h0 _ _ _ _ _ _ _ _ _ _ _)) (fun re' be' so' va' wd' wr' lf' lp' gd' v g1 g2 g3 g4 => io (fun v1 e1 => ⟨vp_in_nI (by omega) (by omega), fun t2 e2 => ?_⟩))
  rw [nI_clamp (by omega)] at e2
  have ev : v1 = v := by rw [e1]; exact up_s
  subst ev e2
  exact h1 _ _ _ _ _ _ _ _ _ _ _ g1 g2 (LI_upd hI (fun h => ⟨(g3 h).1, iv_w (iv_of ha hb (g3 h).2.1 (g3 h).2.2) ⟨hl0, Int.le_refl _⟩⟩) hk.1 hk.2.1 hk.2.2.1 (Int.le_refl _))

theorem sp_bitLine {post : Int32 → Int32 → Int32 → Int32 → Int32 → Int64 → Int32 → Int32 → Int32 → (Nat → Int32) → (Nat → Int32) → Int32 → Int32 → Prop} {k : Nat} (hk : k = 2 ∨ k = 3) (hn : n ≤ 600) (hre : mTk n re) (hI : LI 0 lf fh told)
    (h0 : ∀ re be so va wd wr lf lp told rd fh gd, post 0 re be so va wd wr lf lp told rd fh  gd)
    (h1 : ∀ re' be so' va wd wr lf' lp told' rd fh' gd, mTk n re' → adv re re' so' → LI 0 lf' fh' told' → post 1 re' be so' va wd wr lf' lp told' rd fh'  gd) : q_m_bitLine_0 tp re (nI n) be so va wd wr lf lp told rd fh  gd (nI k) post := by
  refine sp_takeHut hn hre (iv_lit (by decide)) (fun _ _ _ _ _ _ _ _ _ _ _ => zi (h0 _ _ _ _ _ _ _ _ _ _ _ _)) (fun r1 b1 s1 v1' w1 wr1 lf1 lp1 fh1 gd1 v g1 g2 g3 g4 g5 g6 => io ?_)
  have c0 : upd rd (Int32.toNatClampNeg 0) v (Int32.toNatClampNeg 0) = v := up_s
  rw [nI_clamp (by omega), c0]
  have hm : mRh k = 511 := by rcases hk with rfl | rfl <;> rfl
  have fin_ : ∀ y : Int32, (lf1 = 0 → iv 0 511 y) → q_m_bitLine_37 tp r1 (nI n) b1 s1 v1' w1 wr1 lf1 lp1 told (upd rd (Int32.toNatClampNeg 0) v) fh1 gd1 (nI k) (told k) y post := by
    intro y hy z ez
    refine ⟨vp_in_nI (by omega) (by omega), fun t2 e2 => ?_⟩
    rw [nI_clamp (by omega)] at e2
    subst ez e2
    refine h1 _ _ _ _ _ _ _ _ _ _ _ _ g1 g2 (LI_upd hI (fun h => ⟨(g3 h).1, ?_⟩) (by omega) (by omega) (by omega) g5)
    have ho := hI.1.2.2 (g3 h).1 k (by omega)
    have ho2 : iv 0 511 (told k) := by
      have e : rhi 0 k = 511 := hm
      rw [e] at ho
      exact ho
    rw [hm]
    exact iv_or 9 ho2 (hy h) (by decide)
  refine ⟨vp_in_nI (by omega) (by omega), fun _ => fin_ 0 (fun _ => iv_lit (by decide)), fun _ => fin_ _ (fun h => ?_)⟩
  exact iv_w (iv_shl1 (l := 1) (h := 256) (iv_lit (l := 1) (h := 1) (by decide)) (iv_of (l := 0) (h := 8) rfl rfl (g3 h).2.1 (g3 h).2.2) (by decide)) (by decide)

theorem sp_wayLine {post : Int32 → Int32 → Int32 → Int32 → Int32 → Int64 → Int32 → Int32 → Int32 → (Nat → Int32) → (Nat → Int32) → Int32 → Int32 → Prop} (hn : n ≤ 600) (hre : mTk n re) (hI : LI 0 lf fh told)
    (h0 : ∀ re be so va wd wr lf lp told rd fh gd, post 0 re be so va wd wr lf lp told rd fh  gd)
    (h1 : ∀ re' be so' va wd wr lf' lp told' rd fh' gd, mTk n re' → adv re re' so' → LI 0 lf' fh' told' → post 1 re' be so' va wd wr lf' lp told' rd fh'  gd) : q_m_wayLine_0 tp re (nI n) be so va wd wr lf lp told rd fh  gd  post := by
  refine sp_takeHut hn hre (iv_lit (by decide)) (fun _ _ _ _ _ _ _ _ _ _ _ => iz (h0 _ _ _ _ _ _ _ _ _ _ _ _)) (fun r1 b1 s1 v1' w1 wr1 lf1 lp1 fh1 gd1 v g1 g2 g3 g4 g5 g6 => oi ?_)
  refine sp_takeHut hn g1 (iv_lit (by decide)) (fun _ _ _ _ _ _ _ _ _ _ _ => iz (h0 _ _ _ _ _ _ _ _ _ _ _ _)) (fun r2 b2 s2 v2' w2 wr2 lf2 lp2 fh2 gd2 w k1 k2 k3 k4 k5 k6 => oi ?_)
  refine sp_take hn k1 (iv_lit (by decide)) (fun _ _ _ _ _ _ _ _ _ _ => zi (h0 _ _ _ _ _ _ _ _ _ _ _ _)) (fun r3 b3 s3 v3' w3 wr3 lf3 lp3 gd3 u m1 m2 m3 m4 => io ?_)
  have hadv := adv_tr (adv_tr g2 k2) m2
  have hlf : lf3 = 0 → lf = 0 := fun h => (g3 ((k3 ((m3 h).1)).1)).1
  have hfh := Int.le_trans g5 k5
  have e0 : upd (upd (upd rd (Int32.toNatClampNeg 0) v) (Int32.toNatClampNeg 1) w) (Int32.toNatClampNeg 2) u (Int32.toNatClampNeg 0) = v := by rw [c_0, c_1, c_2, up_n (by omega), up_n (by omega), up_s]
  have e1 : upd (upd (upd rd (Int32.toNatClampNeg 0) v) (Int32.toNatClampNeg 1) w) (Int32.toNatClampNeg 2) u (Int32.toNatClampNeg 1) = w := by rw [c_0, c_1, c_2, up_n (by omega), up_s]
  have e2 : upd (upd (upd rd (Int32.toNatClampNeg 0) v) (Int32.toNatClampNeg 1) w) (Int32.toNatClampNeg 2) u (Int32.toNatClampNeg 2) = u := up_s
  rw [e0, e1, e2]
  refine ⟨fun _ => h1 _ _ _ _ _ _ _ _ _ _ _ _ m1 hadv (LI_up hI hlf hfh), fun hg x1 ex1 => ?_⟩
  have hv := (g4 ((k4 ((m4 hg).1)).1)).2
  have hw := (k4 ((m4 hg).1)).2
  have hu := (m4 hg).2
  obtain ⟨a, rfl, -, ha, -⟩ := iv_nI (iv_of (l := 0) (h := 8) rfl rfl hv.1 hv.2) (by omega)
  obtain ⟨b, rfl, -, hb, -⟩ := iv_nI (iv_of (l := 0) (h := 8) rfl rfl hw.1 hw.2) (by omega)
  have mw : ∀ a b : Nat, a ≤ 8 → b ≤ 8 → mRh (51 + 9 * a + b) = 9 := by
    intro a b ha hb
    unfold mRh
    (repeat rw [if_neg (by omega)])
  have ix : ∀ a b : Nat, (51 : Int32) + (9 : Int32) * nI a + nI b = nI (51 + 9 * a + b) := by
    intro a b
    have e51 : (51 : Int32) = nI 51 := rfl
    have e9 : (9 : Int32) = nI 9 := rfl
    rw [e51, e9, pk_mul, nI_add, nI_add]
  rw [ix, ix]
  have hu9 : iv 0 9 u := iv_w (iv_of (l := 1) (h := 9) rfl rfl hu.1 hu.2) (by decide)
  refine ⟨vp_in_nI (by omega) (by omega), fun t1 et1 x2 ex2 => ⟨vp_in_nI (by omega) (by omega), fun t2 et2 => ?_⟩⟩
  rw [nI_clamp (by omega)] at et1 et2
  subst ex1 ex2 et1 et2
  refine h1 _ _ _ _ _ _ _ _ _ _ _ _ m1 hadv (LI_upd (lf := lf3) (fh := fh2) (LI_upd hI (fun h => ⟨hlf h, ?_⟩) (by omega) (by omega) (by omega) hfh) (fun h => ⟨h, ?_⟩) (by omega) (by omega) (by omega) (Int.le_refl _))
  · rw [mw a b (by omega) (by omega)]; exact hu9
  · rw [mw b a (by omega) (by omega)]; exact hu9

theorem sp_echoLine {post : Int32 → Int32 → Int32 → Int32 → Int32 → Int64 → Int32 → Int32 → Int32 → (Nat → Int32) → (Nat → Int32) → Int32 → Int32 → Prop} (hn : n ≤ 600) (hre : mTk n re) (hI : LI 0 lf fh told)
    (h0 : ∀ re be so va wd wr lf lp told rd fh gd, post 0 re be so va wd wr lf lp told rd fh  gd)
    (h1 : ∀ re' be so' va wd wr lf' lp told' rd fh' gd, mTk n re' → adv re re' so' → LI 0 lf' fh' told' → post 1 re' be so' va wd wr lf' lp told' rd fh'  gd) : q_m_echoLine_0 tp re (nI n) be so va wd wr lf lp told rd fh  gd  post := by
  refine sp_takeHut hn hre (iv_lit (by decide)) (fun _ _ _ _ _ _ _ _ _ _ _ => iz (h0 _ _ _ _ _ _ _ _ _ _ _ _)) (fun r1 b1 s1 v1' w1 wr1 lf1 lp1 fh1 gd1 v g1 g2 g3 g4 g5 g6 => oi ?_)
  refine sp_takeHut hn g1 (iv_lit (by decide)) (fun _ _ _ _ _ _ _ _ _ _ _ => zi (h0 _ _ _ _ _ _ _ _ _ _ _ _)) (fun r2 b2 s2 v2' w2 wr2 lf2 lp2 fh2 gd2 w k1 k2 k3 k4 k5 k6 => io ?_)
  have hadv := adv_tr g2 k2
  have hlf : lf2 = 0 → lf = 0 := fun h => (g3 ((k3 h).1)).1
  have hI2 := LI_up (lf' := lf2) (fh' := fh2) hI hlf (Int.le_trans g5 k5)
  refine sp_further (o := 0) (c := 4) (M := 4) hI2.1 (Or.inr (Or.inr ⟨rfl, rfl, rfl⟩)) (by omega) (fun _ => ⟨fun _ => h1 _ _ _ _ _ _ _ _ _ _ _ _ k1 hadv hI2, fun h => absurd rfl h⟩) (fun k told' hk ht hp hs => ⟨fun h => absurd h (nI_nm1 (by omega)), fun _ x1 ex1 => ?_⟩)
  have e0 : x1 = v := by rw [ex1, c_0, c_1, up_n (by omega), up_s]
  have i1 : (43 : Int32) + (2 : Int32) * nI k = nI (43 + 2 * k) := by
    have e43 : (43 : Int32) = nI 43 := rfl
    have e2 : (2 : Int32) = nI 2 := rfl
    rw [e43, e2, pk_mul, nI_add]
  rw [i1, nI_1]
  refine ⟨vp_in_nI (by omega) (by omega), fun t1 et1 x2 ex2 => ⟨vp_in_nI (by omega) (by omega), fun t2 et2 => ?_⟩⟩
  have e1 : x2 = w := by rw [ex2]; exact up_s
  rw [nI_clamp (by omega)] at et1 et2
  subst e0 e1 et1 et2
  have me : ∀ j, 43 ≤ j → j ≤ 50 → mRh j = 8 := by
    intro j h1 h2
    unfold mRh
    (repeat rw [if_neg (by omega)])
    rw [if_pos (by omega)]
  refine h1 _ _ _ _ _ _ _ _ _ _ _ _ k1 hadv (LI_upd (lf := lf2) (fh := fh2) (LI_upd (LI_fur hI2 hp hs (by omega)) (fun h => ⟨h, ?_⟩) (by omega) (by omega) (by omega) (Int.le_refl _)) (fun h => ⟨h, ?_⟩) (by omega) (by omega) (by omega) (Int.le_refl _))
  · rw [me _ (by omega) (by omega)]; exact iv_of rfl rfl (g3 ((k3 h).1)).2.1 (g3 ((k3 h).1)).2.2
  · rw [me _ (by omega) (by omega)]; exact iv_of rfl rfl (k3 h).2.1 (k3 h).2.2

theorem sp_ladderLine {post : Int32 → Int32 → Int32 → Int32 → Int32 → Int64 → Int32 → Int32 → Int32 → (Nat → Int32) → (Nat → Int32) → Int32 → Int32 → Prop} (hn : n ≤ 600) (hre : mTk n re) (hI : LI 0 lf fh told)
    (h0 : ∀ re be so va wd wr lf lp told rd fh gd, post 0 re be so va wd wr lf lp told rd fh  gd)
    (h1 : ∀ re' be so' va wd wr lf' lp told' rd fh' gd, mTk n re' → adv re re' so' → LI 0 lf' fh' told' → post 1 re' be so' va wd wr lf' lp told' rd fh'  gd) : q_m_ladderLine_0 tp re (nI n) be so va wd wr lf lp told rd fh  gd  post := by
  refine sp_takeHut hn hre (iv_lit (by decide)) (fun _ _ _ _ _ _ _ _ _ _ _ => iz (h0 _ _ _ _ _ _ _ _ _ _ _ _)) (fun r1 b1 s1 v1' w1 wr1 lf1 lp1 fh1 gd1 v g1 g2 g3 g4 g5 g6 => oi ?_)
  refine sp_take hn g1 (iv_lit (by decide)) (fun _ _ _ _ _ _ _ _ _ _ => zi (h0 _ _ _ _ _ _ _ _ _ _ _ _)) (fun r2 b2 s2 v2' w2 wr2 lf2 lp2 gd2 w k1 k2 k3 k4 => io ?_)
  have hadv := adv_tr g2 k2
  have hlf : lf2 = 0 → lf = 0 := fun h => (g3 ((k3 h).1)).1
  refine ⟨fun _ => h1 _ _ _ _ _ _ _ _ _ _ _ _ k1 hadv (LI_up hI hlf g5), fun hg x1 ex1 => ?_⟩
  have e0 : upd (upd rd (Int32.toNatClampNeg 0) v) (Int32.toNatClampNeg 1) w (Int32.toNatClampNeg 0) = v := by rw [c_0, c_1, up_n (by omega), up_s]
  have e1 : x1 = w := by rw [ex1]; exact up_s
  rw [e0]
  have hv := (g4 ((k4 hg).1)).2
  have hw := (k4 hg).2
  obtain ⟨a, rfl, -, ha, -⟩ := iv_nI (iv_of (l := 0) (h := 8) rfl rfl hv.1 hv.2) (by omega)
  rw [show (16 : Int32) + nI a = nI (16 + a) from nI_add 16 a]
  refine ⟨vp_in_nI (by omega) (by omega), fun t1 et1 => ?_⟩
  rw [nI_clamp (by omega)] at et1
  subst e1 et1
  refine h1 _ _ _ _ _ _ _ _ _ _ _ _ k1 hadv (LI_upd hI (fun h => ⟨hlf h, ?_⟩) (by omega) (by omega) (by omega) g5)
  have me : mRh (16 + a) = 9 := by
    unfold mRh
    (repeat rw [if_neg (by omega)])
    rw [if_pos (by omega)]
  rw [me]
  exact iv_of rfl rfl hw.1 hw.2

theorem sp_singerLine {post : Int32 → Int32 → Int32 → Int32 → Int32 → Int64 → Int32 → Int32 → Int32 → (Nat → Int32) → (Nat → Int32) → Int32 → Int32 → Prop} (hn : n ≤ 600) (hre : mTk n re) (hI : LI 0 lf fh told)
    (h0 : ∀ re be so va wd wr lf lp told rd fh gd, post 0 re be so va wd wr lf lp told rd fh  gd)
    (h1 : ∀ re' be so' va wd wr lf' lp told' rd fh' gd, mTk n re' → adv re re' so' → LI 0 lf' fh' told' → post 1 re' be so' va wd wr lf' lp told' rd fh'  gd) : q_m_singerLine_0 tp re (nI n) be so va wd wr lf lp told rd fh  gd  post := by
  refine sp_takeHut hn hre (iv_lit (by decide)) (fun _ _ _ _ _ _ _ _ _ _ _ => iz (h0 _ _ _ _ _ _ _ _ _ _ _ _)) (fun r1 b1 s1 v1' w1 wr1 lf1 lp1 fh1 gd1 v g1 g2 g3 g4 g5 g6 => oi ?_)
  refine sp_take hn g1 (iv_lit (by decide)) (fun _ _ _ _ _ _ _ _ _ _ => zi (h0 _ _ _ _ _ _ _ _ _ _ _ _)) (fun r2 b2 s2 v2' w2 wr2 lf2 lp2 gd2 w k1 k2 k3 k4 => io ?_)
  have hadv := adv_tr g2 k2
  have hlf : lf2 = 0 → lf = 0 := fun h => (g3 ((k3 h).1)).1
  have hI2 := LI_up (lf' := lf2) (fh' := fh1) hI hlf g5
  refine sp_further (o := 0) (c := 1) (M := 6) hI2.1 (Or.inr (Or.inl ⟨rfl, rfl, rfl⟩)) (by omega) (fun _ => ⟨fun _ => h1 _ _ _ _ _ _ _ _ _ _ _ _ k1 hadv hI2, fun h => absurd rfl h⟩) (fun k told' hk ht hp hs => ⟨fun h => absurd h (nI_nm1 (by omega)), fun _ x1 ex1 => ?_⟩)
  have e0 : x1 = v := by rw [ex1, c_0, c_1, up_n (by omega), up_s]
  rw [show (25 : Int32) + nI k = nI (25 + k) from nI_add 25 k, show (31 : Int32) + nI k = nI (31 + k) from nI_add 31 k]
  refine ⟨vp_in_nI (by omega) (by omega), fun t1 et1 x2 ex2 => ⟨vp_in_nI (by omega) (by omega), fun t2 et2 => ?_⟩⟩
  have e1 : x2 = w := by rw [ex2]; exact up_s
  rw [nI_clamp (by omega)] at et1 et2
  subst e0 e1 et1 et2
  have me : mRh (25 + k) = 8 := by
    unfold mRh
    (repeat rw [if_neg (by omega)])
    rw [if_pos (by omega)]
  have mf : mRh (31 + k) = 9 := by
    unfold mRh
    (repeat rw [if_neg (by omega)])
    rw [if_pos (by omega)]
  have hL : LI 0 lf2 fh1 told' := ⟨hp, fun _ h2 _ => Int.le_trans (r_le (g3 ((k3 h2).1)).2.1) g6⟩
  refine h1 _ _ _ _ _ _ _ _ _ _ _ _ k1 hadv (LI_upd (lf := lf2) (fh := fh1) (LI_upd hL (fun h => ⟨h, ?_⟩) (by omega) (by omega) (by omega) (Int.le_refl _)) (fun h => ⟨h, ?_⟩) (by omega) (by omega) (by omega) (Int.le_refl _))
  · rw [me]; exact iv_of rfl rfl (g3 ((k3 h).1)).2.1 (g3 ((k3 h).1)).2.2
  · rw [mf]; exact iv_of rfl rfl (k3 h).2.1 (k3 h).2.2

theorem sp_knowsLine {post : Int32 → Int32 → Int32 → Int32 → Int32 → Int64 → Int32 → Int32 → Int32 → (Nat → Int32) → (Nat → Int32) → Int32 → Int32 → Prop} (hn : n ≤ 600) (hre : mTk n re) (hI : LI 0 lf fh told)
    (h0 : ∀ re be so va wd wr lf lp told rd fs gd, post 0 re be so va wd wr lf lp told rd  fs gd)
    (h1 : ∀ re' be so' va wd wr lf' lp told' rd fs gd, mTk n re' → adv re re' so' → LI 0 lf' fh told' → post 1 re' be so' va wd wr lf' lp told' rd  fs gd) : q_m_knowsLine_0 tp re (nI n) be so va wd wr lf lp told rd  fs gd  post := by
  refine sp_take hn hre (iv_lit (by decide)) (fun _ _ _ _ _ _ _ _ _ _ => iz (h0 _ _ _ _ _ _ _ _ _ _ _ _)) (fun r1 b1 s1 v1' w1 wr1 lf1 lp1 gd1 v g1 g2 g3 g4 => oi ?_)
  refine sp_take hn g1 (iv_lit (by decide)) (fun _ _ _ _ _ _ _ _ _ _ => zi (h0 _ _ _ _ _ _ _ _ _ _ _ _)) (fun r2 b2 s2 v2' w2 wr2 lf2 lp2 gd2 w k1 k2 k3 k4 => io ?_)
  have hadv := adv_tr g2 k2
  have hlf : lf2 = 0 → lf = 0 := fun h => (g3 ((k3 h).1)).1
  have e0 : upd (upd rd (Int32.toNatClampNeg 0) v) (Int32.toNatClampNeg 1) w (Int32.toNatClampNeg 0) = v := by rw [c_0, c_1, up_n (by omega), up_s]
  have e1 : upd (upd rd (Int32.toNatClampNeg 0) v) (Int32.toNatClampNeg 1) w (Int32.toNatClampNeg 1) = w := up_s
  rw [e0, e1]
  refine sp_greater (fun r3 _ _ => ⟨fun _ => h1 _ _ _ _ _ _ _ _ _ _ _ _ k1 hadv (LI_up hI hlf (Int.le_refl _)), fun hg => ?_⟩)
  have hv := (g4 ((k4 hg).1)).2
  have hw := (k4 hg).2
  obtain ⟨a, rfl, -, ha, -⟩ := iv_nI (iv_of (l := 0) (h := 5) rfl rfl hv.1 hv.2) (by omega)
  rw [show (37 : Int32) + nI a = nI (37 + a) from nI_add 37 a]
  refine ⟨vp_in_nI (by omega) (by omega), fun x1 ex1 => ⟨vp_in_nI (by omega) (by omega), fun t1 et1 => ?_⟩⟩
  rw [nI_clamp (by omega)] at et1 ex1
  subst ex1 et1
  have me : mRh (37 + a) = 31 := by
    unfold mRh
    (repeat rw [if_neg (by omega)])
    rw [if_pos (by omega)]
  refine h1 _ _ _ _ _ _ _ _ _ _ _ _ k1 hadv (LI_upd hI (fun h => ⟨hlf h, ?_⟩) (by omega) (by omega) (by omega) (Int.le_refl _))
  rw [me]
  have ho := hI.1.2.2 (hlf h) (37 + a) (by omega)
  have e : rhi 0 (37 + a) = 31 := me
  have e8 : rlo 0 (37 + a) = 0 := rfl
  rw [e, e8] at ho
  exact iv_or 5 ho (iv_shl1 (l := 1) (h := 16) (iv_lit (l := 1) (h := 1) (by decide)) (iv_of (l := 0) (h := 4) rfl rfl hw.1 hw.2) (by decide)) (by decide)

end PL
end
section
theorem sp_isLandWord {w : Int64} {post : Int32 → Prop} (h0 : post 0) (h1 : post 1) : q_m_isLandWord_0 w post := by
  unfold q_m_isLandWord_0 q_m_isLandWord_80
  exact ⟨fun _ => h1, fun _ => ⟨fun _ => h1, fun _ => ⟨fun _ => h1, fun _ => ⟨fun _ => h1, fun _ => ⟨fun _ => h1, fun _ => ⟨fun _ => h1, fun _ => ⟨fun _ => h1, fun _ => ⟨fun _ => h1, fun _ => ⟨fun _ => h1, fun _ => ⟨fun _ => h0, fun _ => h1⟩⟩⟩⟩⟩⟩⟩⟩⟩⟩
theorem sp_deedBy {w : Int64} {post : Int32 → Prop} (hm : post (-1)) (h : ∀ d, d ≤ 5 → post (nI d)) : q_m_deedBy_0 w post :=
  ⟨fun _ => ⟨fun _ => ⟨fun _ => ⟨fun _ => ⟨fun _ => ⟨fun _ => hm, fun _ => h 5 (by omega)⟩, fun _ => h 4 (by omega)⟩, fun _ => h 3 (by omega)⟩, fun _ => h 2 (by omega)⟩, fun _ => h 1 (by omega)⟩, fun _ => h 0 (by omega)⟩
section PM
variable {tp rd told : Nat → Int32} {re be so va wr lf lp fh fs gd x : Int32} {wd w : Int64} {n : Nat}
theorem sp_landLine {post : Int32 → Int32 → Int32 → Int32 → Int32 → Int64 → Int32 → Int32 → Int32 → (Nat → Int32) → (Nat → Int32) → Int32 → Int32 → Int32 → Prop} (hn : n ≤ 600) (hre : mTk n re) (hI : LI 0 lf fh told)
    (h0 : ∀ re be so va wd wr lf lp told rd fh fs gd, post 0 re be so va wd wr lf lp told rd fh fs gd)
    (h1 : ∀ re' be so' va wd wr lf' lp told' rd fh' fs gd, mTk n re' → adv re re' so' → LI 0 lf' fh' told' → post 1 re' be so' va wd wr lf' lp told' rd fh' fs gd) : q_m_landLine_0 tp re (nI n) be so va wd wr lf lp told rd fh fs gd w x post := by
  have k60 : ∀ lf' lp', (lf' = 0 → lf = 0) → q_m_landLine_60 tp re (nI n) be so va wd wr lf' lp' told rd fh fs gd w post := by
    intro lf' lp' hl
    have hI2 : LI 0 lf' fh told := LI_up hI hl (Int.le_refl _)
    refine sp_tokenT hn hre (fun re1 be1 so1 va1 wd1 g1 g2 => ?_)
    have k93 : q_m_landLine_93 tp re1 (nI n) be1 so1 va1 wd1 wr lf' lp' told rd fh fs gd w post := ⟨fun _ => sp_bitLine (k := 3) (Or.inr rfl) hn g1 hI2 (fun _ _ _ _ _ _ _ _ _ _ _ _ => ⟨rfl, h0 _ _ _ _ _ _ _ _ _ _ _ _ _⟩) (fun _ _ _ _ _ _ _ _ _ _ _ _ a b c => ⟨rfl, h1 _ _ _ _ _ _ _ _ _ _ _ _ _ a (adv_tr g2 b) c⟩), fun _ => sp_bitLine (k := 2) (Or.inl rfl) hn g1 hI2 (fun _ _ _ _ _ _ _ _ _ _ _ _ => ⟨rfl, h0 _ _ _ _ _ _ _ _ _ _ _ _ _⟩) (fun _ _ _ _ _ _ _ _ _ _ _ _ a b c => ⟨rfl, h1 _ _ _ _ _ _ _ _ _ _ _ _ _ a (adv_tr g2 b) c⟩)⟩
    refine ⟨fun _ => ⟨fun _ => k93, fun _ => ⟨fun _ => ⟨fun _ => ⟨fun _ => ⟨fun _ => ⟨fun _ => ⟨fun _ => ⟨fun _ => ?_, fun _ => ?_⟩, fun _ => ?_⟩, fun _ => ?_⟩, fun _ => ?_⟩, fun _ => ?_⟩, fun _ => ?_⟩, fun _ => k93⟩⟩, fun _ => ?_⟩
    · exact sp_knowsLine hn g1 hI2 (fun _ _ _ _ _ _ _ _ _ _ _ _ => ⟨rfl, h0 _ _ _ _ _ _ _ _ _ _ _ _ _⟩) (fun _ _ _ _ _ _ _ _ _ _ _ _ a b c => ⟨rfl, h1 _ _ _ _ _ _ _ _ _ _ _ _ _ a (adv_tr g2 b) c⟩)
    · exact sp_singerLine hn g1 hI2 (fun _ _ _ _ _ _ _ _ _ _ _ _ => ⟨rfl, h0 _ _ _ _ _ _ _ _ _ _ _ _ _⟩) (fun _ _ _ _ _ _ _ _ _ _ _ _ a b c => ⟨rfl, h1 _ _ _ _ _ _ _ _ _ _ _ _ _ a (adv_tr g2 b) c⟩)
    · exact sp_ladderLine hn g1 hI2 (fun _ _ _ _ _ _ _ _ _ _ _ _ => ⟨rfl, h0 _ _ _ _ _ _ _ _ _ _ _ _ _⟩) (fun _ _ _ _ _ _ _ _ _ _ _ _ a b c => ⟨rfl, h1 _ _ _ _ _ _ _ _ _ _ _ _ _ a (adv_tr g2 b) c⟩)
    · exact sp_echoLine hn g1 hI2 (fun _ _ _ _ _ _ _ _ _ _ _ _ => ⟨rfl, h0 _ _ _ _ _ _ _ _ _ _ _ _ _⟩) (fun _ _ _ _ _ _ _ _ _ _ _ _ a b c => ⟨rfl, h1 _ _ _ _ _ _ _ _ _ _ _ _ _ a (adv_tr g2 b) c⟩)
    · exact sp_wayLine hn g1 hI2 (fun _ _ _ _ _ _ _ _ _ _ _ _ => ⟨rfl, h0 _ _ _ _ _ _ _ _ _ _ _ _ _⟩) (fun _ _ _ _ _ _ _ _ _ _ _ _ a b c => ⟨rfl, h1 _ _ _ _ _ _ _ _ _ _ _ _ _ a (adv_tr g2 b) c⟩)
    · exact sp_plainLine (k := 6) (l0 := 0) (by decide) (by decide) rfl rfl hn g1 hI2 (fun _ _ _ _ _ _ _ _ _ _ _ => ⟨rfl, h0 _ _ _ _ _ _ _ _ _ _ _ _ _⟩) (fun _ _ _ _ _ _ _ _ _ _ _ a b c => ⟨rfl, h1 _ _ _ _ _ _ _ _ _ _ _ _ _ a (adv_tr g2 b) c⟩)
    · exact sp_plainLine (k := 5) (l0 := 1) (by decide) (by decide) rfl rfl hn g1 hI2 (fun _ _ _ _ _ _ _ _ _ _ _ => ⟨rfl, h0 _ _ _ _ _ _ _ _ _ _ _ _ _⟩) (fun _ _ _ _ _ _ _ _ _ _ _ a b c => ⟨rfl, h1 _ _ _ _ _ _ _ _ _ _ _ _ _ a (adv_tr g2 b) c⟩)
    · exact sp_hutLine hn g1 hI2 (fun _ _ _ _ _ _ _ _ _ _ _ => ⟨rfl, h0 _ _ _ _ _ _ _ _ _ _ _ _ _⟩) (fun _ _ _ _ _ _ _ _ _ _ _ a b c => ⟨rfl, h1 _ _ _ _ _ _ _ _ _ _ _ _ _ a (adv_tr g2 b) c⟩)
  have k44 : ∀ lf' lp', (lf' = 0 → lf = 0) → q_m_landLine_44 tp re (nI n) be so va wd wr lf' lp' told rd fh fs gd w x post := fun lf' lp' hl => ⟨fun _ => k60 _ _ hl, fun _ => sp_full (iv_lit (by decide)) (fun l2 p2 h2 => k60 _ _ (fun h => hl (h2 h)))⟩
  have k29 : ∀ lf' lp', (lf' = 0 → lf = 0) → q_m_landLine_29 tp re (nI n) be so va wd wr lf' lp' told rd fh fs gd w x post := fun lf' lp' hl => ⟨fun _ => k44 _ _ hl, fun _ => sp_full (iv_lit (by decide)) (fun l2 p2 h2 => k44 _ _ (fun h => hl (h2 h)))⟩
  exact sp_isLandWord (zi ⟨rfl, h0 _ _ _ _ _ _ _ _ _ _ _ _ _⟩) (io ⟨fun _ => k29 _ _ (fun h => h), fun _ => sp_full (iv_lit (by decide)) (fun l2 p2 h2 => k29 _ _ h2)⟩)
theorem sp_keep {o W M : Nat} {post : (Nat → Int32) → Prop} (hI : PI o lf told) (hW : W = 2 ∨ W = 3) (hM : M ≤ 40) (hMo : (M : Int) = rhi o 0) (ho : ¬ o = 0) (hf : 1 + W * M ≤ 131) (hr : lf = 0 → ∀ i k, i < W → k < M → iv (rlo o (1 + W * k + i)) (rhi o (1 + W * k + i)) (rd i)) (h : ∀ told', PI o lf told' → post told') : q_m_keep_0 told rd (nI W) (nI M) post := by
  have hM0 : 0 < M ∨ M = 0 := by omega
  refine sp_further (c := 0) hI (Or.inl ⟨rfl, hMo⟩) hM (fun _ => ?_) (fun k t1 hk ht hp hs => ?_)
  · intro P hP
    apply hP
    refine ⟨fun h9 => ?_, fun _ => ⟨fun _ => h _ hI, fun h9 => absurd rfl h9⟩⟩
    rcases hW with rfl | rfl
    · exact absurd h9 (by decide)
    · exact absurd h9 (by decide)
  · intro P hP
    have loop : ∀ (q i : Nat) (t : Nat → Int32), q + i = W → PI o lf t → P (nI i) t := by
      intro q
      induction q with
      | zero =>
        intro i t hi hpt
        apply hP
        exact ⟨fun _ => h _ hpt, fun h9 => absurd (nI_le (by omega) (by omega)) h9⟩
      | succ q ih =>
        intro i t hi hpt
        apply hP
        have hb : W * k ≤ W * M := Nat.mul_le_mul_left W (by omega)
        have hb2 : W * k + W ≤ W * M := by
          have := Nat.mul_le_mul_left W (show k + 1 ≤ M by omega)
          rw [Nat.mul_add] at this
          omega
        refine ⟨fun h9 => absurd h9 (nI_ge (by omega) (by omega)), fun _ => ⟨fun h9 => absurd h9 (nI_nm1 (by omega)), fun _ => ⟨vp_in_nI (by omega) (by omega), fun v1 e1 => ?_⟩⟩⟩
        have ei : ((1 : Int32) + nI W * nI k) + nI i = nI (1 + W * k + i) := by
          have e1 : (1 : Int32) = nI 1 := rfl
          rw [e1, pk_mul, nI_add, nI_add]
        rw [ei]
        refine ⟨vp_in_nI (by omega) (by omega), fun t2 e2 v2 e3 => ?_⟩
        rw [nI_clamp (by omega)] at e1 e2
        rw [e3, nI_1]
        subst e1 e2
        exact ih (i + 1) _ (by omega) (PI_upd hpt (fun hl => ⟨hl, hr hl i k (by omega) hk⟩) (by omega) (fun h9 => absurd h9 ho))
    exact loop W 0 t1 (by omega) hp
theorem rg1 {k i : Nat} (hk : k < 40) (hi : i < 3) : rhi 1 (1 + 3 * k + i) = (if i = 2 then 8 else 5) ∧ rlo 1 (1 + 3 * k + i) = (if i = 2 then -1 else 0) := by
  have e : (1 + 3 * k + i - 1) % 3 = i := by omega
  constructor
  · unfold rhi
    rw [if_neg (show ¬ (1 : Nat) = 0 by omega), if_pos rfl, if_neg (show ¬ 1 + 3 * k + i = 0 by omega), if_pos (show 1 + 3 * k + i ≤ 120 by omega), e]
  · unfold rlo
    rw [if_pos rfl, if_neg (show ¬ 1 + 3 * k + i = 0 by omega), if_pos (show 1 + 3 * k + i ≤ 120 by omega), e]
theorem rg2 {k i : Nat} (hk : k < 10) (hi : i < 3) : rhi 2 (1 + 3 * k + i) = (if i = 0 then 1 else if i = 1 then 8 else 60) ∧ rlo 2 (1 + 3 * k + i) = 0 := by
  have e : (1 + 3 * k + i - 1) % 3 = i := by omega
  constructor
  · unfold rhi
    rw [if_neg (show ¬ (2 : Nat) = 0 by omega), if_neg (show ¬ (2 : Nat) = 1 by omega), if_pos rfl, if_neg (show ¬ 1 + 3 * k + i = 0 by omega), if_pos (show 1 + 3 * k + i ≤ 30 by omega), e]
  · unfold rlo
    rw [if_neg (show ¬ (2 : Nat) = 1 by omega)]
theorem rg3 {k i : Nat} (hk : k < 9) (hi : i < 2) : rhi 3 (1 + 2 * k + i) = (if i = 0 then 3 else 9) ∧ rlo 3 (1 + 2 * k + i) = 0 := by
  have e : (1 + 2 * k + i - 1) % 2 = i := by omega
  constructor
  · unfold rhi
    rw [if_neg (show ¬ (3 : Nat) = 0 by omega), if_neg (show ¬ (3 : Nat) = 1 by omega), if_neg (show ¬ (3 : Nat) = 2 by omega), if_neg (show ¬ 1 + 2 * k + i = 0 by omega), if_pos (show 1 + 2 * k + i ≤ 18 by omega), e]
  · unfold rlo
    rw [if_neg (show ¬ (3 : Nat) = 1 by omega)]
theorem sp_eveningLine {post : Int32 → Int32 → Int32 → Int32 → Int32 → Int64 → Int32 → Int32 → Int32 → (Nat → Int32) → (Nat → Int32) → Int32 → Prop} (hn : n ≤ 600) (hre : mTk n re) (hI : PI 1 lf told)
    (h0 : ∀ re be so va wd wr lf lp told rd gd, post 0 re be so va wd wr lf lp told rd gd)
    (h1 : ∀ re' be so' va wd wr lf' lp told' rd gd, mTk n re' → adv re re' so' → PI 1 lf' told' → post 1 re' be so' va wd wr lf' lp told' rd gd) : q_m_eveningLine_0 tp re (nI n) be so va wd wr lf lp told rd gd w x post := by
  refine sp_deedBy ⟨fun h => absurd rfl h, fun _ => ⟨rfl, h0 _ _ _ _ _ _ _ _ _ _ _⟩⟩ (fun d hd => ⟨fun _ => ?_, fun h => absurd h (nI_nm1 (by omega))⟩)
  refine sp_full (iv_lit (by decide)) (fun l1 p1 hl1 => sp_tokenT hn hre (fun r1 b1 s1 v1 w1 g1 g2 rd1 erd => ?_))
  subst erd
  refine sp_take hn g1 (iv_lit (by decide)) (fun _ _ _ _ _ _ _ _ _ _ => iz (h0 _ _ _ _ _ _ _ _ _ _ _)) (fun r2 b2 s2 v2 w2 wr2 l2 p2 gd2 v k1 k2 k3 k4 => oi ?_)
  have k75 : ∀ (re' be' so' va' : Int32) (wd' : Int64) (wr' lf' lp' gd' : Int32) (rdx : Nat → Int32), mTk n re' → adv re re' so' → (lf' = 0 → l2 = 0) → rdx 1 = v → (lf' = 0 → iv (-1) 8 (rdx 2)) → q_m_eveningLine_75 tp re' (nI n) be' so' va' wd' wr' lf' lp' told rdx gd' (nI d) post := by
    intro re' be' so' va' wd' wr' lf' lp' gd' rdx a1 a2 a3 a4 a5 rd2 er
    refine sp_keep (lf := lf') (o := 1) (W := 3) (M := 40) (PI_lf hI (fun h => hl1 (k3 (a3 h)).1)) (Or.inr rfl) (by omega) rfl (by omega) (by omega) (fun hl i k hi hk => ?_) (fun t' hp => h1 _ _ _ _ _ _ _ _ _ _ _ a1 a2 hp)
    obtain ⟨q1, q2⟩ := rg1 hk hi
    rw [q1, q2, er, c_0]
    rcases (show i = 0 ∨ i = 1 ∨ i = 2 by omega) with rfl | rfl | rfl
    · rw [up_s]; exact iv_ofN (by omega) (by simp) (by simp; omega)
    · rw [up_n (by omega), a4]; exact iv_of rfl rfl (k3 (a3 hl)).2.1 (k3 (a3 hl)).2.2
    · rw [up_n (by omega)]; exact a5 hl
  have k67 : ∀ hi_ : Int32, hi_.toInt ≤ 8 → q_m_eveningLine_67 tp r2 (nI n) b2 s2 v2 w2 wr2 l2 p2 told (upd (upd rd (Int32.toNatClampNeg 2) (-1)) (Int32.toNatClampNeg 1) v) gd2 (nI d) 2 0 hi_ post := by
    intro hi_ hh
    refine sp_take hn k1 (iv_lit (by decide)) (fun _ _ _ _ _ _ _ _ _ _ => zi (h0 _ _ _ _ _ _ _ _ _ _ _)) (fun r3 b3 s3 v3 w3 wr3 l3 p3 gd3 u m1 m2 m3 m4 => io (k75 _ _ _ _ _ _ _ _ _ _ m1 (adv_tr (adv_tr g2 k2) m2) (fun h => (m3 h).1) ?_ (fun h => ?_)))
    · rw [c_1, c_2, up_n (by omega), up_s]
    · rw [c_2, up_s]
      have q1 := r_le (m3 h).2.1
      have q2 := r_le (m3 h).2.2
      have e0 : (0 : Int32).toInt = 0 := rfl
      exact ⟨by omega, by omega⟩
  refine ⟨fun _ => k75 _ _ _ _ _ _ _ _ _ _ k1 (adv_tr g2 k2) (fun h => h) ?_ (fun h => ?_), fun _ => ⟨fun _ => k67 4 (by decide), fun _ => k67 8 (by decide)⟩⟩
  · rw [c_1, up_s]
  · rw [c_1, c_2, up_n (by omega), up_s]; exact iv_lit (by decide)
theorem sp_sightLine {post : Int32 → Int32 → Int32 → Int32 → Int32 → Int64 → Int32 → Int32 → Int32 → (Nat → Int32) → (Nat → Int32) → Int32 → Prop} (hn : n ≤ 600) (hre : mTk n re) (hI : PI 2 lf told)
    (h0 : ∀ re be so va wd wr lf lp told rd gd, post 0 re be so va wd wr lf lp told rd gd)
    (h1 : ∀ re' be so' va wd wr lf' lp told' rd gd, mTk n re' → adv re re' so' → PI 2 lf' told' → post 1 re' be so' va wd wr lf' lp told' rd gd) : q_m_sightLine_0 tp re (nI n) be so va wd wr lf lp told rd gd w x post := by
  have k21 : q_m_sightLine_21 tp re (nI n) be so va wd wr lf lp told rd gd w x post := by
    refine sp_full (iv_lit (by decide)) (fun l1 p1 hl1 => sp_tokenT hn hre (fun r1 b1 s1 v1 w1 g1 g2 => ?_))
    refine sp_take hn g1 (iv_lit (by decide)) (fun _ _ _ _ _ _ _ _ _ _ => iz (h0 _ _ _ _ _ _ _ _ _ _ _)) (fun r2 b2 s2 v2 w2 wr2 l2 p2 gd2 v k1 k2 k3 k4 => oi ?_)
    refine sp_take hn k1 (iv_lit (by decide)) (fun _ _ _ _ _ _ _ _ _ _ => zi (h0 _ _ _ _ _ _ _ _ _ _ _)) (fun r3 b3 s3 v3 w3 wr3 l3 p3 gd3 u m1 m2 m3 m4 => io ?_)
    have k75 : ∀ y : Int32, iv 0 1 y → q_m_sightLine_75 tp r3 (nI n) b3 s3 v3 w3 wr3 l3 p3 told (upd (upd rd (Int32.toNatClampNeg 1) v) (Int32.toNatClampNeg 2) u) gd3 0 y post := by
      intro y hy
      refine ⟨by unfold vp_in; decide, fun rd2 er => ?_⟩
      refine sp_keep (lf := l3) (o := 2) (W := 3) (M := 10) (PI_lf hI (fun h => hl1 (k3 (m3 h).1).1)) (Or.inr rfl) (by omega) rfl (by omega) (by omega) (fun hl i k hi hk => ?_) (fun t' hp => h1 _ _ _ _ _ _ _ _ _ _ _ m1 (adv_tr (adv_tr g2 k2) m2) hp)
      obtain ⟨q1, q2⟩ := rg2 hk hi
      rw [q1, q2, er, c_0, c_1, c_2]
      rcases (show i = 0 ∨ i = 1 ∨ i = 2 by omega) with rfl | rfl | rfl
      · rw [up_s]; exact hy
      · rw [up_n (by omega), up_n (by omega), up_s]; exact iv_of rfl rfl (k3 (m3 hl).1).2.1 (k3 (m3 hl).1).2.2
      · rw [up_n (by omega), up_s]; exact iv_of rfl rfl (m3 hl).2.1 (m3 hl).2.2
    exact ⟨fun _ => k75 0 (iv_lit (by decide)), fun _ => k75 1 (iv_lit (by decide))⟩
  exact ⟨fun _ => k21, fun _ => ⟨fun _ => k21, fun _ => ⟨rfl, h0 _ _ _ _ _ _ _ _ _ _ _⟩⟩⟩
theorem sp_choirLine {post : Int32 → Int32 → Int32 → Int32 → Int32 → Int64 → Int32 → Int32 → Int32 → (Nat → Int32) → (Nat → Int32) → Int32 → Prop} (hn : n ≤ 600) (hre : mTk n re) (hI : PI 3 lf told)
    (h0 : ∀ re be so va wd wr lf lp told rd gd, post 0 re be so va wd wr lf lp told rd gd)
    (h1 : ∀ re' be so' va wd wr lf' lp told' rd gd, mTk n re' → adv re re' so' → PI 3 lf' told' → post 1 re' be so' va wd wr lf' lp told' rd gd) : q_m_choirLine_0 tp re (nI n) be so va wd wr lf lp told rd gd w x post := by
  have k37 : ∀ l1 p1, (l1 = 0 → lf = 0) → q_m_choirLine_37 tp re (nI n) be so va wd wr l1 p1 told rd gd w post := by
    intro l1 p1 hl1
    refine sp_tokenT hn hre (fun r1 b1 s1 v1 w1 g1 g2 => ⟨fun _ => ?_, fun _ => ?_⟩)
    · refine sp_take hn g1 (iv_lit (by decide)) (fun _ _ _ _ _ _ _ _ _ _ => iz (h0 _ _ _ _ _ _ _ _ _ _ _)) (fun r2 b2 s2 v2 w2 wr2 l2 p2 gd2 v k1 k2 k3 k4 => oi ?_)
      refine sp_take hn k1 (iv_lit (by decide)) (fun _ _ _ _ _ _ _ _ _ _ => zi (h0 _ _ _ _ _ _ _ _ _ _ _)) (fun r3 b3 s3 v3 w3 wr3 l3 p3 gd3 u m1 m2 m3 m4 => io ?_)
      refine sp_keep (lf := l3) (o := 3) (W := 2) (M := 9) (PI_lf hI (fun h => hl1 (k3 (m3 h).1).1)) (Or.inl rfl) (by omega) rfl (by omega) (by omega) (fun hl i k hi hk => ?_) (fun t' hp => h1 _ _ _ _ _ _ _ _ _ _ _ m1 (adv_tr (adv_tr g2 k2) m2) hp)
      obtain ⟨q1, q2⟩ := rg3 hk hi
      rw [q1, q2, c_0, c_1]
      rcases (show i = 0 ∨ i = 1 by omega) with rfl | rfl
      · rw [up_n (by omega), up_s]; exact iv_of rfl rfl (k3 (m3 hl).1).2.1 (k3 (m3 hl).1).2.2
      · rw [up_s]; exact iv_of rfl rfl (m3 hl).2.1 (m3 hl).2.2
    · refine sp_take hn g1 (iv_lit (by decide)) (fun _ _ _ _ _ _ _ _ _ _ => zi ⟨rfl, h0 _ _ _ _ _ _ _ _ _ _ _⟩) (fun r2 b2 s2 v2 w2 wr2 l2 p2 gd2 v k1 k2 k3 k4 => io (fun x1 e1 => ⟨by unfold vp_in; decide, fun t2 e2 => ⟨rfl, ?_⟩⟩))
      have ev : x1 = v := by rw [e1]; exact up_s
      have e19 : Int32.toNatClampNeg 19 = 19 := rfl
      rw [e19] at e2
      subst ev e2
      exact h1 _ _ _ _ _ _ _ _ _ _ _ k1 (adv_tr g2 k2) (PI_upd hI (fun h => ⟨hl1 (k3 h).1, iv_of rfl rfl (k3 h).2.1 (k3 h).2.2⟩) (by omega) (fun h9 => absurd h9 (by omega)))
  have k21 : q_m_choirLine_21 tp re (nI n) be so va wd wr lf lp told rd gd w x post := ⟨fun _ => k37 _ _ (fun h => h), fun _ => sp_full (iv_lit (by decide)) (fun l1 p1 h => k37 _ _ h)⟩
  exact ⟨fun _ => k21, fun _ => ⟨fun _ => k21, fun _ => ⟨rfl, h0 _ _ _ _ _ _ _ _ _ _ _⟩⟩⟩
theorem sp_lineOf {o : Nat} {post : Int32 → Int32 → Int32 → Int32 → Int32 → Int64 → Int32 → Int32 → Int32 → (Nat → Int32) → (Nat → Int32) → Int32 → Int32 → Int32 → Prop} (ho : o ≤ 3) (hn : n ≤ 600) (hre : mTk n re) (hI : LI o lf fh told)
    (h0 : ∀ re be so va wd wr lf lp told rd fh fs gd, post 0 re be so va wd wr lf lp told rd fh fs gd)
    (h1 : ∀ re' be so' va wd wr lf' lp told' rd fh' fs gd, mTk n re' → adv re re' so' → LI o lf' fh' told' → post 1 re' be so' va wd wr lf' lp told' rd fh' fs gd) : q_m_lineOf_0 tp re (nI n) be so va wd wr lf lp told rd fh fs gd (nI o) w x post := by
  refine ⟨fun hc => ?_, fun hc => ?_, fun hc => ?_, fun hc => ?_⟩
  · rw [nI_toInt (by omega)] at hc
    have e : o = 3 := by omega
    subst e
    exact sp_choirLine hn hre hI.1 (fun _ _ _ _ _ _ _ _ _ _ _ => ⟨rfl, h0 _ _ _ _ _ _ _ _ _ _ _ _ _⟩) (fun _ _ _ _ _ _ _ _ _ _ _ a b c => ⟨rfl, h1 _ _ _ _ _ _ _ _ _ _ _ _ _ a b ⟨c, fun h => absurd h (by omega)⟩⟩)
  · have e : o = 0 := (nI_eq (b := 0) (by omega) (by omega)).mp hc
    subst e
    exact sp_landLine hn hre hI (fun _ _ _ _ _ _ _ _ _ _ _ _ _ => ⟨rfl, h0 _ _ _ _ _ _ _ _ _ _ _ _ _⟩) (fun _ _ _ _ _ _ _ _ _ _ _ _ _ a b c => ⟨rfl, h1 _ _ _ _ _ _ _ _ _ _ _ _ _ a b c⟩)
  · have e : o = 1 := (nI_eq (b := 1) (by omega) (by omega)).mp hc
    subst e
    exact sp_eveningLine hn hre hI.1 (fun _ _ _ _ _ _ _ _ _ _ _ => ⟨rfl, h0 _ _ _ _ _ _ _ _ _ _ _ _ _⟩) (fun _ _ _ _ _ _ _ _ _ _ _ a b c => ⟨rfl, h1 _ _ _ _ _ _ _ _ _ _ _ _ _ a b ⟨c, fun h => absurd h (by omega)⟩⟩)
  · have e : o = 2 := (nI_eq (b := 2) (by omega) (by omega)).mp hc
    subst e
    exact sp_sightLine hn hre hI.1 (fun _ _ _ _ _ _ _ _ _ _ _ => ⟨rfl, h0 _ _ _ _ _ _ _ _ _ _ _ _ _⟩) (fun _ _ _ _ _ _ _ _ _ _ _ a b c => ⟨rfl, h1 _ _ _ _ _ _ _ _ _ _ _ _ _ a b ⟨c, fun h => absurd h (by omega)⟩⟩)
theorem sp_linesT {o : Nat} {post : Int32 → Int32 → Int32 → Int32 → Int32 → Int64 → Int32 → Int32 → Int32 → (Nat → Int32) → (Nat → Int32) → Int32 → Int32 → Int32 → Prop} (ho : o ≤ 3) (hn : n ≤ 600) (hre : mTk n re) (hI : LI o lf fh told)
    (h0 : ∀ re be so va wd wr lf lp told rd fh fs gd, post 0 re be so va wd wr lf lp told rd fh fs gd)
    (h1 : ∀ re be so va wd wr lf' lp told' rd fh' fs gd, LI o lf' fh' told' → post 1 re be so va wd wr lf' lp told' rd fh' fs gd) : q_m_lines_0 tp re (nI n) be so va wd wr lf lp told rd fh fs gd (nI o) post := by
  intro P hP
  have p0 : ∀ re be so va wd wr lf lp told rd fh fs gd, P 0 re be so va wd wr lf lp told rd fh fs gd := by
    intro re be so va wd wr lf lp told rd fh fs gd
    apply hP
    exact ⟨fun _ => ⟨rfl, h0 _ _ _ _ _ _ _ _ _ _ _ _ _⟩, fun h => absurd rfl h⟩
  have loop : ∀ (m : Nat) (re be so va : Int32) (wd : Int64) (wr lf lp : Int32) (told rd : Nat → Int32) (fh fs gd : Int32), (n : Int) - re.toInt < (m : Int) → mTk n re → LI o lf fh told → P 1 re be so va wd wr lf lp told rd fh fs gd := by
    intro m
    induction m with
    | zero =>
      intro re be so va wd wr lf lp told rd fh fs gd hm hre hI
      obtain ⟨r, hr, rfl⟩ := hre
      rw [nI_toInt (by omega)] at hm
      omega
    | succ m ih =>
      intro re be so va wd wr lf lp told rd fh fs gd hm hre hI
      apply hP
      have k41 : ∀ y : Int64, q_m_lines_41 P tp re (nI n) be so va wd wr lf lp told rd fh fs 1 (nI o) be (nI o) y post := by
        intro y
        refine sp_lineOf ho hn hre hI (fun _ _ _ _ _ _ _ _ _ _ _ _ _ => iz (iz (p0 _ _ _ _ _ _ _ _ _ _ _ _ _))) (fun r1 b1 s1 v1 w1 wr1 l1 p1 t1 rd1 fh1 fs1 gd1 g1 g2 g3 => oi ⟨fun h4 => oi ?_, fun _ => iz (p0 _ _ _ _ _ _ _ _ _ _ _ _ _)⟩)
        refine sp_tokenT hn g1 (fun r2 b2 s2 v2 w2 k1 k2 => ih _ _ _ _ _ _ _ _ _ _ _ _ _ ?_ k1 g3)
        have q1 := g2.2 (by rw [h4]; decide)
        have q2 := k2.1
        omega
      exact ⟨fun h => absurd h (by decide), fun _ => ⟨fun _ => ⟨rfl, h1 _ _ _ _ _ _ _ _ _ _ _ _ _ hI⟩, fun _ => ⟨fun _ => k41 _, fun _ => k41 _⟩⟩⟩
  obtain ⟨r, hr, rfl⟩ := hre
  exact loop (n + 1) _ _ _ _ _ _ _ _ _ _ _ _ _ (by rw [nI_toInt (by omega)]; omega) ⟨r, hr, rfl⟩ hI
end PM
end
section
theorem rg0 : ∀ o, o < 4 → ∀ j, j < 132 → rlo o j ≤ 0 ∧ 0 ≤ rhi o j := by decide +kernel
theorem PI0 {o : Nat} {told : Nat → Int32} (ho : o ≤ 3) (h : ∀ j, j < 132 → told j = 0) : PI o 0 told := by
  have z0 : (0 : Int32).toInt = 0 := rfl
  have q : ∀ j, j < 132 → iv (rlo o j) (rhi o j) (told j) := by
    intro j hj
    rw [h j hj]
    have := rg0 o (by omega) j hj
    exact ⟨by rw [z0]; exact this.1, by rw [z0]; exact this.2⟩
  refine ⟨?_, fun _ => ⟨by rw [h 1 (by omega)]; exact iv_lit (by decide), by rw [h 4 (by omega)]; exact iv_lit (by decide)⟩, fun _ => q⟩
  rw [h 0 (by omega)]
  exact ⟨by rw [z0]; exact Int.le_refl 0, by rw [z0]; exact (rg0 o (by omega) 0 (by omega)).2⟩
/-- a row that is taken over -/
def okRow (o : Nat) (told : Nat → Int32) : Prop := (∀ j, j < 132 → iv (rlo o j) (rhi o j) (told j)) ∧ (o = 0 → ¬ told 1 = 0 → ¬ told 0 = 0)
theorem sp_readTextT {tp fa fp told rd : Nat → Int32} {re be so va wr lf lp fh fs gd : Int32} {wd : Int64} {n o : Nat} {post : Int32 → (Nat → Int32) → (Nat → Int32) → Int32 → Int32 → Int32 → Int32 → Int64 → Int32 → Int32 → Int32 → (Nat → Int32) → (Nat → Int32) → Int32 → Int32 → Int32 → Prop} (ho : o ≤ 3) (hn : n ≤ 600)
    (h0 : ∀ fa fp re be so va wd wr lf lp told rd fh fs gd, post 0 fa fp re be so va wd wr lf lp told rd fh fs gd)
    (h1 : ∀ fa fp re be so va wd wr lf lp told rd fh fs gd, okRow o told → post 1 fa fp re be so va wd wr lf lp told rd fh fs gd) : q_m_readText_0 tp fa fp re (nI n) be so va wd wr lf lp told rd fh fs gd (nI o) post := by
  have hne : ∀ h : ¬ o = 0, ¬ nI o = 0 := fun h => nI_ne0 (by omega) (by omega)
  intro P hP
  have k0 : ∀ (re be so va : Int32) (wd : Int64) (wr lf lp : Int32) (told rd : Nat → Int32) (fh fs gd : Int32), q_m_readText_121 tp fa fp re (nI n) be so va wd wr lf lp told rd fh fs gd 0 post := by
    intro re be so va wd wr lf lp told rd fh fs gd
    refine iz ⟨by unfold vp_in; decide, fun fa1 e1 => zi ⟨by unfold vp_in; decide, fun fp1 _ => ⟨fun _ => h0 _ _ _ _ _ _ _ _ _ _ _ _ _ _ _, fun h => ?_⟩⟩⟩
    rw [e1, up_s] at h
    exact absurd h (by decide)
  have k1 : ∀ (re be so va : Int32) (wd : Int64) (wr lf lp : Int32) (told rd : Nat → Int32) (fh fs gd : Int32), (lf = 0 → okRow o told) → q_m_readText_121 tp fa fp re (nI n) be so va wd wr lf lp told rd fh fs gd 1 post := by
    intro re be so va wd wr lf lp told rd fh fs gd hok
    have k170 : ∀ (fa1 : Nat → Int32) (y : Int32), fa1 0 = lf → q_m_readText_170 tp fa1 fp re (nI n) be so va wd wr lf lp told rd fh fs gd 0 y post := by
      intro fa1 y e1
      refine ⟨by unfold vp_in; decide, fun fp1 _ => ⟨fun _ => h0 _ _ _ _ _ _ _ _ _ _ _ _ _ _ _, fun h => h1 _ _ _ _ _ _ _ _ _ _ _ _ _ _ _ (hok ?_)⟩⟩
      rw [c_0, e1] at h
      exact h
    refine oi ⟨by unfold vp_in; decide, fun fa1 e1 => io ⟨fun _ => k170 fa1 _ ?_, fun _ => k170 fa1 _ ?_⟩⟩
    · rw [e1, c_0]; exact up_s
    · rw [e1, c_0]; exact up_s
  have fin_ : ∀ told : Nat → Int32, PI o 0 told → told 1 = 0 → q_m_readText_41 tp fa fp re (nI n) be so va wd wr lf lp told rd fh fs gd (nI o) post := by
    intro told hp h1z
    refine sp_tokenT (re := 0) hn ⟨0, by omega, rfl⟩ (fun r1 b1 s1 v1 w1 g1 _ => ?_)
    refine sp_linesT ho hn g1 ⟨hp, fun _ _ h => absurd h1z h⟩ (fun _ _ _ _ _ _ _ _ _ _ _ _ _ => iz (k0 _ _ _ _ _ _ _ _ _ _ _ _ _)) (fun re be so va wd wr lf lp told rd fh fs gd hL => oi ⟨fun hx => ?_, fun hx => ⟨fun hl => k1 _ _ _ _ _ _ _ _ _ _ _ _ _ (fun h => absurd h hl), fun hl => ?_⟩⟩)
    · refine k1 _ _ _ _ _ _ _ _ _ _ _ _ _ (fun h => ⟨hL.1.2.2 h, fun h9 => ?_⟩)
      subst h9
      exact absurd rfl hx
    · have ho0 : o = 0 := (nI_eq (b := 0) (by omega) (by omega)).mp hx
      subst ho0
      have k112 : q_m_readText_112 tp fa fp re (nI n) be so va wd wr lf lp told rd fh fs gd 1 post := sp_later (by decide) (fun l2 p2 h2 => k1 _ _ _ _ _ _ _ _ _ _ _ _ _ (fun h => absurd h h2))
      refine ⟨fun _ => k112, fun h3 => ⟨fun _ => ?_, fun _ => k112⟩⟩
      refine k1 _ _ _ _ _ _ _ _ _ _ _ _ _ (fun h => ⟨hL.1.2.2 h, fun _ h4 h5 => ?_⟩)
      have q1 := hL.2 rfl hl h4
      have q2 := r_nle h3
      rw [c_0, h5] at q2
      have e0 : (0 : Int32).toInt = 0 := rfl
      omega
  have loop : ∀ (m k : Nat) (told : Nat → Int32), m + k = 132 → (∀ j, j < k → told j = 0) → P (nI k) told := by
    intro m
    induction m with
    | zero =>
      intro k told hk ht
      apply hP
      have hz : ∀ j, j < 132 → told j = 0 := fun j hj => ht j (by omega)
      refine ⟨fun _ => ⟨fun _ => fin_ told (PI0 ho hz) (hz 1 (by omega)), fun hx t1 e1 t2 e2 => ?_⟩, fun h2 => absurd (nI_le (a := 132) (by omega) (by omega)) h2⟩
      have ho0 : o = 0 := (nI_eq (b := 0) (by omega) (by omega)).mp hx
      subst ho0
      have e5 : Int32.toNatClampNeg 5 = 5 := rfl
      have e6 : Int32.toNatClampNeg 6 = 6 := rfl
      rw [e5] at e1
      rw [e6] at e2
      subst e1 e2
      refine fin_ _ (PI_upd (PI_upd (PI0 ho hz) (fun h => ⟨h, iv_lit (by decide)⟩) (by omega) (fun _ => ⟨by omega, by omega⟩)) (fun h => ⟨h, iv_lit (by decide)⟩) (by omega) (fun _ => ⟨by omega, by omega⟩)) ?_
      rw [up_n (by omega), up_n (by omega)]
      exact hz 1 (by omega)
    | succ m ih =>
      intro k told hk ht
      apply hP
      refine ⟨fun h2 => absurd h2 (nI_ge (b := 132) (by omega) (by omega)), fun _ => ⟨vp_in_nI (by omega) (by omega), fun t1 e1 v1 e2 => ?_⟩⟩
      rw [e2, nI_1]
      rw [nI_clamp (by omega)] at e1
      refine ih (k + 1) t1 (by omega) (fun j hj => ?_)
      rw [e1]
      unfold upd
      split
      · rfl
      · exact ht j (by omega)
  exact loop 132 0 told rfl (fun j hj => absurd hj (by omega))
theorem sp_store6E {a told : Nat → Int32} {k : Nat} {post : (Nat → Int32) → Prop} (hk : k ≤ 1) (h : ∀ a', (∀ i, i < 132 → a' (132 * k + i) = told i) → (∀ j, j < 132 * k ∨ 132 * k + 132 ≤ j → a' j = a j) → post a') : q_m_store_6_0 a told 132 (nI k) post := by
  intro P hP
  have e0 : (132 : Int32) * nI k = nI (132 * k) := pk_mul 132 k
  have loop : ∀ (n i : Nat) (b : Nat → Int32), n + i = 132 → (∀ q, q < i → b (132 * k + q) = told q) → (∀ j, j < 132 * k ∨ 132 * k + 132 ≤ j → b j = a j) → P (nI i) b := by
    intro n
    induction n with
    | zero =>
      intro i b hi h1 h2
      apply hP
      exact ⟨fun _ => h b (fun q hq => h1 q (by omega)) h2, fun h9 => absurd (nI_le (a := 132) (by omega) (by omega)) h9⟩
    | succ n ih =>
      intro i b hi h1 h2
      apply hP
      refine ⟨fun h9 => absurd h9 (nI_ge (b := 132) (by omega) (by omega)), fun _ => ⟨vp_in_nI (by omega) (by omega), fun v1 e1 => ?_⟩⟩
      rw [e0, nI_add]
      refine ⟨vp_in_nI (by omega) (by omega), fun b1 e2 v2 e3 => ?_⟩
      rw [nI_clamp (by omega)] at e1 e2
      rw [e3, nI_1]
      subst e1 e2
      refine ih (i + 1) _ (by omega) (fun q hq => ?_) (fun j hj => ?_)
      · by_cases hqi : q = i
        · subst hqi; exact up_s
        · rw [up_n (by omega)]; exact h1 q (by omega)
      · rw [up_n (by omega)]; exact h2 j hj
  exact loop 132 0 a (by omega) (fun q hq => absurd hq (by omega)) (fun j _ => rfl)
theorem sp_store7E {a told : Nat → Int32} {k : Nat} {post : (Nat → Int32) → Prop} (hk : k ≤ 1) (h : ∀ a', (∀ i, i < 121 → a' (121 * k + i) = told i) → (∀ j, j < 121 * k ∨ 121 * k + 121 ≤ j → a' j = a j) → post a') : q_m_store_7_0 a told 121 (nI k) post := by
  intro P hP
  have e0 : (121 : Int32) * nI k = nI (121 * k) := pk_mul 121 k
  have loop : ∀ (n i : Nat) (b : Nat → Int32), n + i = 121 → (∀ q, q < i → b (121 * k + q) = told q) → (∀ j, j < 121 * k ∨ 121 * k + 121 ≤ j → b j = a j) → P (nI i) b := by
    intro n
    induction n with
    | zero =>
      intro i b hi h1 h2
      apply hP
      exact ⟨fun _ => h b (fun q hq => h1 q (by omega)) h2, fun h9 => absurd (nI_le (a := 121) (by omega) (by omega)) h9⟩
    | succ n ih =>
      intro i b hi h1 h2
      apply hP
      refine ⟨fun h9 => absurd h9 (nI_ge (b := 121) (by omega) (by omega)), fun _ => ⟨vp_in_nI (by omega) (by omega), fun v1 e1 => ?_⟩⟩
      rw [e0, nI_add]
      refine ⟨vp_in_nI (by omega) (by omega), fun b1 e2 v2 e3 => ?_⟩
      rw [nI_clamp (by omega)] at e1 e2
      rw [e3, nI_1]
      subst e1 e2
      refine ih (i + 1) _ (by omega) (fun q hq => ?_) (fun j hj => ?_)
      · by_cases hqi : q = i
        · subst hqi; exact up_s
        · rw [up_n (by omega)]; exact h1 q (by omega)
      · rw [up_n (by omega)]; exact h2 j hj
  exact loop 121 0 a (by omega) (fun q hq => absurd hq (by omega)) (fun j _ => rfl)
theorem sp_store8E {a told : Nat → Int32} {k : Nat} {post : (Nat → Int32) → Prop} (hk : k ≤ 1) (h : ∀ a', (∀ i, i < 31 → a' (31 * k + i) = told i) → (∀ j, j < 31 * k ∨ 31 * k + 31 ≤ j → a' j = a j) → post a') : q_m_store_8_0 a told 31 (nI k) post := by
  intro P hP
  have e0 : (31 : Int32) * nI k = nI (31 * k) := pk_mul 31 k
  have loop : ∀ (n i : Nat) (b : Nat → Int32), n + i = 31 → (∀ q, q < i → b (31 * k + q) = told q) → (∀ j, j < 31 * k ∨ 31 * k + 31 ≤ j → b j = a j) → P (nI i) b := by
    intro n
    induction n with
    | zero =>
      intro i b hi h1 h2
      apply hP
      exact ⟨fun _ => h b (fun q hq => h1 q (by omega)) h2, fun h9 => absurd (nI_le (a := 31) (by omega) (by omega)) h9⟩
    | succ n ih =>
      intro i b hi h1 h2
      apply hP
      refine ⟨fun h9 => absurd h9 (nI_ge (b := 31) (by omega) (by omega)), fun _ => ⟨vp_in_nI (by omega) (by omega), fun v1 e1 => ?_⟩⟩
      rw [e0, nI_add]
      refine ⟨vp_in_nI (by omega) (by omega), fun b1 e2 v2 e3 => ?_⟩
      rw [nI_clamp (by omega)] at e1 e2
      rw [e3, nI_1]
      subst e1 e2
      refine ih (i + 1) _ (by omega) (fun q hq => ?_) (fun j hj => ?_)
      · by_cases hqi : q = i
        · subst hqi; exact up_s
        · rw [up_n (by omega)]; exact h1 q (by omega)
      · rw [up_n (by omega)]; exact h2 j hj
  exact loop 31 0 a (by omega) (fun q hq => absurd hq (by omega)) (fun j _ => rfl)
theorem sp_store9E {a told : Nat → Int32} {k : Nat} {post : (Nat → Int32) → Prop} (hk : k ≤ 1) (h : ∀ a', (∀ i, i < 20 → a' (20 * k + i) = told i) → (∀ j, j < 20 * k ∨ 20 * k + 20 ≤ j → a' j = a j) → post a') : q_m_store_9_0 a told 20 (nI k) post := by
  intro P hP
  have e0 : (20 : Int32) * nI k = nI (20 * k) := pk_mul 20 k
  have loop : ∀ (n i : Nat) (b : Nat → Int32), n + i = 20 → (∀ q, q < i → b (20 * k + q) = told q) → (∀ j, j < 20 * k ∨ 20 * k + 20 ≤ j → b j = a j) → P (nI i) b := by
    intro n
    induction n with
    | zero =>
      intro i b hi h1 h2
      apply hP
      exact ⟨fun _ => h b (fun q hq => h1 q (by omega)) h2, fun h9 => absurd (nI_le (a := 20) (by omega) (by omega)) h9⟩
    | succ n ih =>
      intro i b hi h1 h2
      apply hP
      refine ⟨fun h9 => absurd h9 (nI_ge (b := 20) (by omega) (by omega)), fun _ => ⟨vp_in_nI (by omega) (by omega), fun v1 e1 => ?_⟩⟩
      rw [e0, nI_add]
      refine ⟨vp_in_nI (by omega) (by omega), fun b1 e2 v2 e3 => ?_⟩
      rw [nI_clamp (by omega)] at e1 e2
      rw [e3, nI_1]
      subst e1 e2
      refine ih (i + 1) _ (by omega) (fun q hq => ?_) (fun j hj => ?_)
      · by_cases hqi : q = i
        · subst hqi; exact up_s
        · rw [up_n (by omega)]; exact h1 q (by omega)
      · rw [up_n (by omega)]; exact h2 j hj
  exact loop 20 0 a (by omega) (fun q hq => absurd hq (by omega)) (fun j _ => rfl)
theorem row_L {a b told : Nat → Int32} {k : Nat} (hk : k ≤ 1) (ha : mLand a) (hr : okRow 0 told) (h1 : ∀ i, i < 132 → b (132 * k + i) = told i) (h2 : ∀ j, j < 132 * k ∨ 132 * k + 132 ≤ j → b j = a j) : mLand b := by
  refine ⟨fun r j hr8 hj => ?_, fun r hr8 hn => ?_⟩
  · by_cases hrk : r = k
    · subst hrk; rw [h1 j hj]; exact hr.1 j hj
    · rw [h2 _ (by omega)]; exact ha.1 r j hr8 hj
  · by_cases hrk : r = k
    · subst hrk
      have e := h1 0 (by omega)
      rw [Nat.add_zero] at e
      rw [h1 1 (by omega)] at hn
      rw [e]
      exact hr.2 rfl hn
    · rw [h2 _ (by omega)] at hn ⊢
      exact ha.2 r hr8 hn
theorem row_E {a b told : Nat → Int32} {k : Nat} (hk : k ≤ 1) (ha : mEve a) (hr : okRow 1 told) (h1 : ∀ i, i < 121 → b (121 * k + i) = told i) (h2 : ∀ j, j < 121 * k ∨ 121 * k + 121 ≤ j → b j = a j) : mEve b := by
  intro r hr8
  by_cases hrk : r = k
  · subst hrk
    refine ⟨?_, fun q hq => ?_⟩
    · have e := h1 0 (by omega)
      rw [Nat.add_zero] at e
      rw [e]; exact hr.1 0 (by omega)
    · have e0 := h1 (1 + 3 * q + 0) (by omega)
      have e1 := h1 (1 + 3 * q + 1) (by omega)
      have e2 := h1 (1 + 3 * q + 2) (by omega)
      have r0 := rg1 hq (show 0 < 3 by omega)
      have r1 := rg1 hq (show 1 < 3 by omega)
      have r2 := rg1 hq (show 2 < 3 by omega)
      have g0 := hr.1 (1 + 3 * q + 0) (by omega)
      have g1 := hr.1 (1 + 3 * q + 1) (by omega)
      have g2 := hr.1 (1 + 3 * q + 2) (by omega)
      rw [r0.1, r0.2] at g0
      rw [r1.1, r1.2] at g1
      rw [r2.1, r2.2] at g2
      rw [show 121 * r + 1 + 3 * q = 121 * r + (1 + 3 * q + 0) by omega, show 121 * r + (1 + 3 * q + 0) + 1 = 121 * r + (1 + 3 * q + 1) by omega, show 121 * r + (1 + 3 * q + 0) + 2 = 121 * r + (1 + 3 * q + 2) by omega, e0, e1, e2]
      exact ⟨g0, g1, g2⟩
  · refine ⟨by rw [h2 _ (by omega)]; exact (ha r hr8).1, fun q hq => ?_⟩
    rw [h2 _ (by omega), h2 _ (by omega), h2 _ (by omega)]
    exact (ha r hr8).2 q hq
theorem row_S {a b told : Nat → Int32} {k : Nat} (hk : k ≤ 1) (ha : mSig a) (hr : okRow 2 told) (h1 : ∀ i, i < 31 → b (31 * k + i) = told i) (h2 : ∀ j, j < 31 * k ∨ 31 * k + 31 ≤ j → b j = a j) : mSig b := by
  intro r hr8
  by_cases hrk : r = k
  · subst hrk
    refine ⟨?_, fun q hq => ?_⟩
    · have e := h1 0 (by omega)
      rw [Nat.add_zero] at e
      rw [e]; exact hr.1 0 (by omega)
    · have e0 := h1 (1 + 3 * q + 0) (by omega)
      have e1 := h1 (1 + 3 * q + 1) (by omega)
      have e2 := h1 (1 + 3 * q + 2) (by omega)
      have r0 := rg2 hq (show 0 < 3 by omega)
      have r1 := rg2 hq (show 1 < 3 by omega)
      have r2 := rg2 hq (show 2 < 3 by omega)
      have g0 := hr.1 (1 + 3 * q + 0) (by omega)
      have g1 := hr.1 (1 + 3 * q + 1) (by omega)
      have g2 := hr.1 (1 + 3 * q + 2) (by omega)
      rw [r0.1, r0.2] at g0
      rw [r1.1, r1.2] at g1
      rw [r2.1, r2.2] at g2
      rw [show 31 * r + 1 + 3 * q = 31 * r + (1 + 3 * q + 0) by omega, show 31 * r + (1 + 3 * q + 0) + 1 = 31 * r + (1 + 3 * q + 1) by omega, show 31 * r + (1 + 3 * q + 0) + 2 = 31 * r + (1 + 3 * q + 2) by omega, e0, e1, e2]
      exact ⟨g0, g1, g2⟩
  · refine ⟨by rw [h2 _ (by omega)]; exact (ha r hr8).1, fun q hq => ?_⟩
    rw [h2 _ (by omega), h2 _ (by omega), h2 _ (by omega)]
    exact (ha r hr8).2 q hq
theorem row_C {a b told : Nat → Int32} {k : Nat} (hk : k ≤ 1) (ha : mCho a) (hr : okRow 3 told) (h1 : ∀ i, i < 20 → b (20 * k + i) = told i) (h2 : ∀ j, j < 20 * k ∨ 20 * k + 20 ≤ j → b j = a j) : mCho b := by
  intro r hr8
  by_cases hrk : r = k
  · subst hrk
    refine ⟨?_, ?_, fun q hq => ?_⟩
    · have e := h1 0 (by omega)
      rw [Nat.add_zero] at e
      rw [e]; exact hr.1 0 (by omega)
    · rw [h1 19 (by omega)]; exact hr.1 19 (by omega)
    · have e0 := h1 (1 + 2 * q + 0) (by omega)
      have e1 := h1 (1 + 2 * q + 1) (by omega)
      have r0 := rg3 hq (show 0 < 2 by omega)
      have r1 := rg3 hq (show 1 < 2 by omega)
      have g0 := hr.1 (1 + 2 * q + 0) (by omega)
      have g1 := hr.1 (1 + 2 * q + 1) (by omega)
      rw [r0.1, r0.2] at g0
      rw [r1.1, r1.2] at g1
      rw [show 20 * r + 1 + 2 * q = 20 * r + (1 + 2 * q + 0) by omega, show 20 * r + (1 + 2 * q + 0) + 1 = 20 * r + (1 + 2 * q + 1) by omega, e0, e1]
      exact ⟨g0, g1⟩
  · refine ⟨by rw [h2 _ (by omega)]; exact (ha r hr8).1, by rw [h2 _ (by omega)]; exact (ha r hr8).2.1, fun q hq => ?_⟩
    rw [h2 _ (by omega), h2 _ (by omega)]
    exact (ha r hr8).2.2 q hq
theorem sp_storeAllT {l e s c told : Nat → Int32} {o k : Nat} {post : (Nat → Int32) → (Nat → Int32) → (Nat → Int32) → (Nat → Int32) → Prop} (ho : o ≤ 3) (hk : k ≤ 1) (hl : mLand l) (he : mEve e) (hs : mSig s) (hc : mCho c) (hr : okRow o told) (h : ∀ l e s c, mLand l → mEve e → mSig s → mCho c → post l e s c) : q_m_storeAll_0 l e s c told (nI o) (nI k) post := by
  refine ⟨fun g => ?_, fun g => ?_, fun g => ?_, fun g => ?_⟩
  · rw [nI_toInt (by omega)] at g
    have e3 : o = 3 := by omega
    subst e3
    exact sp_store9E hk (fun b h1 h2 => h _ _ _ _ hl he hs (row_C hk hc hr h1 h2))
  · have e3 : o = 0 := (nI_eq (b := 0) (by omega) (by omega)).mp g
    subst e3
    exact sp_store6E hk (fun b h1 h2 => h _ _ _ _ (row_L hk hl hr h1 h2) he hs hc)
  · have e3 : o = 1 := (nI_eq (b := 1) (by omega) (by omega)).mp g
    subst e3
    exact sp_store7E hk (fun b h1 h2 => h _ _ _ _ hl (row_E hk he hr h1 h2) hs hc)
  · have e3 : o = 2 := (nI_eq (b := 2) (by omega) (by omega)).mp g
    subst e3
    exact sp_store8E hk (fun b h1 h2 => h _ _ _ _ hl he (row_S hk hs hr h1 h2) hc)
theorem s_m_text_0 {f_code : Int32} {a_tape : Nat → Int32} {a_size : Nat → Int32} {a_fault : Nat → Int32} {a_faultPlace : Nat → Int32} {a_many : Nat → Int32} {a_lands : Nat → Int32} {a_evenings : Nat → Int32} {a_sights : Nat → Int32} {a_choirs : Nat → Int32} {f_reached : Int32} {f_length : Int32} {f_begins : Int32} {f_sort : Int32} {f_value : Int32} {f_word : Int64} {f_wrongAt : Int32} {f_laterFault : Int32} {f_laterPlace : Int32} {a_told : Nat → Int32} {a_read : Nat → Int32} {f_farHut : Int32} {f_farSinger : Int32} {f_good : Int32} {x1 : Int32} {x2 : Int32} {post : Int32 → (Int32) → (Nat → Int32) → (Nat → Int32) → (Nat → Int32) → (Nat → Int32) → (Nat → Int32) → (Nat → Int32) → (Nat → Int32) → (Nat → Int32) → (Int32) → (Int32) → (Int32) → (Int32) → (Int32) → (Int64) → (Int32) → (Int32) → (Int32) → (Nat → Int32) → (Nat → Int32) → (Int32) → (Int32) → (Int32) → Prop} (k_f_code : iv 0 0 f_code) (k_a_tape : ∀ j, iv (-128) 127 (a_tape j)) (k_a_size : ∀ j, iv 0 600 (a_size j)) (k_a_many : ∀ j, iv 0 2 (a_many j)) (k_a_lands : mLand a_lands) (k_a_evenings : mEve a_evenings) (k_a_sights : mSig a_sights) (k_a_choirs : mCho a_choirs) (hpost : ∀ (r : Int32) (f_code : Int32) (a_size : Nat → Int32) (a_fault : Nat → Int32) (a_faultPlace : Nat → Int32) (a_many : Nat → Int32) (a_lands : Nat → Int32) (a_evenings : Nat → Int32) (a_sights : Nat → Int32) (a_choirs : Nat → Int32) (f_reached : Int32) (f_length : Int32) (f_begins : Int32) (f_sort : Int32) (f_value : Int32) (f_word : Int64) (f_wrongAt : Int32) (f_laterFault : Int32) (f_laterPlace : Int32) (a_told : Nat → Int32) (a_read : Nat → Int32) (f_farHut : Int32) (f_farSinger : Int32) (f_good : Int32), (iv 0 0 f_code) → (∀ j, iv 0 600 (a_size j)) → (∀ j, iv 0 2 (a_many j)) → (mLand a_lands) → (mEve a_evenings) → (mSig a_sights) → (mCho a_choirs) → post r f_code a_size a_fault a_faultPlace a_many a_lands a_evenings a_sights a_choirs f_reached f_length f_begins f_sort f_value f_word f_wrongAt f_laterFault f_laterPlace a_told a_read f_farHut f_farSinger f_good) : q_m_text_0 f_code a_tape a_size a_fault a_faultPlace a_many a_lands a_evenings a_sights a_choirs f_reached f_length f_begins f_sort f_value f_word f_wrongAt f_laterFault f_laterPlace a_told a_read f_farHut f_farSinger f_good x1 x2 post := by
  intro vl el z ez fa ef fp ep
  have hz : ∀ j, iv 0 600 (z j) := iv_upd ez k_a_size (iv_lit (by decide))
  have hvl : iv 0 600 vl := iv_eq el (k_a_size _)
  obtain ⟨n, rfl, -, hn, hn2⟩ := iv_nI hvl (by omega)
  refine sp_in (fun _ => iz (hpost _ _ _ _ _ _ _ _ _ _ _ _ _ _ _ _ _ _ _ _ _ _ _ _ (iv_lit (by decide)) hz k_a_many k_a_lands k_a_evenings k_a_sights k_a_choirs)) (fun a1 a2 => oi ?_)
  obtain ⟨o, rfl, -, ho, ho2⟩ := iv_nI (iv_of (l := 0) (h := 3) rfl rfl a1 a2) (by omega)
  have hx : vp_in (nI o) 16 := vp_in_nI (by omega) (by omega)
  rw [nI_clamp (by omega)]
  have hmo := k_a_many o
  have k75 : (x2 = -1 → ¬ a_many o = 2) → (¬ x2 = -1 → ∃ K, K ≤ 1 ∧ x2 = nI K) → q_m_text_75 0 a_tape z fa fp a_many a_lands a_evenings a_sights a_choirs f_reached (nI n) f_begins f_sort f_value f_word f_wrongAt f_laterFault f_laterPlace a_told a_read f_farHut f_farSinger f_good (nI o) x2 post := by
    intro q1 q2
    refine sp_readTextT (by omega) (by omega) (fun _ _ _ _ _ _ _ _ _ _ _ _ _ _ _ => zi (hpost _ _ _ _ _ _ _ _ _ _ _ _ _ _ _ _ _ _ _ _ _ _ _ _ (iv_lit (by decide)) hz k_a_many k_a_lands k_a_evenings k_a_sights k_a_choirs)) (fun fa fp re be so va wd wr lf lp told rd fh fs gd hok => io ?_)
    have k118 : ∀ (k : Nat) (y : Int32), k ≤ 1 → iv 0 2 (a_many o + y) → q_m_text_118 0 a_tape z fa fp a_many a_lands a_evenings a_sights a_choirs re (nI n) be so va wd wr lf lp told rd fh fs gd (nI o) (nI k) (nI o) (a_many o) y post := by
      intro k y hk hy v1 e1
      refine ⟨hx, fun m1 em => ?_⟩
      refine sp_storeAllT (by omega) hk k_a_lands k_a_evenings k_a_sights k_a_choirs hok (fun l e s c h1 h2 h3 h4 => hpost _ _ _ _ _ _ _ _ _ _ _ _ _ _ _ _ _ _ _ _ _ _ _ _ (iv_lit (by decide)) hz (iv_upd em k_a_many (iv_eq e1 hy)) h1 h2 h3 h4)
    have y0 : iv 0 2 (a_many o + 0) := iv_add hmo (iv_lit (l := 0) (h := 0) (by decide)) (by decide)
    refine ⟨fun h => ?_, fun h => ⟨hx, ?_⟩⟩
    · obtain ⟨K, hK, rfl⟩ := q2 h
      refine ⟨hx, fun _ => ?_, fun h9 => absurd h9 h⟩
      rw [nI_clamp (by omega)]
      exact k118 K 0 hK y0
    · have hm1 : iv 0 1 (a_many o) := iv_ne (q1 h) hmo (iv_lit (l := 2) (h := 2) (by decide)) (by decide)
      obtain ⟨K, hKe, -, hK, hK2⟩ := iv_nI hm1 (by omega)
      refine ⟨hx, fun h9 => absurd h h9, fun _ => ?_⟩
      rw [nI_clamp (by omega)]
      have h9 := k118 K 1 (by omega) (iv_add hm1 (iv_lit (l := 1) (h := 1) (by decide)) (by decide))
      rw [← hKe] at h9
      exact h9
  refine ⟨fun hne => ?_, fun hm => ⟨hx, fun h2 => k75 (fun _ => h2) (fun h => absurd hm h), fun _ => hpost _ _ _ _ _ _ _ _ _ _ _ _ _ _ _ _ _ _ _ _ _ _ _ _ (iv_lit (by decide)) hz k_a_many k_a_lands k_a_evenings k_a_sights k_a_choirs⟩⟩
  refine ⟨hx, ?_⟩
  rw [nI_clamp (by omega)]
  refine sp_in (fun _ => ⟨rfl, zi (hpost _ _ _ _ _ _ _ _ _ _ _ _ _ _ _ _ _ _ _ _ _ _ _ _ (iv_lit (by decide)) hz k_a_many k_a_lands k_a_evenings k_a_sights k_a_choirs)⟩) (fun g1 g2 => ⟨rfl, io (k75 (fun h => absurd h hne) (fun _ => ?_))⟩)
  have hxx : iv 0 1 x2 := iv_lea (r_le g2) (iv_leb (l := 0) (h := 2147483647) (r_le g1) (iv_lit (l := 0) (h := 0) (by decide)) (iv_top x2) (by decide)) (iv_sub (l := -1) (h := 1) hmo (iv_lit (l := 1) (h := 1) (by decide)) (by decide)) (by decide)
  obtain ⟨K, hKe, -, hK, hK2⟩ := iv_nI hxx (by omega)
  exact ⟨K, by omega, hKe⟩
theorem sp_fourT {t z : Nat → Int32} {s : Nat} {v : Int32} {post : (Nat → Int32) → (Nat → Int32) → Prop} (hs : z 0 = nI s) (h4 : s + 4 ≤ 600) (hz : ∀ j, iv 0 600 (z j)) (ht : ∀ j, iv (-128) 127 (t j)) (h : ∀ t' z', z' 0 = nI (s + 4) → (∀ j, iv 0 600 (z' j)) → (∀ j, iv (-128) 127 (t' j)) → post t' z') : q_m_four_0 t z v post := by
  intro P hP
  have st : ∀ (x y : Int32) (t z : Nat → Int32) (m : Nat), ¬ x < 0 → y = x + -8 → z 0 = nI m → m + 1 ≤ 600 → (∀ j, iv 0 600 (z j)) → (∀ j, iv (-128) 127 (t j)) → (∀ t' z', z' 0 = nI (m + 1) → (∀ j, iv 0 600 (z' j)) → (∀ j, iv (-128) 127 (t' j)) → P y t' z') → P x t z := by
    intro x y t z m h1 h2 h3 h4 h5 h6 h7
    apply hP
    refine ⟨fun h => absurd h h1, fun _ v1 e1 => ?_⟩
    rw [c_0, h3]
    refine ⟨vp_in_nI (by omega) (by omega), fun t1 e2 v2 e3 z1 e4 v3 e5 => ?_⟩
    rw [nI_1] at e3
    rw [e5, ← h2]
    refine h7 t1 z1 ?_ (iv_upd e4 h5 (by rw [e3]; exact iv_ofN (by omega) (by omega) (by omega))) (iv_updB e2 h6)
    rw [e4, e3]; exact up_s
  refine st 24 16 _ _ s (by decide) (by decide) hs (by omega) hz ht fun t1 z1 a1 b1 d1 => ?_
  refine st 16 8 _ _ (s + 1) (by decide) (by decide) a1 (by omega) b1 d1 fun t2 z2 a2 b2 d2 => ?_
  refine st 8 0 _ _ (s + 2) (by decide) (by decide) a2 (by omega) b2 d2 fun t3 z3 a3 b3 d3 => ?_
  refine st 0 (-8) _ _ (s + 3) (by decide) (by decide) a3 (by omega) b3 d3 fun t4 z4 a4 b4 d4 => ?_
  apply hP
  exact ⟨fun _ => h t4 z4 a4 b4 d4, fun h => absurd (by decide) h⟩
theorem s_m_feed_0 {f_code : Int32} {a_tape : Nat → Int32} {a_size : Nat → Int32} {x1 : Int32} {x2 : Int32} {x3 : Int32} {x4 : Int32} {x5 : Int32} {post : Int32 → (Int32) → (Nat → Int32) → (Nat → Int32) → Prop} (k_f_code : iv 0 0 f_code) (k_a_tape : ∀ j, iv (-128) 127 (a_tape j)) (k_a_size : ∀ j, iv 0 600 (a_size j)) (hpost : ∀ (r : Int32) (f_code : Int32) (a_tape : Nat → Int32) (a_size : Nat → Int32), (iv 0 0 f_code) → (∀ j, iv (-128) 127 (a_tape j)) → (∀ j, iv 0 600 (a_size j)) → post r f_code a_tape a_size) : q_m_feed_0 f_code a_tape a_size x1 x2 x3 x4 x5 post := by
  refine ⟨fun hc => ?_, fun _ => hpost _ _ _ _ (iv_lit (by decide)) k_a_tape k_a_size⟩
  obtain ⟨s, hs, -, hs6, hs2⟩ := iv_nI (k_a_size 0) (by omega)
  have hle : s + 20 ≤ 600 := by
    have e20 : (20 : Int32) = nI 20 := rfl
    have e600 : (600 : Int32) = nI 600 := rfl
    rw [c_0, hs, e20, e600, nI_add] at hc
    exact (nI_leI (by omega) (by omega)).mp hc
  refine sp_fourT hs (by omega) k_a_size k_a_tape fun t1 z1 a1 b1 d1 => ?_
  refine sp_fourT a1 (by omega) b1 d1 fun t2 z2 a2 b2 d2 => ?_
  refine sp_fourT a2 (by omega) b2 d2 fun t3 z3 a3 b3 d3 => ?_
  refine sp_fourT a3 (by omega) b3 d3 fun t4 z4 a4 b4 d4 => ?_
  refine sp_fourT a4 (by omega) b4 d4 fun t5 z5 a5 b5 d5 => ?_
  exact hpost _ _ _ _ (iv_lit (by decide)) d5 b5
theorem sp_row2E {a : Nat → Int32} {f g : Nat} {post : (Nat → Int32) → Prop} (hf : f ≤ 3) (hg : g ≤ 3) (hne : ¬ f = g) (h : ∀ a', (∀ i, i < 1 → a' (1 * g + i) = a (1 * f + i)) → (∀ j, j < 1 * g ∨ 1 * g + 1 ≤ j → a' j = a j) → post a') : q_m_copyRow_2_0 a 1 (nI f) (nI g) post := by
  intro P hP
  have ef : (1 : Int32) * nI f = nI (1 * f) := pk_mul 1 f
  have eg : (1 : Int32) * nI g = nI (1 * g) := pk_mul 1 g
  have loop : ∀ (n i : Nat) (b : Nat → Int32), n + i = 1 → (∀ q, q < i → b (1 * g + q) = a (1 * f + q)) → (∀ j, j < 1 * g ∨ 1 * g + 1 ≤ j → b j = a j) → P (nI i) b := by
    intro n
    induction n with
    | zero =>
      intro i b hi h1 h2
      apply hP
      exact ⟨fun _ => h b (fun q hq => h1 q (by omega)) h2, fun h9 => absurd (nI_le (a := 1) (by omega) (by omega)) h9⟩
    | succ n ih =>
      intro i b hi h1 h2
      apply hP
      refine ⟨fun h9 => absurd h9 (nI_ge (b := 1) (by omega) (by omega)), fun _ => ?_⟩
      rw [ef, eg, nI_add, nI_add]
      refine ⟨vp_in_nI (by omega) (by omega), fun v1 e1 => ⟨vp_in_nI (by omega) (by omega), fun b1 e2 v2 e3 => ?_⟩⟩
      rw [nI_clamp (by omega)] at e1 e2
      rw [e3, nI_1]
      rw [h2 _ (by omega)] at e1
      subst e1 e2
      refine ih (i + 1) _ (by omega) (fun q hq => ?_) (fun j hj => ?_)
      · by_cases hqi : q = i
        · subst hqi; exact up_s
        · rw [up_n (by omega)]; exact h1 q (by omega)
      · rw [up_n (by omega)]; exact h2 j hj
  exact loop 1 0 a (by omega) (fun q hq => absurd hq (by omega)) (fun j _ => rfl)
theorem sp_row3E {a : Nat → Int32} {f g : Nat} {post : (Nat → Int32) → Prop} (hf : f ≤ 3) (hg : g ≤ 3) (hne : ¬ f = g) (h : ∀ a', (∀ i, i < 1 → a' (1 * g + i) = a (1 * f + i)) → (∀ j, j < 1 * g ∨ 1 * g + 1 ≤ j → a' j = a j) → post a') : q_m_copyRow_3_0 a 1 (nI f) (nI g) post := by
  intro P hP
  have ef : (1 : Int32) * nI f = nI (1 * f) := pk_mul 1 f
  have eg : (1 : Int32) * nI g = nI (1 * g) := pk_mul 1 g
  have loop : ∀ (n i : Nat) (b : Nat → Int32), n + i = 1 → (∀ q, q < i → b (1 * g + q) = a (1 * f + q)) → (∀ j, j < 1 * g ∨ 1 * g + 1 ≤ j → b j = a j) → P (nI i) b := by
    intro n
    induction n with
    | zero =>
      intro i b hi h1 h2
      apply hP
      exact ⟨fun _ => h b (fun q hq => h1 q (by omega)) h2, fun h9 => absurd (nI_le (a := 1) (by omega) (by omega)) h9⟩
    | succ n ih =>
      intro i b hi h1 h2
      apply hP
      refine ⟨fun h9 => absurd h9 (nI_ge (b := 1) (by omega) (by omega)), fun _ => ?_⟩
      rw [ef, eg, nI_add, nI_add]
      refine ⟨vp_in_nI (by omega) (by omega), fun v1 e1 => ⟨vp_in_nI (by omega) (by omega), fun b1 e2 v2 e3 => ?_⟩⟩
      rw [nI_clamp (by omega)] at e1 e2
      rw [e3, nI_1]
      rw [h2 _ (by omega)] at e1
      subst e1 e2
      refine ih (i + 1) _ (by omega) (fun q hq => ?_) (fun j hj => ?_)
      · by_cases hqi : q = i
        · subst hqi; exact up_s
        · rw [up_n (by omega)]; exact h1 q (by omega)
      · rw [up_n (by omega)]; exact h2 j hj
  exact loop 1 0 a (by omega) (fun q hq => absurd hq (by omega)) (fun j _ => rfl)
theorem sp_row4E {a : Nat → Int32} {f g : Nat} {post : (Nat → Int32) → Prop} (hf : f ≤ 3) (hg : g ≤ 3) (hne : ¬ f = g) (h : ∀ a', (∀ i, i < 1 → a' (1 * g + i) = a (1 * f + i)) → (∀ j, j < 1 * g ∨ 1 * g + 1 ≤ j → a' j = a j) → post a') : q_m_copyRow_4_0 a 1 (nI f) (nI g) post := by
  intro P hP
  have ef : (1 : Int32) * nI f = nI (1 * f) := pk_mul 1 f
  have eg : (1 : Int32) * nI g = nI (1 * g) := pk_mul 1 g
  have loop : ∀ (n i : Nat) (b : Nat → Int32), n + i = 1 → (∀ q, q < i → b (1 * g + q) = a (1 * f + q)) → (∀ j, j < 1 * g ∨ 1 * g + 1 ≤ j → b j = a j) → P (nI i) b := by
    intro n
    induction n with
    | zero =>
      intro i b hi h1 h2
      apply hP
      exact ⟨fun _ => h b (fun q hq => h1 q (by omega)) h2, fun h9 => absurd (nI_le (a := 1) (by omega) (by omega)) h9⟩
    | succ n ih =>
      intro i b hi h1 h2
      apply hP
      refine ⟨fun h9 => absurd h9 (nI_ge (b := 1) (by omega) (by omega)), fun _ => ?_⟩
      rw [ef, eg, nI_add, nI_add]
      refine ⟨vp_in_nI (by omega) (by omega), fun v1 e1 => ⟨vp_in_nI (by omega) (by omega), fun b1 e2 v2 e3 => ?_⟩⟩
      rw [nI_clamp (by omega)] at e1 e2
      rw [e3, nI_1]
      rw [h2 _ (by omega)] at e1
      subst e1 e2
      refine ih (i + 1) _ (by omega) (fun q hq => ?_) (fun j hj => ?_)
      · by_cases hqi : q = i
        · subst hqi; exact up_s
        · rw [up_n (by omega)]; exact h1 q (by omega)
      · rw [up_n (by omega)]; exact h2 j hj
  exact loop 1 0 a (by omega) (fun q hq => absurd hq (by omega)) (fun j _ => rfl)
theorem sp_row5E {a : Nat → Int32} {f g : Nat} {post : (Nat → Int32) → Prop} (hf : f ≤ 3) (hg : g ≤ 3) (hne : ¬ f = g) (h : ∀ a', (∀ i, i < 4 → a' (4 * g + i) = a (4 * f + i)) → (∀ j, j < 4 * g ∨ 4 * g + 4 ≤ j → a' j = a j) → post a') : q_m_copyRow_5_0 a 4 (nI f) (nI g) post := by
  intro P hP
  have ef : (4 : Int32) * nI f = nI (4 * f) := pk_mul 4 f
  have eg : (4 : Int32) * nI g = nI (4 * g) := pk_mul 4 g
  have loop : ∀ (n i : Nat) (b : Nat → Int32), n + i = 4 → (∀ q, q < i → b (4 * g + q) = a (4 * f + q)) → (∀ j, j < 4 * g ∨ 4 * g + 4 ≤ j → b j = a j) → P (nI i) b := by
    intro n
    induction n with
    | zero =>
      intro i b hi h1 h2
      apply hP
      exact ⟨fun _ => h b (fun q hq => h1 q (by omega)) h2, fun h9 => absurd (nI_le (a := 4) (by omega) (by omega)) h9⟩
    | succ n ih =>
      intro i b hi h1 h2
      apply hP
      refine ⟨fun h9 => absurd h9 (nI_ge (b := 4) (by omega) (by omega)), fun _ => ?_⟩
      rw [ef, eg, nI_add, nI_add]
      refine ⟨vp_in_nI (by omega) (by omega), fun v1 e1 => ⟨vp_in_nI (by omega) (by omega), fun b1 e2 v2 e3 => ?_⟩⟩
      rw [nI_clamp (by omega)] at e1 e2
      rw [e3, nI_1]
      rw [h2 _ (by omega)] at e1
      subst e1 e2
      refine ih (i + 1) _ (by omega) (fun q hq => ?_) (fun j hj => ?_)
      · by_cases hqi : q = i
        · subst hqi; exact up_s
        · rw [up_n (by omega)]; exact h1 q (by omega)
      · rw [up_n (by omega)]; exact h2 j hj
  exact loop 4 0 a (by omega) (fun q hq => absurd hq (by omega)) (fun j _ => rfl)
theorem sp_row6E {a : Nat → Int32} {f g : Nat} {post : (Nat → Int32) → Prop} (hf : f ≤ 3) (hg : g ≤ 3) (hne : ¬ f = g) (h : ∀ a', (∀ i, i < 264 → a' (264 * g + i) = a (264 * f + i)) → (∀ j, j < 264 * g ∨ 264 * g + 264 ≤ j → a' j = a j) → post a') : q_m_copyRow_6_0 a 264 (nI f) (nI g) post := by
  intro P hP
  have ef : (264 : Int32) * nI f = nI (264 * f) := pk_mul 264 f
  have eg : (264 : Int32) * nI g = nI (264 * g) := pk_mul 264 g
  have loop : ∀ (n i : Nat) (b : Nat → Int32), n + i = 264 → (∀ q, q < i → b (264 * g + q) = a (264 * f + q)) → (∀ j, j < 264 * g ∨ 264 * g + 264 ≤ j → b j = a j) → P (nI i) b := by
    intro n
    induction n with
    | zero =>
      intro i b hi h1 h2
      apply hP
      exact ⟨fun _ => h b (fun q hq => h1 q (by omega)) h2, fun h9 => absurd (nI_le (a := 264) (by omega) (by omega)) h9⟩
    | succ n ih =>
      intro i b hi h1 h2
      apply hP
      refine ⟨fun h9 => absurd h9 (nI_ge (b := 264) (by omega) (by omega)), fun _ => ?_⟩
      rw [ef, eg, nI_add, nI_add]
      refine ⟨vp_in_nI (by omega) (by omega), fun v1 e1 => ⟨vp_in_nI (by omega) (by omega), fun b1 e2 v2 e3 => ?_⟩⟩
      rw [nI_clamp (by omega)] at e1 e2
      rw [e3, nI_1]
      rw [h2 _ (by omega)] at e1
      subst e1 e2
      refine ih (i + 1) _ (by omega) (fun q hq => ?_) (fun j hj => ?_)
      · by_cases hqi : q = i
        · subst hqi; exact up_s
        · rw [up_n (by omega)]; exact h1 q (by omega)
      · rw [up_n (by omega)]; exact h2 j hj
  exact loop 264 0 a (by omega) (fun q hq => absurd hq (by omega)) (fun j _ => rfl)
theorem sp_row7E {a : Nat → Int32} {f g : Nat} {post : (Nat → Int32) → Prop} (hf : f ≤ 3) (hg : g ≤ 3) (hne : ¬ f = g) (h : ∀ a', (∀ i, i < 242 → a' (242 * g + i) = a (242 * f + i)) → (∀ j, j < 242 * g ∨ 242 * g + 242 ≤ j → a' j = a j) → post a') : q_m_copyRow_7_0 a 242 (nI f) (nI g) post := by
  intro P hP
  have ef : (242 : Int32) * nI f = nI (242 * f) := pk_mul 242 f
  have eg : (242 : Int32) * nI g = nI (242 * g) := pk_mul 242 g
  have loop : ∀ (n i : Nat) (b : Nat → Int32), n + i = 242 → (∀ q, q < i → b (242 * g + q) = a (242 * f + q)) → (∀ j, j < 242 * g ∨ 242 * g + 242 ≤ j → b j = a j) → P (nI i) b := by
    intro n
    induction n with
    | zero =>
      intro i b hi h1 h2
      apply hP
      exact ⟨fun _ => h b (fun q hq => h1 q (by omega)) h2, fun h9 => absurd (nI_le (a := 242) (by omega) (by omega)) h9⟩
    | succ n ih =>
      intro i b hi h1 h2
      apply hP
      refine ⟨fun h9 => absurd h9 (nI_ge (b := 242) (by omega) (by omega)), fun _ => ?_⟩
      rw [ef, eg, nI_add, nI_add]
      refine ⟨vp_in_nI (by omega) (by omega), fun v1 e1 => ⟨vp_in_nI (by omega) (by omega), fun b1 e2 v2 e3 => ?_⟩⟩
      rw [nI_clamp (by omega)] at e1 e2
      rw [e3, nI_1]
      rw [h2 _ (by omega)] at e1
      subst e1 e2
      refine ih (i + 1) _ (by omega) (fun q hq => ?_) (fun j hj => ?_)
      · by_cases hqi : q = i
        · subst hqi; exact up_s
        · rw [up_n (by omega)]; exact h1 q (by omega)
      · rw [up_n (by omega)]; exact h2 j hj
  exact loop 242 0 a (by omega) (fun q hq => absurd hq (by omega)) (fun j _ => rfl)
theorem sp_row8E {a : Nat → Int32} {f g : Nat} {post : (Nat → Int32) → Prop} (hf : f ≤ 3) (hg : g ≤ 3) (hne : ¬ f = g) (h : ∀ a', (∀ i, i < 62 → a' (62 * g + i) = a (62 * f + i)) → (∀ j, j < 62 * g ∨ 62 * g + 62 ≤ j → a' j = a j) → post a') : q_m_copyRow_8_0 a 62 (nI f) (nI g) post := by
  intro P hP
  have ef : (62 : Int32) * nI f = nI (62 * f) := pk_mul 62 f
  have eg : (62 : Int32) * nI g = nI (62 * g) := pk_mul 62 g
  have loop : ∀ (n i : Nat) (b : Nat → Int32), n + i = 62 → (∀ q, q < i → b (62 * g + q) = a (62 * f + q)) → (∀ j, j < 62 * g ∨ 62 * g + 62 ≤ j → b j = a j) → P (nI i) b := by
    intro n
    induction n with
    | zero =>
      intro i b hi h1 h2
      apply hP
      exact ⟨fun _ => h b (fun q hq => h1 q (by omega)) h2, fun h9 => absurd (nI_le (a := 62) (by omega) (by omega)) h9⟩
    | succ n ih =>
      intro i b hi h1 h2
      apply hP
      refine ⟨fun h9 => absurd h9 (nI_ge (b := 62) (by omega) (by omega)), fun _ => ?_⟩
      rw [ef, eg, nI_add, nI_add]
      refine ⟨vp_in_nI (by omega) (by omega), fun v1 e1 => ⟨vp_in_nI (by omega) (by omega), fun b1 e2 v2 e3 => ?_⟩⟩
      rw [nI_clamp (by omega)] at e1 e2
      rw [e3, nI_1]
      rw [h2 _ (by omega)] at e1
      subst e1 e2
      refine ih (i + 1) _ (by omega) (fun q hq => ?_) (fun j hj => ?_)
      · by_cases hqi : q = i
        · subst hqi; exact up_s
        · rw [up_n (by omega)]; exact h1 q (by omega)
      · rw [up_n (by omega)]; exact h2 j hj
  exact loop 62 0 a (by omega) (fun q hq => absurd hq (by omega)) (fun j _ => rfl)
theorem sp_row9E {a : Nat → Int32} {f g : Nat} {post : (Nat → Int32) → Prop} (hf : f ≤ 3) (hg : g ≤ 3) (hne : ¬ f = g) (h : ∀ a', (∀ i, i < 40 → a' (40 * g + i) = a (40 * f + i)) → (∀ j, j < 40 * g ∨ 40 * g + 40 ≤ j → a' j = a j) → post a') : q_m_copyRow_9_0 a 40 (nI f) (nI g) post := by
  intro P hP
  have ef : (40 : Int32) * nI f = nI (40 * f) := pk_mul 40 f
  have eg : (40 : Int32) * nI g = nI (40 * g) := pk_mul 40 g
  have loop : ∀ (n i : Nat) (b : Nat → Int32), n + i = 40 → (∀ q, q < i → b (40 * g + q) = a (40 * f + q)) → (∀ j, j < 40 * g ∨ 40 * g + 40 ≤ j → b j = a j) → P (nI i) b := by
    intro n
    induction n with
    | zero =>
      intro i b hi h1 h2
      apply hP
      exact ⟨fun _ => h b (fun q hq => h1 q (by omega)) h2, fun h9 => absurd (nI_le (a := 40) (by omega) (by omega)) h9⟩
    | succ n ih =>
      intro i b hi h1 h2
      apply hP
      refine ⟨fun h9 => absurd h9 (nI_ge (b := 40) (by omega) (by omega)), fun _ => ?_⟩
      rw [ef, eg, nI_add, nI_add]
      refine ⟨vp_in_nI (by omega) (by omega), fun v1 e1 => ⟨vp_in_nI (by omega) (by omega), fun b1 e2 v2 e3 => ?_⟩⟩
      rw [nI_clamp (by omega)] at e1 e2
      rw [e3, nI_1]
      rw [h2 _ (by omega)] at e1
      subst e1 e2
      refine ih (i + 1) _ (by omega) (fun q hq => ?_) (fun j hj => ?_)
      · by_cases hqi : q = i
        · subst hqi; exact up_s
        · rw [up_n (by omega)]; exact h1 q (by omega)
      · rw [up_n (by omega)]; exact h2 j hj
  exact loop 40 0 a (by omega) (fun q hq => absurd hq (by omega)) (fun j _ => rfl)
theorem cp_any {l h : Int} {a b : Nat → Int32} {W f g : Nat} (ha : ∀ j, iv l h (a j)) (h1 : ∀ i, i < W → b (W * g + i) = a (W * f + i)) (h2 : ∀ j, j < W * g ∨ W * g + W ≤ j → b j = a j) : ∀ j, iv l h (b j) := by
  intro j
  by_cases hj : j < W * g ∨ W * g + W ≤ j
  · rw [h2 j hj]; exact ha j
  · have e := h1 (j - W * g) (by omega)
    rw [show W * g + (j - W * g) = j by omega] at e
    rw [e]; exact ha _
theorem cp_L {a b : Nat → Int32} {f g : Nat} (hf : f ≤ 3) (hg : g ≤ 3) (ha : mLand a) (h1 : ∀ i, i < 264 → b (264 * g + i) = a (264 * f + i)) (h2 : ∀ j, j < 264 * g ∨ 264 * g + 264 ≤ j → b j = a j) : mLand b := by
  have key : ∀ r, r < 8 → ∃ r', r' < 8 ∧ ∀ i, i < 132 → b (132 * r + i) = a (132 * r' + i) := by
    intro r hr
    by_cases hrg : r / 2 = g
    · refine ⟨2 * f + r % 2, by omega, fun i hi => ?_⟩
      have e := h1 (132 * (r % 2) + i) (by omega)
      rw [show 264 * g + (132 * (r % 2) + i) = 132 * r + i by omega, show 264 * f + (132 * (r % 2) + i) = 132 * (2 * f + r % 2) + i by omega] at e
      exact e
    · exact ⟨r, hr, fun i hi => h2 _ (by omega)⟩
  refine ⟨fun r j hr hj => ?_, fun r hr hn => ?_⟩
  · obtain ⟨r', hr', hk⟩ := key r hr
    rw [hk j hj]; exact ha.1 r' j hr' hj
  · obtain ⟨r', hr', hk⟩ := key r hr
    have e0 := hk 0 (by omega)
    rw [Nat.add_zero, Nat.add_zero] at e0
    rw [hk 1 (by omega)] at hn
    rw [e0]; exact ha.2 r' hr' hn
theorem cp_E {a b : Nat → Int32} {f g : Nat} (hf : f ≤ 3) (hg : g ≤ 3) (ha : mEve a) (h1 : ∀ i, i < 242 → b (242 * g + i) = a (242 * f + i)) (h2 : ∀ j, j < 242 * g ∨ 242 * g + 242 ≤ j → b j = a j) : mEve b := by
  have key : ∀ r, r < 8 → ∃ r', r' < 8 ∧ ∀ i, i < 121 → b (121 * r + i) = a (121 * r' + i) := by
    intro r hr
    by_cases hrg : r / 2 = g
    · refine ⟨2 * f + r % 2, by omega, fun i hi => ?_⟩
      have e := h1 (121 * (r % 2) + i) (by omega)
      rw [show 242 * g + (121 * (r % 2) + i) = 121 * r + i by omega, show 242 * f + (121 * (r % 2) + i) = 121 * (2 * f + r % 2) + i by omega] at e
      exact e
    · exact ⟨r, hr, fun i hi => h2 _ (by omega)⟩
  intro r hr
  obtain ⟨r', hr', hk⟩ := key r hr
  have e0 := hk 0 (by omega)
  rw [Nat.add_zero, Nat.add_zero] at e0
  refine ⟨by rw [e0]; exact (ha r' hr').1, fun q hq => ?_⟩
  have g := (ha r' hr').2 q hq
  rw [Nat.add_assoc (121 * r) 1 (3 * q), Nat.add_assoc (121 * r), Nat.add_assoc (121 * r), hk _ (by omega), hk _ (by omega), hk _ (by omega)]
  rw [Nat.add_assoc (121 * r') 1 (3 * q), Nat.add_assoc (121 * r'), Nat.add_assoc (121 * r')] at g
  exact g
theorem cp_S {a b : Nat → Int32} {f g : Nat} (hf : f ≤ 3) (hg : g ≤ 3) (ha : mSig a) (h1 : ∀ i, i < 62 → b (62 * g + i) = a (62 * f + i)) (h2 : ∀ j, j < 62 * g ∨ 62 * g + 62 ≤ j → b j = a j) : mSig b := by
  have key : ∀ r, r < 8 → ∃ r', r' < 8 ∧ ∀ i, i < 31 → b (31 * r + i) = a (31 * r' + i) := by
    intro r hr
    by_cases hrg : r / 2 = g
    · refine ⟨2 * f + r % 2, by omega, fun i hi => ?_⟩
      have e := h1 (31 * (r % 2) + i) (by omega)
      rw [show 62 * g + (31 * (r % 2) + i) = 31 * r + i by omega, show 62 * f + (31 * (r % 2) + i) = 31 * (2 * f + r % 2) + i by omega] at e
      exact e
    · exact ⟨r, hr, fun i hi => h2 _ (by omega)⟩
  intro r hr
  obtain ⟨r', hr', hk⟩ := key r hr
  have e0 := hk 0 (by omega)
  rw [Nat.add_zero, Nat.add_zero] at e0
  refine ⟨by rw [e0]; exact (ha r' hr').1, fun q hq => ?_⟩
  have g := (ha r' hr').2 q hq
  rw [Nat.add_assoc (31 * r) 1 (3 * q), Nat.add_assoc (31 * r), Nat.add_assoc (31 * r), hk _ (by omega), hk _ (by omega), hk _ (by omega)]
  rw [Nat.add_assoc (31 * r') 1 (3 * q), Nat.add_assoc (31 * r'), Nat.add_assoc (31 * r')] at g
  exact g
theorem cp_C {a b : Nat → Int32} {f g : Nat} (hf : f ≤ 3) (hg : g ≤ 3) (ha : mCho a) (h1 : ∀ i, i < 40 → b (40 * g + i) = a (40 * f + i)) (h2 : ∀ j, j < 40 * g ∨ 40 * g + 40 ≤ j → b j = a j) : mCho b := by
  have key : ∀ r, r < 8 → ∃ r', r' < 8 ∧ ∀ i, i < 20 → b (20 * r + i) = a (20 * r' + i) := by
    intro r hr
    by_cases hrg : r / 2 = g
    · refine ⟨2 * f + r % 2, by omega, fun i hi => ?_⟩
      have e := h1 (20 * (r % 2) + i) (by omega)
      rw [show 40 * g + (20 * (r % 2) + i) = 20 * r + i by omega, show 40 * f + (20 * (r % 2) + i) = 20 * (2 * f + r % 2) + i by omega] at e
      exact e
    · exact ⟨r, hr, fun i hi => h2 _ (by omega)⟩
  intro r hr
  obtain ⟨r', hr', hk⟩ := key r hr
  have e0 := hk 0 (by omega)
  rw [Nat.add_zero, Nat.add_zero] at e0
  refine ⟨by rw [e0]; exact (ha r' hr').1, by rw [hk 19 (by omega)]; exact (ha r' hr').2.1, fun q hq => ?_⟩
  have g := (ha r' hr').2.2 q hq
  rw [Nat.add_assoc (20 * r) 1 (2 * q), Nat.add_assoc (20 * r), hk _ (by omega), hk _ (by omega)]
  rw [Nat.add_assoc (20 * r') 1 (2 * q), Nat.add_assoc (20 * r')] at g
  exact g
theorem sp_copyAllT {t z fa fp mn l e s c : Nat → Int32} {f g : Nat} {post : (Nat → Int32) → (Nat → Int32) → (Nat → Int32) → (Nat → Int32) → (Nat → Int32) → (Nat → Int32) → (Nat → Int32) → (Nat → Int32) → (Nat → Int32) → Prop} (hf : f ≤ 3) (hg : g ≤ 3) (hne : ¬ f = g) (ht : ∀ j, iv (-128) 127 (t j)) (hz : ∀ j, iv 0 600 (z j)) (hm : ∀ j, iv 0 2 (mn j)) (hl : mLand l) (he : mEve e) (hs : mSig s) (hc : mCho c)
    (h : ∀ t z fa fp mn l e s c, (∀ j, iv (-128) 127 (t j)) → (∀ j, iv 0 600 (z j)) → (∀ j, iv 0 2 (mn j)) → mLand l → mEve e → mSig s → mCho c → post t z fa fp mn l e s c) : q_m_copyAll_0 t z fa fp mn l e s c (nI f) (nI g) post := by
  intro P hP
  have ef : (600 : Int32) * nI f = nI (600 * f) := pk_mul 600 f
  have eg : (600 : Int32) * nI g = nI (600 * g) := pk_mul 600 g
  have loop : ∀ (n i : Nat) (t : Nat → Int32), n + i = 600 → (∀ j, iv (-128) 127 (t j)) → P (nI i) t := by
    intro n
    induction n with
    | zero =>
      intro i t hi ht
      apply hP
      refine ⟨fun _ => ?_, fun h2 => absurd (nI_le (a := 600) (by omega) (by omega)) h2⟩
      exact sp_row2E hf hg hne fun z' z1 z2 => sp_row3E hf hg hne fun _ _ _ => sp_row4E hf hg hne fun _ _ _ => sp_row5E hf hg hne fun m' m1 m2 => sp_row6E hf hg hne fun l' l1 l2 => sp_row7E hf hg hne fun e' e1 e2 => sp_row8E hf hg hne fun s' s1 s2 => sp_row9E hf hg hne fun c' c1 c2 => h _ _ _ _ _ _ _ _ _ ht (cp_any hz z1 z2) (cp_any hm m1 m2) (cp_L hf hg hl l1 l2) (cp_E hf hg he e1 e2) (cp_S hf hg hs s1 s2) (cp_C hf hg hc c1 c2)
    | succ n ih =>
      intro i t hi ht
      apply hP
      refine ⟨fun h2 => absurd h2 (nI_ge (b := 600) (by omega) (by omega)), fun _ => ?_⟩
      rw [ef, eg, nI_add, nI_add]
      refine ⟨vp_in_nI (by omega) (by omega), fun v1 _ => ⟨vp_in_nI (by omega) (by omega), fun t1 e1 v2 e2 => ?_⟩⟩
      rw [e2, nI_1]
      exact ih (i + 1) t1 (by omega) (iv_updB e1 ht)
  exact loop 600 0 t rfl ht
theorem s_m_image_0 {f_code : Int32} {a_tape : Nat → Int32} {a_size : Nat → Int32} {a_fault : Nat → Int32} {a_faultPlace : Nat → Int32} {a_many : Nat → Int32} {a_lands : Nat → Int32} {a_evenings : Nat → Int32} {a_sights : Nat → Int32} {a_choirs : Nat → Int32} {a_kept : Nat → Int32} {x1 : Int32} {post : Int32 → (Int32) → (Nat → Int32) → (Nat → Int32) → (Nat → Int32) → (Nat → Int32) → (Nat → Int32) → (Nat → Int32) → (Nat → Int32) → (Nat → Int32) → (Nat → Int32) → (Nat → Int32) → Prop} (k_f_code : iv 0 0 f_code) (k_a_tape : ∀ j, iv (-128) 127 (a_tape j)) (k_a_size : ∀ j, iv 0 600 (a_size j)) (k_a_many : ∀ j, iv 0 2 (a_many j)) (k_a_lands : mLand a_lands) (k_a_evenings : mEve a_evenings) (k_a_sights : mSig a_sights) (k_a_choirs : mCho a_choirs) (k_a_kept : ∀ j, iv 0 1 (a_kept j)) (hpost : ∀ (r : Int32) (f_code : Int32) (a_tape : Nat → Int32) (a_size : Nat → Int32) (a_fault : Nat → Int32) (a_faultPlace : Nat → Int32) (a_many : Nat → Int32) (a_lands : Nat → Int32) (a_evenings : Nat → Int32) (a_sights : Nat → Int32) (a_choirs : Nat → Int32) (a_kept : Nat → Int32), (iv 0 0 f_code) → (∀ j, iv (-128) 127 (a_tape j)) → (∀ j, iv 0 600 (a_size j)) → (∀ j, iv 0 2 (a_many j)) → (mLand a_lands) → (mEve a_evenings) → (mSig a_sights) → (mCho a_choirs) → (∀ j, iv 0 1 (a_kept j)) → post r f_code a_tape a_size a_fault a_faultPlace a_many a_lands a_evenings a_sights a_choirs a_kept) : q_m_image_0 f_code a_tape a_size a_fault a_faultPlace a_many a_lands a_evenings a_sights a_choirs a_kept x1 post := by
  refine sp_in (fun _ => zi (hpost _ _ _ _ _ _ _ _ _ _ _ _ (iv_lit (by decide)) k_a_tape k_a_size k_a_many k_a_lands k_a_evenings k_a_sights k_a_choirs k_a_kept)) (fun a1 a2 => io ?_)
  obtain ⟨j, rfl, -, hj, hj2⟩ := iv_nI (iv_of (l := 0) (h := 2) rfl rfl a1 a2) (by omega)
  rw [nI_1]
  refine sp_copyAllT (f := 0) (by omega) (by omega) (by omega) k_a_tape k_a_size k_a_many k_a_lands k_a_evenings k_a_sights k_a_choirs (fun t z fa fp mn l e s c h1 h2 h3 h4 h5 h6 h7 => ⟨vp_in_nI (by omega) (by omega), fun kp ek => ?_⟩)
  exact hpost _ _ _ _ _ _ _ _ _ _ _ _ (iv_lit (by decide)) h1 h2 h3 h4 h5 h6 h7 (iv_updZ ek k_a_kept)
theorem s_m_again_0 {f_code : Int32} {a_tape : Nat → Int32} {a_size : Nat → Int32} {a_fault : Nat → Int32} {a_faultPlace : Nat → Int32} {a_many : Nat → Int32} {a_lands : Nat → Int32} {a_evenings : Nat → Int32} {a_sights : Nat → Int32} {a_choirs : Nat → Int32} {a_kept : Nat → Int32} {x1 : Int32} {post : Int32 → (Int32) → (Nat → Int32) → (Nat → Int32) → (Nat → Int32) → (Nat → Int32) → (Nat → Int32) → (Nat → Int32) → (Nat → Int32) → (Nat → Int32) → (Nat → Int32) → Prop} (k_f_code : iv 0 0 f_code) (k_a_tape : ∀ j, iv (-128) 127 (a_tape j)) (k_a_size : ∀ j, iv 0 600 (a_size j)) (k_a_many : ∀ j, iv 0 2 (a_many j)) (k_a_lands : mLand a_lands) (k_a_evenings : mEve a_evenings) (k_a_sights : mSig a_sights) (k_a_choirs : mCho a_choirs) (k_a_kept : ∀ j, iv 0 1 (a_kept j)) (hpost : ∀ (r : Int32) (f_code : Int32) (a_tape : Nat → Int32) (a_size : Nat → Int32) (a_fault : Nat → Int32) (a_faultPlace : Nat → Int32) (a_many : Nat → Int32) (a_lands : Nat → Int32) (a_evenings : Nat → Int32) (a_sights : Nat → Int32) (a_choirs : Nat → Int32), (iv 0 0 f_code) → (∀ j, iv (-128) 127 (a_tape j)) → (∀ j, iv 0 600 (a_size j)) → (∀ j, iv 0 2 (a_many j)) → (mLand a_lands) → (mEve a_evenings) → (mSig a_sights) → (mCho a_choirs) → post r f_code a_tape a_size a_fault a_faultPlace a_many a_lands a_evenings a_sights a_choirs) : q_m_again_0 f_code a_tape a_size a_fault a_faultPlace a_many a_lands a_evenings a_sights a_choirs a_kept x1 post := by
  have no := hpost 0 0 a_tape a_size a_fault a_faultPlace a_many a_lands a_evenings a_sights a_choirs (iv_lit (by decide)) k_a_tape k_a_size k_a_many k_a_lands k_a_evenings k_a_sights k_a_choirs
  refine sp_in (fun _ => iz no) (fun a1 a2 => oi ?_)
  obtain ⟨j, rfl, -, hj, hj2⟩ := iv_nI (iv_of (l := 0) (h := 2) rfl rfl a1 a2) (by omega)
  rw [nI_1]
  refine ⟨vp_in_nI (by omega) (by omega), fun _ => ?_, fun _ => no⟩
  exact sp_copyAllT (g := 0) (by omega) (by omega) (by omega) k_a_tape k_a_size k_a_many k_a_lands k_a_evenings k_a_sights k_a_choirs (fun t z fa fp mn l e s c h1 h2 h3 h4 h5 h6 h7 => hpost _ _ _ _ _ _ _ _ _ _ _ (iv_lit (by decide)) h1 h2 h3 h4 h5 h6 h7)
end
