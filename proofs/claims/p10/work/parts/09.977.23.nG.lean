def anyB (p : Nat → Bool) : Nat → Bool
  | 0 => false
  | n + 1 => anyB p n || p n
theorem any_iff {p : Nat → Bool} : ∀ n, anyB p n = true ↔ ∃ k, k < n ∧ p k = true
  | 0 => ⟨fun h => absurd (show false = true from h) (by decide), fun ⟨k, hk, _⟩ => absurd hk (Nat.not_lt_zero k)⟩
  | n + 1 => by
    show (anyB p n || p n) = true ↔ _
    rw [Bool.or_eq_true, any_iff n]
    constructor
    · rintro (⟨k, hk, h⟩ | h)
      · exact ⟨k, by omega, h⟩
      · exact ⟨n, by omega, h⟩
    · rintro ⟨k, hk, h⟩
      by_cases e : k = n
      · subst e; exact Or.inr h
      · exact Or.inl ⟨k, by omega, h⟩
theorem any_ext {p q : Nat → Bool} : ∀ n, (∀ k, k < n → p k = q k) → anyB p n = anyB q n
  | 0, _ => rfl
  | n + 1, h => by
    show (anyB p n || p n) = (anyB q n || q n)
    rw [any_ext n (fun k hk => h k (by omega)), h n (by omega)]
def SEER (td : Nat → Int32) (S : Nat → Nat → Int32) : Int32 := mkB (fun s => decide ((S 5 0 &&& (S 1 s ^^^ (-1))) = 0)) (cN (td 1))
def FAME (td : Nat → Int32) (S : Nat → Nat → Int32) (t : Nat) : Int32 := nI (cntB (fun o => hb (S 1 o) t) (cN (td 1)))
/-- whether singer s can come to h and sing t there -/
noncomputable def spB (td : Nat → Int32) (S : Nat → Nat → Int32) (t s h : Nat) : Bool := clB (wayB td (S 3)) (cN (td 0)) (cN (S 0 s)) h && (!dam td h && decide (td (7 + h) - td (31 + s) < S 4 t))
noncomputable def dsB (td : Nat → Int32) (S : Nat → Nat → Int32) (t s : Nat) : Bool := hb (S 1 s) t && anyB (spB td S t s) (cN (td 0))
noncomputable def dnB (td : Nat → Int32) (S : Nat → Nat → Int32) (t : Nat) : Bool := anyB (dsB td S t) (cN (td 1))
noncomputable def DF (td : Nat → Int32) (S : Nat → Nat → Int32) : Int32 := mkB (fun t => hb (S 5 0) t && !dnB td S t) 5
noncomputable def LKn (td : Nat → Int32) (S : Nat → Nat → Int32) (n : Nat) : Int32 :=
  if n / 10 = 0 then (if n = 0 then S 5 1 else if n = 1 then S 5 2 else if n = 2 then SEER td S else if n = 3 then S 5 0 else if n = 4 then DF td S else -1000)
  else if n / 10 = 1 then (if n % 10 < 5 then S 4 (n % 10) else -1000)
  else if n / 10 = 2 then (if n % 10 < 5 then FAME td S (n % 10) else -1000)
  else if n / 10 = 7 then (if nI (n % 10) < td 0 then S 3 (n % 10) else -1000)
  else if nI (n % 10) < td 1 then (if n / 10 = 3 then S 0 (n % 10) else if n / 10 = 4 then S 1 (n % 10) else if n / 10 = 5 then S 2 (n % 10) else hgh td (S 0) (S 2) (n % 10)) else -1000
noncomputable def LKN (td : Nat → Int32) (S : Nat → Nat → Int32) (w : Int32) : Int32 := if 0 ≤ w ∧ w ≤ 79 then LKn td S (cN w) else -1000
section
variable {M : Nat → Nat → Int32} {S' S : Nat → Nat → Int32} {k : Nat}
theorem e_seersM {post : Int32 → Prop} (hR : RNG (tdM M k)) (hA : AGs S' S) (hp : post (SEER (tdM M k) S)) : q_m_seers_0 (tdM M k 1) (S' 1) (S' 5 0) post := by
  obtain ⟨c, hc, -, hc6, -⟩ := iv_nI (show iv 0 6 (tdM M k 1) from hR 1 (by omega)) (by decide)
  unfold SEER at hp
  rw [hc, cN_nI (by omega)] at hp
  intro P hP
  have loop : ∀ m j, m = c - j → j ≤ c → P (mkB (fun s => decide ((S 5 0 &&& (S 1 s ^^^ (-1))) = 0)) j) (nI j) := by
    intro m
    induction m using Nat.strongRecOn with
    | ind m ih =>
      intro j hm hj
      apply hP
      rw [hc]
      refine pk_le c j (fun h9 => ?_) (fun h9 => ⟨vp_in_nI (by omega) (by omega), ?_⟩)
      · rw [show j = c by omega]; exact hp
      · have nx : ∀ y : Int32, y = (if decide ((S 5 0 &&& (S 1 j ^^^ (-1))) = 0) = true then bitI j else 0) → q_m_seers_36 P (nI c) (S' 1) (S' 5 0) (nI j) (mkB (fun s => decide ((S 5 0 &&& (S 1 s ^^^ (-1))) = 0)) j) y post := by
          intro y hy v e v2 e2
          rw [hy] at e
          rw [e, e2, nI_1]
          exact ih (c - (j + 1)) (by omega) (j + 1) rfl (by omega)
        rw [nI_clamp (by omega), (hA.1 j (by omega)).2.1, hA.2.2.2.1]
        refine ⟨fun h => nx _ ?_, fun h => nx _ ?_⟩
        · rw [if_neg (by rw [decide_eq_false h]; decide)]
        · rw [if_pos (decide_eq_true h)]; rfl
  exact loop _ 0 rfl (by omega)
theorem e_fameM {t : Nat} {post : Int32 → Prop} (hR : RNG (tdM M k)) (hA : AGs S' S) (ht : t < 31) (hp : post (FAME (tdM M k) S t)) : q_m_fame_0 (tdM M k 1) (S' 1) (nI t) post := by
  obtain ⟨c, hc, -, hc6, -⟩ := iv_nI (show iv 0 6 (tdM M k 1) from hR 1 (by omega)) (by decide)
  unfold FAME at hp
  rw [hc, cN_nI (by omega)] at hp
  intro P hP
  have loop : ∀ m j, m = c - j → j ≤ c → P (nI (cntB (fun o => hb (S 1 o) t) j)) (nI j) := by
    intro m
    induction m using Nat.strongRecOn with
    | ind m ih =>
      intro j hm hj
      apply hP
      rw [hc]
      refine pk_le c j (fun h9 => ?_) (fun h9 => ⟨vp_in_nI (by omega) (by omega), ?_⟩)
      · rw [show j = c by omega]; exact hp
      · have nx : ∀ y : Int32, nI (cntB (fun o => hb (S 1 o) t) j) + y = nI (cntB (fun o => hb (S 1 o) t) (j + 1)) → q_m_fame_31 P (nI c) (S' 1) (nI t) (nI j) (nI (cntB (fun o => hb (S 1 o) t) j)) y post := by
          intro y hy v e v2 e2
          rw [e, e2, hy, nI_1]
          exact ih (c - (j + 1)) (by omega) (j + 1) rfl (by omega)
        have e : cntB (fun o => hb (S 1 o) t) (j + 1) = cntB (fun o => hb (S 1 o) t) j + (if hb (S 1 j) t = true then 1 else 0) := rfl
        rw [nI_clamp (by omega), (hA.1 j (by omega)).2.1]
        refine e_hasM ht (fun h0 => iz (nx 0 ?_)) (fun h1 => oi (nx 1 ?_))
        · rw [e, if_neg (by rw [h0]; decide)]; exact Int32.add_zero _
        · rw [e, if_pos h1, nI_1]
  exact loop _ 0 rfl (by omega)
theorem e_isDoneM {t : Nat} {post : Int32 → Prop} (hk : k < 2) (hL : mLand (M 5)) (hN : NOK (tdM M k) S) (hA : AGs S' S) (ht : t < 5) (hbt : hb (S 5 0) t = true) (h0 : dnB (tdM M k) S t = true → post 0) (h1 : dnB (tdM M k) S t = false → post 1) : q_m_isDone_0 (M 5) (nI k) (tdM M k 0) (tdM M k 1) (S' 0) (S' 1) (S' 3) (S' 4) (nI t) post := by
  have hR : RNG (tdM M k) := fun j hj => row_iv hL hk hj
  obtain ⟨c, hc, -, hc6, -⟩ := iv_nI (show iv 0 6 (tdM M k 1) from hR 1 (by omega)) (by decide)
  obtain ⟨n, hn, -, hn9, -⟩ := iv_nI (show iv 0 9 (tdM M k 0) from hR 0 (by omega)) (by decide)
  unfold dnB at h0 h1
  rw [hc, cN_nI (by omega)] at h0 h1
  intro P hP
  have loop : ∀ m s, m = c - s → s ≤ c → (∀ s', s' < s → dsB (tdM M k) S t s' = false) → P (nI s) := by
    intro m
    induction m using Nat.strongRecOn with
    | ind m ih =>
      intro s hm hs hq
      apply hP
      rw [hc]
      refine pk_le c s (fun h9 => ?_) (fun h9 => ⟨vp_in_nI (by omega) (by omega), ?_⟩)
      · refine h1 ?_
        rw [← Bool.not_eq_true, any_iff]
        rintro ⟨k', hk', e⟩
        rw [hq k' (by omega)] at e
        exact absurd e (by simp)
      · rw [nI_clamp (by omega), (hA.1 s (by omega)).2.1]
        have nxs : dsB (tdM M k) S t s = false → P (nI (s + 1)) := fun hf => ih (c - (s + 1)) (by omega) (s + 1) rfl (by omega) (fun s' hs' => by
          by_cases e : s' = s
          · subst e; exact hf
          · exact hq s' (by omega))
        -- over the huts of a set
        have hut : ∀ (y : Int32) (q : Nat → Bool), (∀ h, h < n → hb y h = q h) → (dsB (tdM M k) S t s = anyB (fun h => q h && decide (tdM M k (7 + h) - tdM M k (31 + s) < S 4 t)) n) → q_m_isDone_40 P (M 5) (nI k) (tdM M k 0) (nI c) (S' 0) (S' 1) (S' 3) (S' 4) (nI t) (nI s) y post := by
          intro y q hy hd
          intro P2 hP2
          have loop2 : ∀ m h, m = n - h → h ≤ n → (∀ h', h' < h → (q h' && decide (tdM M k (7 + h') - tdM M k (31 + s) < S 4 t)) = false) → P2 (nI h) := by
            intro m
            induction m using Nat.strongRecOn with
            | ind m ih2 =>
              intro h hm2 hh hq2
              apply hP2
              rw [hn]
              refine pk_le n h (fun h8 v ev => ?_) (fun h8 => ?_)
              · rw [ev, nI_1]
                refine nxs ?_
                rw [hd, ← Bool.not_eq_true, any_iff]
                rintro ⟨k', hk', e⟩
                rw [hq2 k' (by omega)] at e
                exact absurd e (by simp)
              · have nx : (q h && decide (tdM M k (7 + h) - tdM M k (31 + s) < S 4 t)) = false → q_m_isDone_88 P P2 (M 5) (nI k) (nI n) (nI c) (S' 0) (S' 1) (S' 3) (S' 4) (nI t) (nI s) y (nI h) post := by
                  intro hf v ev
                  rw [ev, nI_1]
                  exact ih2 (n - (h + 1)) (by omega) (h + 1) rfl (by omega) (fun h' hh' => by
                    by_cases e : h' = h
                    · subst e; exact hf
                    · exact hq2 h' (by omega))
                refine e_hasM (by omega) (fun hh0 => iz (nx ?_)) (fun hh1 => oi ?_)
                · rw [hy h h8] at hh0
                  rw [hh0]; rfl
                · refine e_of (i := 7 + h) hk (by omega) (jx 7 h) (e_of (i := 31 + s) hk (by omega) (jx 31 s) ⟨vp_in_nI (by omega) (by omega), ?_⟩)
                  rw [nI_clamp (by omega), hA.2.2.1 t ht hbt]
                  rw [hy h h8] at hh1
                  refine ⟨fun hle => nx ?_, fun hlt => h0 ?_⟩
                  · rw [decide_eq_false (Int32.not_lt.mpr hle), Bool.and_false]
                  · rw [any_iff]
                    refine ⟨s, by omega, ?_⟩
                    rw [hd, any_iff]
                    exact ⟨h, h8, by rw [hh1, decide_eq_true (Int32.not_le.mp hlt)]; rfl⟩
          exact loop2 _ 0 rfl (by omega) (fun h' hh' => absurd hh' (Nat.not_lt_zero h'))
        have hlc : nI s < tdM M k 1 := by rw [hc]; exact nI_lt h9 (by omega)
        obtain ⟨f, ef, -, hf8, -⟩ := iv_nI (hN.1 s (by omega)) (by decide)
        have hfn : f < n := by
          have h7 := hN.2.2.2.2.1 s (by omega) hlc
          rw [ef, hn] at h7
          exact (nI_ltI (by omega) (by omega)).mp h7
        refine e_hasM (by omega) (fun hh0 => iz (hut 0 (fun _ => false) (fun h _ => hb_0 h) ?_)) (fun hh1 => oi ?_)
        · unfold dsB
          rw [hh0, Bool.false_and, eq_comm, ← Bool.not_eq_true, any_iff]
          rintro ⟨k', hk', e⟩
          exact absurd e (by simp)
        · refine e_rchM (f := f) (n := n) hk (by omega) (by rw [(hA.1 s (by omega)).1, ef]) hfn hn (by omega) (fun set hset => ?_)
          refine e_of (i := 3) hk (by omega) rfl (hut _ (fun h => clB (wayB (tdM M k) (S' 3)) n f h && !dam (tdM M k) h) (fun h hh => ?_) ?_)
          · rw [hb_and, hb_not _ (by omega), hset h (by omega), decide_eq_true hh, Bool.true_and]
            rfl
          · unfold dsB
            rw [hh1, Bool.true_and, hn, cN_nI (by omega)]
            refine any_ext n (fun h hh => ?_)
            unfold spB
            rw [hn, cN_nI (by omega), ef, cN_nI (by omega), clB_ext (E := wayB (tdM M k) (S' 3)) (E' := wayB (tdM M k) (S 3)) (fun a b ha hb1 => by unfold wayB; rw [hA.2.1 a (by omega), hA.2.1 b (by omega)]), Bool.and_assoc]
  exact loop _ 0 rfl (by omega) (fun s' hs' => absurd hs' (Nat.not_lt_zero s'))
theorem e_doneForM {post : Int32 → Prop} (hk : k < 2) (hL : mLand (M 5)) (hN : NOK (tdM M k) S) (hA : AGs S' S) (hp : post (DF (tdM M k) S)) : q_m_doneFor_0 (M 5) (nI k) (tdM M k 0) (tdM M k 1) (S' 0) (S' 1) (S' 3) (S' 4) (S' 5 0) post := by
  unfold DF at hp
  intro P hP
  have loop : ∀ m j, m = 5 - j → j ≤ 5 → P (mkB (fun t => hb (S 5 0) t && !dnB (tdM M k) S t) j) (nI j) := by
    intro m
    induction m using Nat.strongRecOn with
    | ind m ih =>
      intro j hm hj
      apply hP
      refine pk_le 5 j (fun h9 => ?_) (fun h9 => ?_)
      · rw [show j = 5 by omega]; exact hp
      · have nx : ∀ y : Int32, y = (if (hb (S 5 0) j && !dnB (tdM M k) S j) = true then bitI j else 0) → q_m_doneFor_36 P (M 5) (nI k) (tdM M k 0) (tdM M k 1) (S' 0) (S' 1) (S' 3) (S' 4) (S' 5 0) (nI j) (mkB (fun t => hb (S 5 0) t && !dnB (tdM M k) S t) j) y post := by
          intro y hy v e v2 e2
          rw [hy] at e
          rw [e, e2, nI_1]
          exact ih (5 - (j + 1)) (by omega) (j + 1) rfl (by omega)
        have e0 : hb (S' 5 0) j = hb (S 5 0) j := by rw [hA.2.2.2.1]
        refine e_hasM (by omega) (fun h0 => iz (nx 0 ?_)) (fun h1 => oi ?_)
        · rw [e0] at h0
          rw [if_neg (by rw [h0]; simp)]
        · rw [e0] at h1
          refine e_isDoneM hk hL hN hA h9 h1 (fun hd => iz (nx 0 ?_)) (fun hd => oi (nx _ ?_))
          · rw [if_neg (by rw [hd]; simp)]
          · rw [if_pos (by rw [hd, h1]; rfl)]; rfl
  exact loop _ 0 rfl (by omega)
theorem x_mk {w : Int32} {n : Nat} (hw : w = nI n) (hn : n ≤ 79) (d : Nat) (hd : d ≤ n) : w - nI d = nI (n - d) := by rw [hw]; exact pk_sub hd
theorem hgh_S {S' S : Nat → Nat → Int32} {td : Nat → Int32} {s : Nat} (hA : AGs S' S) (hs : s < 6) : hgh td (S' 0) (S' 2) s = hgh td (S 0) (S 2) s := hgh_ag hA hs
set_option maxHeartbeats 4000000 in
theorem e_ofStateM {w : Int32} {post : Int32 → Prop} (hk : k < 2) (hL : mLand (M 5)) (hN : NOK (tdM M k) S) (hA : AGs S' S) (hp : post (LKN (tdM M k) S w)) : q_m_ofState_0 (M 5) (nI k) (tdM M k 0) (tdM M k 1) (S' 0) (S' 1) (S' 2) (S' 3) (S' 4) (S' 5 0) (S' 5 1) (S' 5 2) w post := by
  have hR : RNG (tdM M k) := fun j hj => row_iv hL hk hj
  have b1 : iv 0 6 (tdM M k 1) := hR 1 (by omega)
  have b0 : iv 0 9 (tdM M k 0) := hR 0 (by omega)
  have cs : (¬ (0 ≤ w ∧ w ≤ 79) → post (-1000)) ∧ (∀ n, n ≤ 79 → w = nI n → post (LKn (tdM M k) S n)) := by
    refine ⟨fun h => ?_, fun n hn hw => ?_⟩
    · unfold LKN at hp; rw [if_neg h] at hp; exact hp
    · unfold LKN at hp
      rw [if_pos (by rw [hw]; exact ⟨nI_pos' (by omega), nI_le (b := 79) hn (by omega)⟩), hw, cN_nI (by omega)] at hp
      exact hp
  obtain ⟨hno, hyes⟩ := cs
  have rng : ∀ {lo hi : Nat}, lo ≤ 79 → hi ≤ 79 → nI lo ≤ w → w ≤ nI hi → ∃ n, lo ≤ n ∧ n ≤ hi ∧ w = nI n := by
    intro lo hi hlo hh h1 h2
    obtain ⟨n, e, hl, hu, -⟩ := iv_nI (iv_of (l := lo) (h := hi) (nI_toInt (by omega)) (nI_toInt (by omega)) h1 h2) (by omega)
    exact ⟨n, by omega, by omega, e⟩
  refine sp_in (fun g1 => iz ?_) (fun g1 g1' => oi ?_)
  · refine sp_in (fun g2 => iz ?_) (fun g2 g2' => oi ?_)
    · refine sp_in (fun g3 => iz ?_) (fun g3 g3' => oi ?_)
      · refine sp_in (fun g4 => iz ?_) (fun g4 g4' => oi ?_)
        · have l4 : ∀ n, n ≤ 4 → w = nI n → post (if n = 0 then S 5 1 else if n = 1 then S 5 2 else if n = 2 then SEER (tdM M k) S else if n = 3 then S 5 0 else if n = 4 then DF (tdM M k) S else -1000) := by
            intro n hn hw
            have h := hyes n (by omega) hw
            unfold LKn at h
            rw [if_pos (by omega)] at h
            exact h
          refine ⟨fun hd => ?_, fun h => ?_, fun h => ?_, fun h => ?_, fun h => ?_, fun h => ?_⟩
          · by_cases hw : 0 ≤ w ∧ w ≤ 79
            · obtain ⟨n, hn0, hn, e⟩ := rng (lo := 0) (hi := 79) (by omega) (by omega) hw.1 hw.2
              have hq := hyes n hn e
              unfold LKn at hq
              have hlo : 5 ≤ n := by
                rw [e, nI_toInt (by omega)] at hd
                omega
              have nr : ∀ lo hi : Nat, lo ≤ 79 ∧ hi ≤ 79 → ¬ (nI lo ≤ w ∧ w ≤ nI hi) → ¬ (lo ≤ n ∧ n ≤ hi) := fun lo hi hh h9 h8 => h9 (by rw [e]; exact ⟨nI_le h8.1 (by omega), nI_le h8.2 (by omega)⟩)
              have n1 := nr 10 14 (by omega) g1
              have n2 := nr 20 24 (by omega) g2
              have n3 := nr 30 69 (by omega) g3
              have n4 := nr 70 79 (by omega) g4
              by_cases c0 : n / 10 = 0
              · rw [if_pos c0, if_neg (by omega), if_neg (by omega), if_neg (by omega), if_neg (by omega), if_neg (by omega)] at hq
                exact hq
              · rw [if_neg c0] at hq
                by_cases c1 : n / 10 = 1
                · rw [if_pos c1, if_neg (by omega)] at hq; exact hq
                · rw [if_neg c1] at hq
                  by_cases c2 : n / 10 = 2
                  · rw [if_pos c2, if_neg (by omega)] at hq; exact hq
                  · exact absurd (show 30 ≤ n ∧ n ≤ 69 by omega) n3
            · exact hno hw
          · have h9 := l4 0 (by omega) h; rw [hA.2.2.2.2.1]; exact h9
          · have h9 := l4 1 (by omega) h; rw [hA.2.2.2.2.2]; exact h9
          · have h9 := l4 2 (by omega) h; exact e_seersM hR hA h9
          · have h9 := l4 3 (by omega) h; rw [hA.2.2.2.1]; exact h9
          · have h9 := l4 4 (by omega) h; exact e_doneForM hk hL hN hA h9
        · obtain ⟨n, hn0, hn, e⟩ := rng (lo := 70) (hi := 79) (by omega) (by omega) g4 g4'
          have hq := hyes n (by omega) e
          have e7 : w - 70 = nI (n - 70) := x_mk e (by omega) 70 hn0
          unfold LKn at hq
          rw [if_neg (by omega), if_neg (by omega), if_neg (by omega), if_pos (by omega), show n % 10 = n - 70 by omega] at hq
          rw [e7]
          unfold q_m_isHut_0
          refine sp_in (fun h => ⟨rfl, iz ?_⟩) (fun h1 h2 => ⟨rfl, oi ?_⟩)
          · rw [if_neg (fun h9 => h ((in_lt (iv_w b0 (by decide))).mpr ⟨nI_pos' (by omega), h9⟩))] at hq
            exact hq
          · have hlt := ((in_lt (iv_w b0 (by decide) : iv 0 1000 (tdM M k 0))).mp ⟨h1, h2⟩).2
            obtain ⟨y, hy, ey⟩ := lt_nI (m := 9) b0 ⟨h1, hlt⟩
            have : n - 70 = y := (nI_eq (by omega) (by omega)).mp ey
            rw [if_pos hlt] at hq
            refine ⟨vp_in_nI (by omega) (by omega), ?_⟩
            rw [nI_clamp (by omega), hA.2.1 (n - 70) (by omega)]
            exact hq
      · obtain ⟨n, hn0, hn, e⟩ := rng (lo := 30) (hi := 69) (by omega) (by omega) g3 g3'
        have hq := hyes n (by omega) e
        unfold LKn at hq
        rw [if_neg (by omega), if_neg (by omega), if_neg (by omega), if_neg (by omega)] at hq
        subst e
        intro v1 e1
        rw [(dm10 (n := n) (by omega)).2] at e1
        subst e1
        rw [(dm10 (n := n) (by omega)).1]
        unfold q_m_isSinger_0
        refine sp_in (fun h => ⟨rfl, zi ?_⟩) (fun h1 h2 => ⟨rfl, io ?_⟩)
        · rw [if_neg (fun h9 => h ((in_lt (iv_w b1 (by decide))).mpr ⟨nI_pos' (by omega), h9⟩))] at hq
          exact hq
        · have hlt := ((in_lt (iv_w b1 (by decide) : iv 0 1000 (tdM M k 1))).mp ⟨h1, h2⟩).2
          obtain ⟨y, hy, ey⟩ := lt_nI (m := 6) b1 ⟨h1, hlt⟩
          have hy6 : n % 10 < 6 := by rw [(nI_eq (by omega) (by omega)).mp ey]; exact hy
          rw [if_pos hlt] at hq
          have hin : vp_in (nI (n % 10)) 6 := vp_in_nI hy6 (by omega)
          refine ⟨fun hd => ?_, fun h3 => ⟨hin, ?_⟩, fun h3 => ⟨hin, ?_⟩, fun h3 => ⟨hin, ?_⟩⟩
          · rw [nI_toInt (by omega)] at hd
            rw [if_neg (by omega), if_neg (by omega), if_neg (by omega)] at hq
            refine e_highM hk hy6 (by rw [(hA.1 _ hy6).1]; exact hN.1 _ hy6) ?_
            rw [hgh_S hA hy6]
            exact hq
          · have := (nI_eq (a := n / 10) (b := 3) (by omega) (by omega)).mp h3
            rw [if_pos this] at hq
            rw [nI_clamp (by omega), (hA.1 _ hy6).1]; exact hq
          · have := (nI_eq (a := n / 10) (b := 4) (by omega) (by omega)).mp h3
            rw [if_neg (by omega), if_pos this] at hq
            rw [nI_clamp (by omega), (hA.1 _ hy6).2.1]; exact hq
          · have := (nI_eq (a := n / 10) (b := 5) (by omega) (by omega)).mp h3
            rw [if_neg (by omega), if_neg (by omega), if_pos this] at hq
            rw [nI_clamp (by omega), (hA.1 _ hy6).2.2]; exact hq
    · obtain ⟨n, hn0, hn, e⟩ := rng (lo := 20) (hi := 24) (by omega) (by omega) g2 g2'
      have hq := hyes n (by omega) e
      have e7 : w - 20 = nI (n - 20) := x_mk e (by omega) 20 hn0
      unfold LKn at hq
      rw [if_neg (by omega), if_neg (by omega), if_pos (by omega), if_pos (by omega), show n % 10 = n - 20 by omega] at hq
      rw [e7]
      exact e_fameM hR hA (by omega) hq
  · obtain ⟨n, hn0, hn, e⟩ := rng (lo := 10) (hi := 14) (by omega) (by omega) g1 g1'
    have hq := hyes n (by omega) e
    have e7 : w - 10 = nI (n - 10) := x_mk e (by omega) 10 hn0
    unfold LKn at hq
    rw [if_neg (by omega), if_pos (by omega), if_pos (by omega), show n % 10 = n - 10 by omega] at hq
    rw [e7, hA.2.2.2.1]
    refine e_hasM (by omega) (fun h0 => iz ?_) (fun h1 => oi ⟨vp_in_nI (by omega) (by omega), ?_⟩)
    · rw [hN.2.2.2.2.2.2 (n - 10) (by omega) h0] at hq
      exact hq
    · rw [nI_clamp (by omega), hA.2.2.1 (n - 10) (by omega) h1]
      exact hq
end
