theorem e_store_6 {a td : Nat → Int32} {k : Nat} {post : (Nat → Int32) → Prop} (hk : k < 2) (h : ∀ t, (∀ j, j < 132 → t (132 * k + j) = td j) → (∀ j, j < 132 * k ∨ 132 * k + 132 ≤ j → t j = a j) → post t) : q_m_store_6_0 a td 132 (nI k) post := by
  intro P hP
  have loop : ∀ m i (t : Nat → Int32), m + i = 132 → (∀ j, j < i → t (132 * k + j) = td j) → (∀ j, j < 132 * k ∨ 132 * k + 132 ≤ j → t j = a j) → P (nI i) t := by
    intro m
    induction m with
    | zero =>
      intro i t hi h1 h2
      apply hP
      exact pk_le 132 i (fun _ => h t (fun j hj => h1 j (by omega)) h2) (fun h9 => absurd h9 (by omega))
    | succ m ih =>
      intro i t hi h1 h2
      apply hP
      have hix : (132 : Int32) * nI k + nI i = nI (132 * k + i) := by rw [show (132 : Int32) = nI 132 from rfl, pk_mul, nI_add]
      refine pk_le 132 i (fun h9 => absurd h9 (by omega)) (fun _ => ⟨vp_in_nI (by omega) (by omega), fun v ev => ⟨by rw [hix]; exact vp_in_nI (by omega) (by omega), fun t1 e1 v2 e2 => ?_⟩⟩)
      rw [nI_clamp (by omega)] at ev
      rw [hix, nI_clamp (by omega)] at e1
      rw [e2, nI_1, e1, ev]
      refine ih (i + 1) _ (by omega) (fun j hj => ?_) (fun j hj => ?_)
      · by_cases hji : j = i
        · subst hji; exact up_s
        · rw [up_n (by omega)]; exact h1 j (by omega)
      · rw [up_n (by omega)]; exact h2 j hj
  exact loop 132 0 a (by omega) (fun j hj => absurd hj (by omega)) (fun _ _ => rfl)
theorem e_store_7 {a td : Nat → Int32} {k : Nat} {post : (Nat → Int32) → Prop} (hk : k < 2) (h : ∀ t, (∀ j, j < 121 → t (121 * k + j) = td j) → (∀ j, j < 121 * k ∨ 121 * k + 121 ≤ j → t j = a j) → post t) : q_m_store_7_0 a td 121 (nI k) post := by
  intro P hP
  have loop : ∀ m i (t : Nat → Int32), m + i = 121 → (∀ j, j < i → t (121 * k + j) = td j) → (∀ j, j < 121 * k ∨ 121 * k + 121 ≤ j → t j = a j) → P (nI i) t := by
    intro m
    induction m with
    | zero =>
      intro i t hi h1 h2
      apply hP
      exact pk_le 121 i (fun _ => h t (fun j hj => h1 j (by omega)) h2) (fun h9 => absurd h9 (by omega))
    | succ m ih =>
      intro i t hi h1 h2
      apply hP
      have hix : (121 : Int32) * nI k + nI i = nI (121 * k + i) := by rw [show (121 : Int32) = nI 121 from rfl, pk_mul, nI_add]
      refine pk_le 121 i (fun h9 => absurd h9 (by omega)) (fun _ => ⟨vp_in_nI (by omega) (by omega), fun v ev => ⟨by rw [hix]; exact vp_in_nI (by omega) (by omega), fun t1 e1 v2 e2 => ?_⟩⟩)
      rw [nI_clamp (by omega)] at ev
      rw [hix, nI_clamp (by omega)] at e1
      rw [e2, nI_1, e1, ev]
      refine ih (i + 1) _ (by omega) (fun j hj => ?_) (fun j hj => ?_)
      · by_cases hji : j = i
        · subst hji; exact up_s
        · rw [up_n (by omega)]; exact h1 j (by omega)
      · rw [up_n (by omega)]; exact h2 j hj
  exact loop 121 0 a (by omega) (fun j hj => absurd hj (by omega)) (fun _ _ => rfl)
theorem e_store_8 {a td : Nat → Int32} {k : Nat} {post : (Nat → Int32) → Prop} (hk : k < 2) (h : ∀ t, (∀ j, j < 31 → t (31 * k + j) = td j) → (∀ j, j < 31 * k ∨ 31 * k + 31 ≤ j → t j = a j) → post t) : q_m_store_8_0 a td 31 (nI k) post := by
  intro P hP
  have loop : ∀ m i (t : Nat → Int32), m + i = 31 → (∀ j, j < i → t (31 * k + j) = td j) → (∀ j, j < 31 * k ∨ 31 * k + 31 ≤ j → t j = a j) → P (nI i) t := by
    intro m
    induction m with
    | zero =>
      intro i t hi h1 h2
      apply hP
      exact pk_le 31 i (fun _ => h t (fun j hj => h1 j (by omega)) h2) (fun h9 => absurd h9 (by omega))
    | succ m ih =>
      intro i t hi h1 h2
      apply hP
      have hix : (31 : Int32) * nI k + nI i = nI (31 * k + i) := by rw [show (31 : Int32) = nI 31 from rfl, pk_mul, nI_add]
      refine pk_le 31 i (fun h9 => absurd h9 (by omega)) (fun _ => ⟨vp_in_nI (by omega) (by omega), fun v ev => ⟨by rw [hix]; exact vp_in_nI (by omega) (by omega), fun t1 e1 v2 e2 => ?_⟩⟩)
      rw [nI_clamp (by omega)] at ev
      rw [hix, nI_clamp (by omega)] at e1
      rw [e2, nI_1, e1, ev]
      refine ih (i + 1) _ (by omega) (fun j hj => ?_) (fun j hj => ?_)
      · by_cases hji : j = i
        · subst hji; exact up_s
        · rw [up_n (by omega)]; exact h1 j (by omega)
      · rw [up_n (by omega)]; exact h2 j hj
  exact loop 31 0 a (by omega) (fun j hj => absurd hj (by omega)) (fun _ _ => rfl)
theorem e_store_9 {a td : Nat → Int32} {k : Nat} {post : (Nat → Int32) → Prop} (hk : k < 2) (h : ∀ t, (∀ j, j < 20 → t (20 * k + j) = td j) → (∀ j, j < 20 * k ∨ 20 * k + 20 ≤ j → t j = a j) → post t) : q_m_store_9_0 a td 20 (nI k) post := by
  intro P hP
  have loop : ∀ m i (t : Nat → Int32), m + i = 20 → (∀ j, j < i → t (20 * k + j) = td j) → (∀ j, j < 20 * k ∨ 20 * k + 20 ≤ j → t j = a j) → P (nI i) t := by
    intro m
    induction m with
    | zero =>
      intro i t hi h1 h2
      apply hP
      exact pk_le 20 i (fun _ => h t (fun j hj => h1 j (by omega)) h2) (fun h9 => absurd h9 (by omega))
    | succ m ih =>
      intro i t hi h1 h2
      apply hP
      have hix : (20 : Int32) * nI k + nI i = nI (20 * k + i) := by rw [show (20 : Int32) = nI 20 from rfl, pk_mul, nI_add]
      refine pk_le 20 i (fun h9 => absurd h9 (by omega)) (fun _ => ⟨vp_in_nI (by omega) (by omega), fun v ev => ⟨by rw [hix]; exact vp_in_nI (by omega) (by omega), fun t1 e1 v2 e2 => ?_⟩⟩)
      rw [nI_clamp (by omega)] at ev
      rw [hix, nI_clamp (by omega)] at e1
      rw [e2, nI_1, e1, ev]
      refine ih (i + 1) _ (by omega) (fun j hj => ?_) (fun j hj => ?_)
      · by_cases hji : j = i
        · subst hji; exact up_s
        · rw [up_n (by omega)]; exact h1 j (by omega)
      · rw [up_n (by omega)]; exact h2 j hj
  exact loop 20 0 a (by omega) (fun j hj => absurd hj (by omega)) (fun _ _ => rfl)
noncomputable def MXr (M : Nat → Nat → Int32) (o : Nat) : Int32 × Int32 × (Nat → Int32) := tx (nB (M 0) (M 1 0).toNatClampNeg) (M 1 0).toNatClampNeg o
def mTX (M M' : Nat → Nat → Int32) (a1 a2 r : Int32) : Prop := M' 0 = M 0 ∧ M' 9 = M 9 ∧ M' 1 0 = 0 ∧ (∀ j, ¬ j = 0 → M' 1 j = M 1 j ∧ M' 2 j = M 2 j ∧ M' 3 j = M 3 j) ∧
  ((¬ ∃ o k, o < 4 ∧ k < 2 ∧ a1 = nI o ∧ NUM (M 4 o) a2 k) → r = -2 ∧ M' 2 0 = 0 ∧ M' 3 0 = -1 ∧ ∀ i, 4 ≤ i → i < 9 → M' i = M i) ∧
  (∀ o k, o < 4 → k < 2 → a1 = nI o → NUM (M 4 o) a2 k → M' 2 0 = (MXr M o).1 ∧ M' 3 0 = (MXr M o).2.1 ∧ (¬ (MXr M o).1 = 0 → r = -1 ∧ ∀ i, 4 ≤ i → i < 9 → M' i = M i) ∧ ((MXr M o).1 = 0 → r = nI k ∧ M' 4 = upd (M 4) o (cmx (M 4 o) k) ∧ (∀ j, j < wD o → M' (5 + o) (wD o * k + j) = (MXr M o).2.2 j) ∧ (∀ j, j < wD o * k ∨ wD o * k + wD o ≤ j → M' (5 + o) j = M (5 + o) j) ∧ ∀ i, 5 ≤ i → i < 9 → ¬ i = 5 + o → M' i = M i))
theorem mTX_mk {M M' : Nat → Nat → Int32} {a1 a2 r : Int32} {o k : Nat} (ho : o < 4) (hk : k < 2) (e : a1 = nI o) (hN : NUM (M 4 o) a2 k) (h0 : M' 0 = M 0) (h9 : M' 9 = M 9) (h1 : M' 1 0 = 0) (hs : ∀ j, ¬ j = 0 → M' 1 j = M 1 j ∧ M' 2 j = M 2 j ∧ M' 3 j = M 3 j) (h2 : M' 2 0 = (MXr M o).1) (h3 : M' 3 0 = (MXr M o).2.1) (h4 : ¬ (MXr M o).1 = 0 → r = -1 ∧ ∀ i, 4 ≤ i → i < 9 → M' i = M i) (h5 : (MXr M o).1 = 0 → r = nI k ∧ M' 4 = upd (M 4) o (cmx (M 4 o) k) ∧ (∀ j, j < wD o → M' (5 + o) (wD o * k + j) = (MXr M o).2.2 j) ∧ (∀ j, j < wD o * k ∨ wD o * k + wD o ≤ j → M' (5 + o) j = M (5 + o) j) ∧ ∀ i, 5 ≤ i → i < 9 → ¬ i = 5 + o → M' i = M i) : mTX M M' a1 a2 r := by
  refine ⟨h0, h9, h1, hs, fun hno => absurd ⟨o, k, ho, hk, e, hN⟩ hno, fun o' k' ho' hk' e' hN' => ?_⟩
  have eo : o = o' := (nI_eq (by omega) (by omega)).mp (e.symm.trans e')
  subst eo
  have ek := NUM_un hk hk' hN hN'
  subst ek
  exact ⟨h2, h3, h4, h5⟩
theorem up_2 {f : Nat → Int32} {a v w : Int32} (j : Nat) (h : ¬ j = a.toNatClampNeg) : upd (upd f a.toNatClampNeg v) a.toNatClampNeg w j = f j := by rw [up_n h, up_n h]
set_option maxRecDepth 40000 in
set_option maxHeartbeats 4000000 in
theorem e_m_text2 {M : Nat → Nat → Int32} {cd re ln be so va wr lf lp fh fs gd x1 x2 : Int32} {wd : Int64} {told rd : Nat → Int32} {post : Int32 → Int32 → (Nat → Int32) → (Nat → Int32) → (Nat → Int32) → (Nat → Int32) → (Nat → Int32) → (Nat → Int32) → (Nat → Int32) → (Nat → Int32) → Int32 → Int32 → Int32 → Int32 → Int32 → Int64 → Int32 → Int32 → Int32 → (Nat → Int32) → (Nat → Int32) → Int32 → Int32 → Int32 → Prop} (hlen : iv 0 600 (M 1 0)) (htape : ∀ j, iv (-128) 127 (M 0 j)) (hcnt : ∀ j, iv 0 2 (M 4 j)) (hp : ∀ (r : Int32) (sz fl fp mn ld ev sg ch : Nat → Int32) (re ln be so va : Int32) (wd : Int64) (wr lf lp : Int32) (td rd : Nat → Int32) (fh fs gd : Int32), mTX M (mmk (M 0) sz fl fp mn ld ev sg ch (M 9)) x1 x2 r → post r 0 sz fl fp mn ld ev sg ch re ln be so va wd wr lf lp td rd fh fs gd) : q_m_text_0 cd (M 0) (M 1) (M 2) (M 3) (M 4) (M 5) (M 6) (M 7) (M 8) re ln be so va wd wr lf lp told rd fh fs gd x1 x2 post := by
  obtain ⟨n, hn, -, hn6, -⟩ := iv_nI hlen (by decide)
  have hcl : (M 1 0).toNatClampNeg = n := by rw [hn]; exact nI_clamp (by omega)
  intro v ev sz es fl ef fp ep
  rw [c_0] at ev es ef ep
  rw [hn] at ev
  subst ev
  have no : (¬ ∃ o k, o < 4 ∧ k < 2 ∧ x1 = nI o ∧ NUM (M 4 o) x2 k) → post (-2) 0 sz fl fp (M 4) (M 5) (M 6) (M 7) (M 8) re (nI n) be so va wd wr lf lp told rd fh fs gd := by
    intro hno
    refine hp _ _ _ _ _ _ _ _ _ _ _ _ _ _ _ _ _ _ _ _ _ _ _ ⟨rfl, rfl, ?_, fun j hj => ⟨?_, ?_, ?_⟩, fun _ => ⟨rfl, ?_, ?_, fun i h1 h2 => ?_⟩, fun o k a b c d => absurd ⟨o, k, a, b, c, d⟩ hno⟩
    · show sz 0 = 0
      rw [es]; exact up_s
    · show sz j = M 1 j
      rw [es]; exact up_n hj
    · show fl j = M 2 j
      rw [ef]; exact up_n hj
    · show fp j = M 3 j
      rw [ep]; exact up_n hj
    · show fl 0 = 0
      rw [ef]; exact up_s
    · show fp 0 = -1
      rw [ep]; exact up_s
    · have : i = 4 ∨ i = 5 ∨ i = 6 ∨ i = 7 ∨ i = 8 := by omega
      rcases this with rfl | rfl | rfl | rfl | rfl <;> rfl
  -- a text of a sort, as number k
  have yes : ∀ o k, o < 4 → k < 2 → x1 = nI o → NUM (M 4 o) x2 k → q_m_text_75 0 (M 0) sz fl fp (M 4) (M 5) (M 6) (M 7) (M 8) re (nI n) be so va wd wr lf lp told rd fh fs gd x1 x2 post := by
    intro o k ho hk e1 hN
    have hMX : MXr M o = tx (nB (M 0) n) n o := by unfold MXr; rw [hcl]
    have hbb : ∀ j, iv (-128) 127 (nB (M 0) n j) := fun j => by
      unfold nB
      by_cases hj : j < n
      · rw [if_pos hj]; exact htape j
      · rw [if_neg hj]; exact iv_lit (by decide)
    rw [e1]
    refine e_readText (B := nB (M 0) n) (by omega) (fun j hj => (if_pos hj).symm) hbb (by omega) (fun hz re be so va wd wr lf lp td rd fh fs gd => zi ?_) (fun hz re be so va wd wr lf lp td rd fh fs gd htd => io ?_)
    · rw [← hMX] at hz ⊢
      refine hp _ _ _ _ _ _ _ _ _ _ _ _ _ _ _ _ _ _ _ _ _ _ _ (mTX_mk ho hk e1 hN rfl rfl ?_ (fun j hj => ⟨?_, ?_, ?_⟩) ?_ ?_ (fun _ => ⟨rfl, fun i h1 h2 => ?_⟩) (fun h9 => absurd h9 hz))
      · show sz 0 = 0
        rw [es]; exact up_s
      · show sz j = M 1 j
        rw [es]; exact up_n hj
      · show upd fl 0 _ j = M 2 j
        rw [up_n hj, ef]; exact up_n hj
      · show upd fp 0 _ j = M 3 j
        rw [up_n hj, ep]; exact up_n hj
      · exact up_s
      · exact up_s
      · have : i = 4 ∨ i = 5 ∨ i = 6 ∨ i = 7 ∨ i = 8 := by omega
        rcases this with rfl | rfl | rfl | rfl | rfl <;> rfl
    · rw [← hMX] at hz htd ⊢
      -- the number, the count
      have t100 : q_m_text_100 0 (M 0) sz (upd fl 0 (MXr M o).1) (upd fp 0 (MXr M o).2.1) (M 4) (M 5) (M 6) (M 7) (M 8) re (nI n) be so va wd wr lf lp td rd fh fs gd (nI o) x2 (nI k) post := by
        have t118 : ∀ y : Int32, M 4 o + y = cmx (M 4 o) k → q_m_text_118 0 (M 0) sz (upd fl 0 (MXr M o).1) (upd fp 0 (MXr M o).2.1) (M 4) (M 5) (M 6) (M 7) (M 8) re (nI n) be so va wd wr lf lp td rd fh fs gd (nI o) (nI k) (nI o) (M 4 o) y post := by
          intro y hy v1 e9
          refine ⟨vp_in_nI (by omega) (by omega), fun mn em => ?_⟩
          rw [nI_clamp (by omega), e9, hy] at em
          have fin : ∀ ld ev sg ch : Nat → Int32, (∀ j, j < wD o → (mmk (M 0) sz (upd fl 0 (MXr M o).1) (upd fp 0 (MXr M o).2.1) mn ld ev sg ch (M 9)) (5 + o) (wD o * k + j) = td j) → (∀ j, j < wD o * k ∨ wD o * k + wD o ≤ j → (mmk (M 0) sz (upd fl 0 (MXr M o).1) (upd fp 0 (MXr M o).2.1) mn ld ev sg ch (M 9)) (5 + o) j = M (5 + o) j) → (∀ i, 5 ≤ i → i < 9 → ¬ i = 5 + o → (mmk (M 0) sz (upd fl 0 (MXr M o).1) (upd fp 0 (MXr M o).2.1) mn ld ev sg ch (M 9)) i = M i) → post (nI k) 0 sz (upd fl 0 (MXr M o).1) (upd fp 0 (MXr M o).2.1) mn ld ev sg ch re (nI n) be so va wd wr lf lp td rd fh fs gd := by
            intro ld ev sg ch g1 g2 g3
            refine hp _ _ _ _ _ _ _ _ _ _ _ _ _ _ _ _ _ _ _ _ _ _ _ (mTX_mk ho hk e1 hN rfl rfl ?_ (fun j hj => ⟨?_, ?_, ?_⟩) ?_ ?_ (fun h9 => absurd hz h9) (fun _ => ⟨rfl, ?_, fun j hj => (g1 j hj).trans (htd j ?_), g2, g3⟩))
            · show sz 0 = 0
              rw [es]; exact up_s
            · show sz j = M 1 j
              rw [es]; exact up_n hj
            · show upd fl 0 _ j = M 2 j
              rw [up_n hj, ef]; exact up_n hj
            · show upd fp 0 _ j = M 3 j
              rw [up_n hj, ep]; exact up_n hj
            · exact up_s
            · exact up_s
            · exact em
            · have hw : ∀ o, o < 4 → wD o ≤ 132 := by decide
              have := hw o ho
              omega
          have hoc : o = 0 ∨ o = 1 ∨ o = 2 ∨ o = 3 := by omega
          rcases hoc with rfl | rfl | rfl | rfl
          · refine ⟨fun h9 => absurd h9 (by decide +kernel), fun _ => ?_, fun h9 => absurd h9 (by decide +kernel), fun h9 => absurd h9 (by decide +kernel)⟩
            exact e_store_6 hk (fun t a b => fin t _ _ _ a b (fun i h1 h2 h3 => by
              have : i = 6 ∨ i = 7 ∨ i = 8 := by omega
              rcases this with rfl | rfl | rfl <;> rfl))
          · refine ⟨fun h9 => absurd h9 (by decide +kernel), fun h9 => absurd h9 (by decide +kernel), fun _ => ?_, fun h9 => absurd h9 (by decide +kernel)⟩
            exact e_store_7 hk (fun t a b => fin _ t _ _ a b (fun i h1 h2 h3 => by
              have : i = 5 ∨ i = 7 ∨ i = 8 := by omega
              rcases this with rfl | rfl | rfl <;> rfl))
          · refine ⟨fun h9 => absurd h9 (by decide +kernel), fun h9 => absurd h9 (by decide +kernel), fun h9 => absurd h9 (by decide +kernel), fun _ => ?_⟩
            exact e_store_8 hk (fun t a b => fin _ _ t _ a b (fun i h1 h2 h3 => by
              have : i = 5 ∨ i = 6 ∨ i = 8 := by omega
              rcases this with rfl | rfl | rfl <;> rfl))
          · refine ⟨fun _ => ?_, fun h9 => absurd h9 (by decide +kernel), fun h9 => absurd h9 (by decide +kernel), fun h9 => absurd h9 (by decide +kernel)⟩
            exact e_store_9 hk (fun t a b => fin _ _ _ t a b (fun i h1 h2 h3 => by
              have : i = 5 ∨ i = 6 ∨ i = 7 := by omega
              rcases this with rfl | rfl | rfl <;> rfl))
        refine ⟨vp_in_nI (by omega) (by omega), fun hx => ?_, fun hx => ?_⟩
        · rw [nI_clamp (by omega)]
          refine t118 0 ?_
          rcases hN with ⟨q1, _⟩ | ⟨_, _, q3⟩
          · exact absurd q1 hx
          · unfold cmx
            rw [nI_1, if_neg (Int32.not_lt.mpr ?_)]
            · simp
            · obtain ⟨c, hc, -, hc2, -⟩ := iv_nI (hcnt o) (by decide)
              rw [hc] at q3 ⊢
              have := (nI_ltI (by omega) (by omega)).mp q3
              exact nI_le (by omega) (by omega)
        · rw [nI_clamp (by omega)]
          refine t118 1 ?_
          rcases hN with ⟨_, q2⟩ | ⟨q1, _, _⟩
          · unfold cmx
            rw [q2, nI_1, if_pos (nI_lt (by omega) (by omega))]
          · exact absurd hx q1
      refine ⟨fun hx => ?_, fun hx => ⟨vp_in_nI (by omega) (by omega), ?_⟩⟩
      · rcases hN with ⟨q1, _⟩ | ⟨_, q2, _⟩
        · exact absurd q1 hx
        · have e : q_m_text_100 0 (M 0) sz (upd fl 0 (MXr M o).1) (upd fp 0 (MXr M o).2.1) (M 4) (M 5) (M 6) (M 7) (M 8) re (nI n) be so va wd wr lf lp td rd fh fs gd (nI o) x2 x2 post = q_m_text_100 0 (M 0) sz (upd fl 0 (MXr M o).1) (upd fp 0 (MXr M o).2.1) (M 4) (M 5) (M 6) (M 7) (M 8) re (nI n) be so va wd wr lf lp td rd fh fs gd (nI o) x2 (nI k) post := by rw [← q2]
          rw [e]
          exact t100
      · rw [nI_clamp (by omega)]
        rcases hN with ⟨_, q2⟩ | ⟨q1, _, _⟩
        · have e : q_m_text_100 0 (M 0) sz (upd fl 0 (MXr M o).1) (upd fp 0 (MXr M o).2.1) (M 4) (M 5) (M 6) (M 7) (M 8) re (nI n) be so va wd wr lf lp td rd fh fs gd (nI o) x2 (M 4 o) post = q_m_text_100 0 (M 0) sz (upd fl 0 (MXr M o).1) (upd fp 0 (MXr M o).2.1) (M 4) (M 5) (M 6) (M 7) (M 8) re (nI n) be so va wd wr lf lp td rd fh fs gd (nI o) x2 (nI k) post := by rw [← q2]
          rw [e]
          exact t100
        · exact absurd hx q1
  refine sp_in (fun h => iz (no ?_)) (fun h1 h2 => oi ?_)
  · rintro ⟨o, k, ho, _, e, _⟩
    rw [e] at h
    exact h ⟨nI_pos' (by omega), nI_le (b := 3) (by omega) (by omega)⟩
  · obtain ⟨o, ho, e⟩ := nI_of2 (M := 3) (n := 3) (by decide) (Int32.not_lt.mpr h1) h2
    obtain ⟨c, hc, -, hc2, -⟩ := iv_nI (hcnt o) (by decide)
    have noN : (∀ k, k < 2 → ¬ NUM (M 4 o) x2 k) → ¬ ∃ o k, o < 4 ∧ k < 2 ∧ x1 = nI o ∧ NUM (M 4 o) x2 k := by
      rintro hno ⟨o', k, ho', hk, e', hN⟩
      have : o = o' := (nI_eq (by omega) (by omega)).mp (e.symm.trans e')
      subst this
      exact hno k hk hN
    have hclo : Int32.toNatClampNeg x1 = o := by rw [e]; exact nI_clamp (by omega)
    have hin16 : vp_in x1 16 := by rw [e]; exact vp_in_nI (by omega) (by omega)
    refine ⟨fun hx => ⟨hin16, ?_⟩, fun hx => ⟨hin16, ?_⟩⟩
    · rw [hclo]
      refine sp_in (fun h => ⟨rfl, zi (no (noN ?_))⟩) (fun g1 g2 => ⟨rfl, io ?_⟩)
      · rintro k hk (⟨q1, _⟩ | ⟨_, q2, q3⟩)
        · exact hx q1
        · refine h ⟨?_, ?_⟩
          · rw [q2]; exact nI_pos' (by omega)
          · rw [q2, hc]
            rw [hc] at q3
            have := (nI_ltI (by omega) (by omega)).mp q3
            rw [show (1 : Int32) = nI 1 from rfl, pk_sub (by omega)]
            exact nI_le (by omega) (by omega)
      · rw [hc] at g2
        have h1c : 1 ≤ c := by
          by_cases hc0 : c = 0
          · exfalso
            rw [hc0] at g2
            have a := r_le g1
            have b := r_le g2
            have e0 : (0 : Int32).toInt = 0 := rfl
            have em : (nI 0 - 1 : Int32).toInt = -1 := by decide
            omega
          · omega
        rw [show (1 : Int32) = nI 1 from rfl, pk_sub h1c] at g2
        obtain ⟨k, hk, ek⟩ := nI_of2 (M := nI (c - 1)) (n := c - 1) (x := x2) (nI_toInt (by omega)) (Int32.not_lt.mpr g1) g2
        exact yes o k (by omega) (by omega) e (Or.inr ⟨hx, ek, by rw [hc]; exact nI_lt (by omega) (by omega)⟩)
    · rw [hclo]
      refine ⟨fun h => ?_, fun h => no (noN ?_)⟩
      · have hcl2 : c < 2 := by
          by_cases h9 : c = 2
          · exact absurd (by rw [hc, h9]; rfl) h
          · omega
        exact yes o c (by omega) hcl2 e (Or.inl ⟨hx, hc⟩)
      · rintro k hk (⟨_, q2⟩ | ⟨q1, _, _⟩)
        · rw [q2] at h
          have := (nI_eq (a := k) (b := 2) (by omega) (by omega)).mp h
          omega
        · exact q1 hx
