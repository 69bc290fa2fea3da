def tBI (I : Nat → TT) (mi : Nat → Option Nat) : Prop := ∀ j, j < 3 → ¬ mi j = none → tB (I j)
/-- what feed and end do -/
def xSA (T T' : TT) : Prop := (∀ i, 1 ≤ i → i < 25 → T'.1 i = T.1 i) ∧ (∀ i, 1 ≤ i → i < 34 → T'.2 i = T.2 i)
def xFD (T T' : TT) (a b c d e r : Int32) : Prop := xSA T T' ∧ (¬ T.1 0 + 20 ≤ 600 → r = -1 ∧ T'.1 0 = T.1 0 ∧ T'.2 0 = T.2 0) ∧ (∀ n, T.1 0 = nI n → n + 20 ≤ 600 → r = nI (n + 20) ∧ T'.1 0 = nI (n + 20) ∧ B20 (T.2 0) (T'.2 0) n a b c d e)
def mSA (M M' : Nat → Nat → Int32) : Prop := (∀ i, 2 ≤ i → i < 10 → M' i = M i) ∧ (∀ j, ¬ j = 0 → M' 1 j = M 1 j)
def mFD (M M' : Nat → Nat → Int32) (a b c d e r : Int32) : Prop := mSA M M' ∧ (¬ M 1 0 + 20 ≤ 600 → r = -1 ∧ M' 1 0 = M 1 0 ∧ M' 0 = M 0) ∧ (∀ n, M 1 0 = nI n → n + 20 ≤ 600 → r = nI (n + 20) ∧ M' 1 0 = nI (n + 20) ∧ B20 (M 0) (M' 0) n a b c d e)
def xEN (T T' : TT) (a r : Int32) : Prop := xSA T T' ∧ T'.2 0 = T.2 0 ∧ r = enR (T.1 0) a ∧ T'.1 0 = enL (T.1 0) a
def mEN (M M' : Nat → Nat → Int32) (a r : Int32) : Prop := mSA M M' ∧ M' 0 = M 0 ∧ r = enR (M 1 0) a ∧ M' 1 0 = enL (M 1 0) a
theorem TM_sa {T T' : TT} {M M' : Nat → Nat → Int32} (h : TM T M 0) (hx : xSA T T') (hm : mSA M M') (hl : M' 1 0 = T'.1 0) (ht : ∀ j, j < (T'.1 0).toNatClampNeg → M' 0 j = T'.2 0 j) : TM T' M' 0 := by
  obtain ⟨h1, h2, h3, h4, h5, h6⟩ := h
  refine ⟨hl, fun j hj => ?_, ?_, ?_, fun o ho => ?_, fun o k ho hk hlt => ?_⟩
  · rw [Nat.mul_zero, Nat.zero_add]; exact ht j hj
  · rw [hm.1 2 (by omega) (by omega), hx.1 1 (by omega) (by omega)]; exact h3
  · rw [hm.1 3 (by omega) (by omega), hx.1 2 (by omega) (by omega)]; exact h4
  · rw [hm.1 4 (by omega) (by omega), hx.2 1 (by omega) (by omega)]; exact h5 o ho
  · rw [hx.2 1 (by omega) (by omega)] at hlt
    rw [hm.1 (5 + o) (by omega) (by omega)]
    have hz : ∀ o, o < 4 → ∀ k, k < 2 → ∀ i, i < 25 → slS o k i = true → 1 ≤ i := by decide
    have hz2 : ∀ o, o < 4 → ∀ k, k < 2 → ∀ i, i < 34 → slA o k i = true → 1 ≤ i := by decide
    exact SL_same ho hk (fun i hi hs => hx.1 i (hz o ho k hk i hi hs) hi) (fun i hi hs => hx.2 i (hz2 o ho k hk i hi hs) hi) (h6 o k ho hk hlt)
theorem TM_im {T : TT} {M M' : Nat → Nat → Int32} {s : Nat} (hB : tB T) (hs : 1 ≤ s) (hm : mSA M M') (ht : ∀ j, 600 ≤ j → M' 0 j = M 0 j) (h : TM T M s) : TM T M' s := by
  refine TM_mv hB (fun c hc i hi => ?_) h
  have hcc : c = 0 ∨ c = 1 ∨ 2 ≤ c := by omega
  rcases hcc with rfl | rfl | hc2
  · exact ht _ (by have : wR 0 = 600 := rfl; rw [this]; omega)
  · exact hm.2 _ (by have : wR 1 = 1 := rfl; rw [this]; omega)
  · rw [hm.1 c hc2 (by omega)]
theorem RF_sa {T T' : TT} {M M' : Nat → Nat → Int32} {I : Nat → TT} {mi : Nat → Option Nat} (h : RF T M I mi) (hI : tBI I mi) (hm : mSA M M') (ht : ∀ j, 600 ≤ j → M' 0 j = M 0 j) (h0 : TM T' M' 0) : RF T' M' I mi := by
  refine ⟨h0, fun j hj => ⟨?_, fun hn => ?_⟩⟩
  · rw [hm.1 9 (by omega) (by omega)]; exact (h.2 j hj).1
  · exact TM_im (hI j hj hn) (by omega) hm ht ((h.2 j hj).2 hn)
theorem RF_fd {T T' : TT} {M M' : Nat → Nat → Int32} {I : Nat → TT} {mi : Nat → Option Nat} {a b c d e r1 r2 : Int32} (h : RF T M I mi) (hB : tB T) (hI : tBI I mi) (h1 : xFD T T' a b c d e r1) (h2 : mFD M M' a b c d e r2) : r1 = r2 ∧ RF T' M' I mi := by
  obtain ⟨hx, x0, x1⟩ := h1
  obtain ⟨hm, m0, m1⟩ := h2
  have hl := h.1.1
  obtain ⟨n, hn, -, hn6, -⟩ := iv_nI hB.1 (by decide)
  have hcl : (T.1 0).toNatClampNeg = n := by rw [hn]; exact nI_clamp (by omega)
  have ht0 : ∀ j, j < n → M 0 j = T.2 0 j := fun j hj => by
    have g := h.1.2.1 j (by rw [hcl]; exact hj)
    rw [Nat.mul_zero, Nat.zero_add] at g
    exact g
  by_cases hc : T.1 0 + 20 ≤ 600
  · have hle : n + 20 ≤ 600 := by rw [hn] at hc; exact (e_len (by omega)).mp hc
    obtain ⟨a1, a2, a3⟩ := x1 n hn hle
    obtain ⟨b1, b2, b3⟩ := m1 n (hl.trans hn) hle
    refine ⟨a1.trans b1.symm, RF_sa h hI hm (fun j hj => B20_out b3 j (by omega)) (TM_sa h.1 hx hm (b2.trans a2.symm) (fun j hj => ?_))⟩
    rw [a2, nI_clamp (by omega)] at hj
    exact B20_un b3 a3 ht0 j hj
  · obtain ⟨a1, a2, a3⟩ := x0 hc
    obtain ⟨b1, b2, b3⟩ := m0 (by rw [hl]; exact hc)
    refine ⟨a1.trans b1.symm, RF_sa h hI hm (fun j hj => by rw [b3]) (TM_sa h.1 hx hm (b2.trans (hl.trans a2.symm)) (fun j hj => ?_))⟩
    rw [a2, hcl] at hj
    rw [b3, a3]
    exact ht0 j hj
theorem RF_en {T T' : TT} {M M' : Nat → Nat → Int32} {I : Nat → TT} {mi : Nat → Option Nat} {a r1 r2 : Int32} (h : RF T M I mi) (hB : tB T) (hI : tBI I mi) (h1 : xEN T T' a r1) (h2 : mEN M M' a r2) : r1 = r2 ∧ RF T' M' I mi := by
  obtain ⟨hx, x1, x2, x3⟩ := h1
  obtain ⟨hm, m1, m2, m3⟩ := h2
  have hl := h.1.1
  refine ⟨by rw [x2, m2, hl], RF_sa h hI hm (fun j hj => by rw [m1]) (TM_sa h.1 hx hm (by rw [x3, m3, hl]) (fun j hj => ?_))⟩
  have hle : (T'.1 0).toNatClampNeg ≤ (T.1 0).toNatClampNeg := by
    rw [x3]
    unfold enL
    by_cases hc : 0 ≤ a ∧ a ≤ T.1 0
    · rw [if_pos hc]
      have := r_le hc.2
      have e1 : a.toNatClampNeg = a.toInt.toNat := rfl
      have e2 : (T.1 0).toNatClampNeg = (T.1 0).toInt.toNat := rfl
      omega
    · rw [if_neg hc]; exact Nat.le_refl _
  have g := h.1.2.1 j (by omega)
  rw [Nat.mul_zero, Nat.zero_add] at g
  rw [m1, x1]
  exact g
/-- images -/
def xIM (mi mi' : Nat → Option Nat) (I I' : Nat → TT) (T : TT) (a r : Int32) : Prop := (¬ imJ a → r = 0 ∧ mi' = mi ∧ I' = I) ∧ (∀ k, k < 3 → a = nI k → r = 1 ∧ ¬ mi' k = none ∧ (∀ j, ¬ j = k → mi' j = mi j ∧ I' j = I j) ∧ tCP (I' k) T)
def xAG (mi : Nat → Option Nat) (I : Nat → TT) (T T' : TT) (a r : Int32) : Prop := (¬ (∃ k, k < 3 ∧ a = nI k ∧ ¬ mi k = none) → r = 0 ∧ T' = T) ∧ (∀ k, k < 3 → a = nI k → ¬ mi k = none → r = 1 ∧ tCP T' (I k))
def mIM (M M' : Nat → Nat → Int32) (a r : Int32) : Prop := (¬ imJ a → r = 0 ∧ ∀ i, i < 10 → M' i = M i) ∧ (∀ k, k < 3 → a = nI k → r = 1 ∧ mCP M M' 0 (k + 1) ∧ M' 9 k = 1 ∧ ∀ j, ¬ j = k → M' 9 j = M 9 j)
def mAG (M M' : Nat → Nat → Int32) (a r : Int32) : Prop := (¬ (∃ k, k < 3 ∧ a = nI k ∧ ¬ M 9 k = 0) → r = 0 ∧ ∀ i, i < 10 → M' i = M i) ∧ (∀ k, k < 3 → a = nI k → ¬ M 9 k = 0 → r = 1 ∧ mCP M M' (k + 1) 0 ∧ M' 9 = M 9)
theorem TM_eq {T : TT} {M M' : Nat → Nat → Int32} {s : Nat} (hB : tB T) (h : ∀ i, i < 10 → M' i = M i) (hT : TM T M s) : TM T M' s := TM_mv hB (fun c hc i _ => by rw [h c (by omega)]) hT
theorem RF_im {T : TT} {M M' : Nat → Nat → Int32} {I I' : Nat → TT} {mi mi' : Nat → Option Nat} {a r1 r2 : Int32} (h : RF T M I mi) (hB : tB T) (hI : tBI I mi) (h1 : xIM mi mi' I I' T a r1) (h2 : mIM M M' a r2) : r1 = r2 ∧ RF T M' I' mi' := by
  by_cases hj : imJ a
  rotate_left
  · obtain ⟨e1, rfl, rfl⟩ := h1.1 hj
    obtain ⟨e2, m1⟩ := h2.1 hj
    refine ⟨by rw [e1, e2], TM_eq hB m1 h.1, fun j hj => ⟨?_, fun hn => TM_eq (hI j hj hn) m1 ((h.2 j hj).2 hn)⟩⟩
    rw [m1 9 (by omega)]; exact (h.2 j hj).1
  · obtain ⟨k, hk, rfl⟩ := imJ_nI.mp hj
    obtain ⟨e1, a2, a3, a4⟩ := h1.2 k hk rfl
    obtain ⟨e2, b1, b3, b4⟩ := h2.2 k hk rfl
    refine ⟨by rw [e1, e2], TM_mv hB (mCP_out b1 (by omega)) h.1, fun j hj => ?_⟩
    by_cases hjk : j = k
    · subst hjk
      refine ⟨⟨fun h9 => absurd h9 a2, fun h9 => absurd (b3.symm.trans h9) (by decide)⟩, fun _ => TM_cp a4 (TM_mv hB (fun c hc i hi => (b1 c hc).1 i hi) h.1)⟩
    · rw [(a3 j hjk).1, (a3 j hjk).2, b4 j hjk]
      exact ⟨(h.2 j hj).1, fun hn => TM_mv (hI j hj hn) (mCP_out b1 (by omega)) ((h.2 j hj).2 hn)⟩
theorem RF_ag {T T' : TT} {M M' : Nat → Nat → Int32} {I : Nat → TT} {mi : Nat → Option Nat} {a r1 r2 : Int32} (h : RF T M I mi) (hB : tB T) (hI : tBI I mi) (h1 : xAG mi I T T' a r1) (h2 : mAG M M' a r2) : r1 = r2 ∧ RF T' M' I mi := by
  by_cases hj : ∃ k, k < 3 ∧ a = nI k ∧ ¬ mi k = none
  · obtain ⟨k, hk, e, hm⟩ := hj
    obtain ⟨e1, a1⟩ := h1.2 k hk e hm
    obtain ⟨e2, b1, b2⟩ := h2.2 k hk e (fun h9 => hm ((h.2 k hk).1.mpr h9))
    refine ⟨by rw [e1, e2], TM_cp a1 (TM_mv (hI k hk hm) (fun c hc i hi => (b1 c hc).1 i hi) ((h.2 k hk).2 hm)), fun j hj => ?_⟩
    rw [b2]
    exact ⟨(h.2 j hj).1, fun hn => TM_mv (hI j hj hn) (mCP_out b1 (by omega)) ((h.2 j hj).2 hn)⟩
  · obtain ⟨e1, rfl⟩ := h1.1 hj
    obtain ⟨e2, m1⟩ := h2.1 (fun ⟨k, hk, e, h9⟩ => hj ⟨k, hk, e, fun h8 => h9 ((h.2 k hk).1.mp h8)⟩)
    refine ⟨by rw [e1, e2], TM_eq hB m1 h.1, fun j hj => ⟨?_, fun hn => TM_eq (hI j hj hn) m1 ((h.2 j hj).2 hn)⟩⟩
    rw [m1 9 (by omega)]; exact (h.2 j hj).1
/-- texts -/
theorem TX_eq {T : TT} {M : Nat → Nat → Int32} (h : TM T M 0) (o : Nat) : MXr M o = TXr T o := by
  unfold MXr TXr
  rw [h.1]
  have e : nB (M 0) (T.1 0).toNatClampNeg = nB (T.2 0) (T.1 0).toNatClampNeg := by
    funext j
    unfold nB
    by_cases hj : j < (T.1 0).toNatClampNeg
    · rw [if_pos hj, if_pos hj]
      have g := h.2.1 j hj
      rw [Nat.mul_zero, Nat.zero_add] at g
      exact g
    · rw [if_neg hj, if_neg hj]
  rw [e]
theorem sl_neS : ((List.range 4).all fun o => (List.range 2).all fun k => (List.range 4).all fun o' => (List.range 2).all fun k' => (List.range 25).all fun i => (o == o' && k == k') || !slS o' k' i || (decide (3 ≤ i) && !slS o k i)) = true := by decide +kernel
theorem sl_neA : ((List.range 4).all fun o => (List.range 2).all fun k => (List.range 4).all fun o' => (List.range 2).all fun k' => (List.range 34).all fun i => (o == o' && k == k') || !slA o' k' i || (decide (2 ≤ i) && !slA o k i)) = true := by decide +kernel
theorem sl_ne (o : Nat) (ho : o < 4) (k : Nat) (hk : k < 2) (o' : Nat) (ho' : o' < 4) (k' : Nat) (hk' : k' < 2) (hn : ¬ (o = o' ∧ k = k')) : (∀ i, i < 25 → slS o' k' i = true → 3 ≤ i ∧ ¬ slS o k i = true) ∧ (∀ i, i < 34 → slA o' k' i = true → 2 ≤ i ∧ ¬ slA o k i = true) := by
  have rg : ∀ {n : Nat} {p : Nat → Bool}, (List.range n).all p = true → ∀ x, x < n → p x = true := fun h x hx => List.all_eq_true.mp h x (List.mem_range.mpr hx)
  refine ⟨fun i hi hs => ?_, fun i hi hs => ?_⟩
  · have h := rg (rg (rg (rg (rg sl_neS o ho) k hk) o' ho') k' hk') i hi
    simp only [hs, Bool.not_true, Bool.or_false, Bool.or_eq_true, Bool.and_eq_true, beq_iff_eq, decide_eq_true_eq, Bool.not_eq_true'] at h
    rcases h with h | h
    · exact absurd h hn
    · exact ⟨h.1, by rw [h.2]; decide⟩
  · have h := rg (rg (rg (rg (rg sl_neA o ho) k hk) o' ho') k' hk') i hi
    simp only [hs, Bool.not_true, Bool.or_false, Bool.or_eq_true, Bool.and_eq_true, beq_iff_eq, decide_eq_true_eq, Bool.not_eq_true'] at h
    rcases h with h | h
    · exact absurd h hn
    · exact ⟨h.1, by rw [h.2]; decide⟩
theorem sl_lo : ∀ o, o < 4 → ∀ k, k < 2 → (∀ i, i < 25 → slS o k i = true → 3 ≤ i) ∧ (∀ i, i < 34 → slA o k i = true → 2 ≤ i) := by decide +kernel
theorem wD_le : ∀ o, o < 4 → 20 ≤ wD o ∧ wD o ≤ 132 := by decide
/-- the other slots behind a text -/
theorem RF_tx {T T' : TT} {M M' : Nat → Nat → Int32} {I : Nat → TT} {mi : Nat → Option Nat} {a1 a2 r1 r2 : Int32} (h : RF T M I mi) (hB : tB T) (hB' : tB T') (hI : tBI I mi) (h1 : xTX T T' a1 a2 r1) (h2 : mTX M M' a1 a2 r2) : r1 = r2 ∧ RF T' M' I mi := by
  obtain ⟨x0, xt, xn, xy⟩ := h1
  obtain ⟨m0, m9, ml, ms, mn, my⟩ := h2
  have hT := h.1
  have hcnt : ∀ o, o < 4 → M 4 o = T.2 1 o := fun o ho => by
    have g := hT.2.2.2.2.1 o ho
    rw [Nat.mul_zero, Nat.zero_add] at g
    exact g
  have emp : ∀ j, j < (T'.1 0).toNatClampNeg → M' 0 (600 * 0 + j) = T'.2 0 j := fun j hj => by
    rw [x0] at hj
    exact absurd hj (by have : Int32.toNatClampNeg 0 = 0 := rfl; omega)
  -- nothing of the rows changes
  have stay : (∀ i, 4 ≤ i → i < 9 → M' i = M i) → T'.2 1 = T.2 1 → sameT T T' → M' 2 0 = T'.1 1 → M' 3 0 = T'.1 2 → RF T' M' I mi := by
    intro q1 q2 q3 q4 q5
    refine ⟨⟨ml.trans x0.symm, emp, q4, q5, fun o ho => ?_, fun o k ho hk hlt => ?_⟩, fun j hj => ⟨by rw [m9]; exact (h.2 j hj).1, fun hn => TM_mv (hI j hj hn) (fun c hc i hi => ?_) ((h.2 j hj).2 hn)⟩⟩
    · rw [q1 4 (by omega) (by omega), q2]; exact hT.2.2.2.2.1 o ho
    · rw [q2] at hlt
      rw [q1 (5 + o) (by omega) (by omega)]
      exact SL_same ho hk (fun i hi hs => q3.1 i ((sl_lo o ho k hk).1 i hi hs) hi) (fun i hi hs => q3.2 i ((sl_lo o ho k hk).2 i hi hs) hi) (hT.2.2.2.2.2 o k ho hk hlt)
    · have hcc : c = 0 ∨ c = 1 ∨ c = 2 ∨ c = 3 ∨ 4 ≤ c := by omega
      have hpos : ∀ c, (c = 1 ∨ c = 2 ∨ c = 3) → ¬ wR c * (j + 1) + i = 0 := by
        intro c hc9
        have : wR c = 1 := by rcases hc9 with rfl | rfl | rfl <;> rfl
        rw [this]; omega
      rcases hcc with rfl | rfl | rfl | rfl | hc4
      · rw [m0]
      · exact (ms _ (hpos 1 (by omega))).1
      · exact (ms _ (hpos 2 (by omega))).2.1
      · exact (ms _ (hpos 3 (by omega))).2.2
      · rw [q1 c hc4 (by omega)]
  by_cases hex : ∃ o k, o < 4 ∧ k < 2 ∧ a1 = nI o ∧ NUM (T.2 1 o) a2 k
  rotate_left
  · obtain ⟨u1, u2, u3, u4, u5⟩ := xn hex
    obtain ⟨w1, w2, w3, w4⟩ := mn (fun ⟨o, k, ho, hk, e, hN⟩ => hex ⟨o, k, ho, hk, e, by rw [← hcnt o ho]; exact hN⟩)
    exact ⟨u1.trans w1.symm, stay w4 u4 u5 (w2.trans u2.symm) (w3.trans u3.symm)⟩
  · obtain ⟨o, k, ho, hk, e, hN⟩ := hex
    obtain ⟨u1, u2, u3, u4⟩ := xy o k ho hk e hN
    obtain ⟨w1, w2, w3, w4⟩ := my o k ho hk e (by rw [hcnt o ho]; exact hN)
    rw [TX_eq hT o] at w1 w2 w3 w4
    by_cases hz : (TXr T o).1 = 0
    rotate_left
    · obtain ⟨p1, p2, p3⟩ := u3 hz
      obtain ⟨s1, s2⟩ := w3 hz
      exact ⟨p1.trans s1.symm, stay s2 p2 p3 (w1.trans u1.symm) (w2.trans u2.symm)⟩
    · obtain ⟨p1, p2, p3, p4⟩ := u4 hz
      obtain ⟨s1, s2, s3, s4, s5⟩ := w4 hz
      refine ⟨p1.trans s1.symm, ⟨ml.trans x0.symm, emp, w1.trans u1.symm, w2.trans u2.symm, fun o' ho' => ?_, fun o' k' ho' hk' hlt => ?_⟩, fun j hj => ⟨by rw [m9]; exact (h.2 j hj).1, fun hn => TM_mv (hI j hj hn) (fun c hc i hi => ?_) ((h.2 j hj).2 hn)⟩⟩
      · rw [Nat.mul_zero, Nat.zero_add, s2, p2, hcnt o ho]
        by_cases hoo : o' = o
        · subst hoo; rw [up_s, up_s]
        · rw [up_n hoo, up_n hoo]; exact hcnt o' ho'
      · have hw := wD_le o ho
        have hw' := wD_le o' ho'
        by_cases hsame : o = o' ∧ k = k'
        · obtain ⟨rfl, rfl⟩ := hsame
          refine SL_ext ho hk hB' (fun j hj => ?_) p3
          show (TXr T o).2.2 j = M' (5 + o) (2 * wD o * 0 + wD o * k + j)
          rw [Nat.mul_zero, Nat.zero_add]
          exact (s3 j hj).symm
        · have hsl := sl_ne o ho k hk o' ho' k' hk' hsame
          rw [p2] at hlt
          by_cases hoo : o' = o
          · subst hoo
            rw [up_s] at hlt
            have hkk : ¬ k' = k := fun h9 => hsame ⟨rfl, h9.symm⟩
            have hlt2 : nI k' < T.2 1 o' := by
              obtain ⟨c, hc, -, hc2, -⟩ := iv_nI (hB.2.2.1 o') (by decide)
              rw [hc] at hlt ⊢
              unfold cmx at hlt
              rw [nI_1] at hlt
              by_cases hcl : nI c < nI (k + 1)
              · rw [if_pos hcl] at hlt
                have q1 := (nI_ltI (by omega) (by omega)).mp hlt
                rcases hN with ⟨_, q2⟩ | ⟨_, _, q3⟩
                · rw [hc] at q2
                  have := (nI_eq (by omega) (by omega)).mp q2
                  exact nI_lt (by omega) (by omega)
                · rw [hc] at q3
                  have q4 := (nI_ltI (by omega) (by omega)).mp q3
                  have q5 := (nI_ltI (by omega) (by omega)).mp hcl
                  omega
              · rw [if_neg hcl] at hlt; exact hlt
            have hq := SL_same (T' := T') ho' hk' (fun i hi hs => p4.1 i (hsl.1 i hi hs).1 hi (hsl.1 i hi hs).2) (fun i hi hs => p4.2 i (hsl.2 i hi hs).1 hi (hsl.2 i hi hs).2) (hT.2.2.2.2.2 o' k' ho' hk' hlt2)
            refine SL_ext ho' hk' hB' (fun j hj => ?_) hq
            show M (5 + o') (2 * wD o' * 0 + wD o' * k' + j) = M' (5 + o') (2 * wD o' * 0 + wD o' * k' + j)
            rw [Nat.mul_zero, Nat.zero_add]
            refine (s4 _ ?_).symm
            have hkc : (k = 0 ∧ k' = 1) ∨ (k = 1 ∧ k' = 0) := by omega
            rcases hkc with ⟨rfl, rfl⟩ | ⟨rfl, rfl⟩
            · rw [Nat.mul_zero, Nat.mul_one]; omega
            · rw [Nat.mul_zero, Nat.mul_one]; omega
          · rw [up_n hoo] at hlt
            rw [s5 (5 + o') (by omega) (by omega) (by omega)]
            exact SL_same ho' hk' (fun i hi hs => p4.1 i (hsl.1 i hi hs).1 hi (hsl.1 i hi hs).2) (fun i hi hs => p4.2 i (hsl.2 i hi hs).1 hi (hsl.2 i hi hs).2) (hT.2.2.2.2.2 o' k' ho' hk' hlt)
      · have hcc : c = 0 ∨ c = 1 ∨ c = 2 ∨ c = 3 ∨ c = 4 ∨ 5 ≤ c := by omega
        have hpos : ∀ c, (c = 1 ∨ c = 2 ∨ c = 3) → ¬ wR c * (j + 1) + i = 0 := by
          intro c hc9
          have : wR c = 1 := by rcases hc9 with rfl | rfl | rfl <;> rfl
          rw [this]; omega
        rcases hcc with rfl | rfl | rfl | rfl | rfl | hc5
        · rw [m0]
        · exact (ms _ (hpos 1 (by omega))).1
        · exact (ms _ (hpos 2 (by omega))).2.1
        · exact (ms _ (hpos 3 (by omega))).2.2
        · rw [s2, up_n (by have : wR 4 = 4 := rfl; rw [this]; omega)]
        · by_cases hco : c = 5 + o
          · subst hco
            refine s4 _ (Or.inr ?_)
            rw [wD_R o ho]
            have hkc : k = 0 ∨ k = 1 := by omega
            have hj1 : 2 * wD o * 1 ≤ 2 * wD o * (j + 1) := Nat.mul_le_mul_left _ (by omega)
            rcases hkc with rfl | rfl
            · rw [Nat.mul_zero]; omega
            · rw [Nat.mul_one]; omega
          · rw [s5 c hc5 hc hco]
