/-- words: which of the spellings a row of letters is -/
def spl (B : Nat → Int32) (f e w : Nat) : Prop := e - f = sLen.getD w 0 ∧ ∀ i, i < sLen.getD w 0 → B (f + i) = (sByt.getD w []).getD i 0
theorem spl_tab : ∀ i, i < 20 → ∀ j, j < 20 → ¬ i = j → ¬ sLen.getD i 0 = sLen.getD j 0 ∨ ∃ k, k < sLen.getD i 0 ∧ ¬ (sByt.getD i []).getD k 0 = (sByt.getD j []).getD k 0 := by decide +kernel
theorem spl_un {B : Nat → Int32} {f e i j : Nat} (hi : i < 20) (hj : j < 20) (h1 : spl B f e i) (h2 : spl B f e j) : i = j := by
  by_cases h : i = j
  · exact h
  · exfalso
    rcases spl_tab i hi j hj h with a | ⟨k, hk, a⟩
    · exact a (h1.1.symm.trans h2.1)
    · exact a ((h1.2 k hk).symm.trans (h2.2 k (by rw [← h2.1, h1.1]; exact hk)))
def wlo (o : Nat) : Nat := [0, 10, 16, 18, 20].getD o 0
def wP (B : Nat → Int32) (n r o j : Nat) : Prop := wlo o ≤ j ∧ j < wlo (o + 1) ∧ tK B n r = 1 ∧ spl B (tF B n r) (tN B n r) j
noncomputable def wOf (B : Nat → Int32) (n r o : Nat) : Nat := @dite Nat (∃ j, wP B n r o j) (Classical.propDecidable _) (fun h => Classical.choose h) (fun _ => 20)
theorem wlo_lt : ∀ o, o ≤ 3 → wlo (o + 1) ≤ 20 ∧ wlo o < wlo (o + 1) := by decide
theorem wd_is {B : Nat → Int32} {n r o j : Nat} (ho : o ≤ 3) (h : wP B n r o j) : wOf B n r o = j := by
  have hex : ∃ j, wP B n r o j := ⟨j, h⟩
  have e : wOf B n r o = Classical.choose hex := by unfold wOf; exact dif_pos hex
  rw [e]
  have hc := Classical.choose_spec hex
  have := (wlo_lt o ho).1
  exact spl_un (Nat.lt_of_lt_of_le hc.2.1 this) (Nat.lt_of_lt_of_le h.2.1 this) hc.2.2.2 h.2.2.2
theorem wd_no {B : Nat → Int32} {n r o : Nat} (h : ∀ j, ¬ wP B n r o j) : wOf B n r o = 20 := by
  unfold wOf
  exact dif_neg (fun ⟨j, hj⟩ => h j hj)
theorem wd_cases {B : Nat → Int32} {n r o : Nat} (ho : o ≤ 3) : (wOf B n r o = 20 ∧ ∀ j, ¬ wP B n r o j) ∨ (wOf B n r o < 20 ∧ wP B n r o (wOf B n r o)) := by
  by_cases h : ∃ j, wP B n r o j
  · obtain ⟨j, hj⟩ := h
    rw [wd_is ho hj]
    exact Or.inr ⟨Nat.lt_of_lt_of_le hj.2.1 (wlo_lt o ho).1, hj⟩
  · exact Or.inl ⟨wd_no (fun j hj => h ⟨j, hj⟩), fun j hj => h ⟨j, hj⟩⟩
theorem sB_tab : ∀ w, w < 20 → ∀ i, i < sLen.getD w 0 → (sByt.getD w []).getD i 0 &&& 255 = (sByt.getD w []).getD i 0 := by decide +kernel
theorem sL_tab : ∀ w, w < 20 → 0 < sLen.getD w 0 ∧ sLen.getD w 0 ≤ 7 := by decide +kernel
theorem e_spelled {tp B : Nat → Int32} {n f e w : Nat} {post : Int32 → Prop} (hn : n ≤ 600) (hf : f ≤ e) (he : e ≤ n) (hB : ∀ j, j < n → tp j = B j) (hw : w < 20) (h1 : spl B f e w → post 1) (h0 : ¬ spl B f e w → post 0) : q_wr_X4_isSpelled_0 tp (nI e) (nI f) w post := by
  have hl := sL_tab w hw
  refine ⟨hw, fun hq => ?_, fun hq => h0 (fun hs => hq ?_)⟩
  · rw [pk_sub hf] at hq
    have hq2 : sLen.getD w 0 = e - f := (nI_eq (by omega) (by omega)).mp hq
    intro P hP
    have loop : ∀ m i, m + i = sLen.getD w 0 → (∀ k, k < i → B (f + k) = (sByt.getD w []).getD k 0) → P (nI i) := by
      intro m
      induction m with
      | zero =>
        intro i hi hk
        apply hP
        refine ⟨hw, pk_le (sLen.getD w 0) i (fun _ => h1 ⟨hq2.symm, fun k hk2 => hk k (by omega)⟩) (fun h9 => absurd h9 (by omega))⟩
      | succ m ih =>
        intro i hi hk
        apply hP
        refine ⟨hw, pk_le (sLen.getD w 0) i (fun h9 => absurd h9 (by omega)) (fun _ => ?_)⟩
        rw [nI_add, nI_clamp (n := f + i) (by omega), nI_clamp (n := i) (by omega), hB (f + i) (by omega), sB_tab w hw i (by omega)]
        refine ⟨vp_in_nI (by omega) (by omega), hw, vp_in_nI (by omega) (by omega), fun hq3 v ev => ?_, fun hq3 => h0 (fun hs => hq3 (hs.2 i (by omega)))⟩
        rw [ev, nI_1]
        refine ih (i + 1) (by omega) (fun k hk2 => ?_)
        by_cases hki : k = i
        · rw [hki]; exact hq3
        · exact hk k (by omega)
    exact loop (sLen.getD w 0) 0 (by omega) (fun k hk => absurd hk (by omega))
  · rw [pk_sub hf, hs.1]
theorem wlo_tb : ∀ o, o ≤ 4 → tbf_0 o = nI (wlo o) := by decide +kernel
theorem e_wordOf {tp B : Nat → Int32} {n r o : Nat} {post : Int32 → Prop} (hn : n ≤ 600) (hr : r ≤ n) (ho : o ≤ 3) (hB : ∀ j, j < n → tp j = B j) (h0 : wOf B n r o = 20 → post (-1)) (h1 : wOf B n r o < 20 → wP B n r o (wOf B n r o) → post (nI (wOf B n r o))) : q_wr_X4_wordOf_0 tp (nI (tN B n r)) (nI (tK B n r)) (nI (tF B n r)) (nI o) post := by
  have hk := tk_le (B := B) hr
  have hwl := wlo_lt o ho
  refine pk_eq (tK B n r) 1 (fun hK => ⟨vp_in_nI (by omega) (by omega), fun v ev => ?_⟩) (fun hK => h0 (wd_no (fun j hj => hK hj.2.2.1)))
  rw [nI_clamp (by omega), wlo_tb o (by omega)] at ev
  rw [ev]
  intro P hP
  have loop : ∀ m j, m + j = wlo (o + 1) → wlo o ≤ j → (∀ i, wlo o ≤ i → i < j → ¬ spl B (tF B n r) (tN B n r) i) → P (nI j) := by
    intro m
    induction m with
    | zero =>
      intro j hj hlo hi
      apply hP
      rw [nI_1, nI_clamp (n := o + 1) (by omega), wlo_tb (o + 1) (by omega)]
      refine ⟨vp_in_nI (by omega) (by omega), pk_le (wlo (o + 1)) j (fun _ => h0 (wd_no (fun k hk2 => hi k hk2.1 (by have := hk2.2.1; omega) hk2.2.2.2))) (fun h9 => absurd h9 (by omega))⟩
    | succ m ih =>
      intro j hj hlo hi
      apply hP
      rw [nI_1, nI_clamp (n := o + 1) (by omega), wlo_tb (o + 1) (by omega)]
      refine ⟨vp_in_nI (by omega) (by omega), pk_le (wlo (o + 1)) j (fun h9 => absurd h9 (by omega)) (fun _ => ⟨vp_in_nI (by omega) (by omega), ?_⟩)⟩
      rw [nI_clamp (n := j) (by omega)]
      refine e_spelled hn hk.1 hk.2.1 hB (by omega) (fun hs => oi ?_) (fun hs => iz (fun v2 e2 => ?_))
      · have hp : wP B n r o j := ⟨hlo, by omega, hK, hs⟩
        have e := wd_is ho hp
        have g := h1 (by omega) (by rw [e]; exact hp)
        rw [e] at g
        exact g
      · rw [e2, nI_1]
        refine ih (j + 1) (by omega) (by omega) (fun i hi1 hi2 => ?_)
        by_cases hij : i = j
        · rw [hij]; exact hs
        · exact hi i hi1 (by omega)
  exact loop (wlo (o + 1) - wlo o) (wlo o) (by omega) (Nat.le_refl _) (fun i h9 h8 => absurd h8 (by omega))
/-- packed words -/
def pN (d : Nat → Nat) : Nat → Nat
  | 0 => 0
  | m + 1 => 256 * pN d m + d m
def pL : List Nat → Nat
  | [] => 0
  | a :: l => 256 * pL l + a
theorem pN_inj (d : Nat → Nat) : ∀ (l : List Nat) (m : Nat), (∀ i, i < m → 0 < d i ∧ d i < 256) → (∀ a, a ∈ l → 0 < a ∧ a < 256) → pN d m = pL l → m = l.length ∧ ∀ i, i < m → d i = l.getD (m - 1 - i) 0
  | [], 0 => fun _ _ _ => ⟨rfl, fun i hi => absurd hi (by omega)⟩
  | [], m + 1 => fun h _ e => by
    have := h m (by omega)
    simp only [pN, pL] at e
    omega
  | a :: l, 0 => fun _ h e => by
    have := h a (by simp)
    simp only [pN, pL] at e
    omega
  | a :: l, m + 1 => fun h1 h2 e => by
    have a1 := h1 m (by omega)
    have a2 := h2 a (by simp)
    simp only [pN, pL] at e
    obtain ⟨e1, e2⟩ := pN_inj d l m (fun i hi => h1 i (by omega)) (fun b hb => h2 b (by simp [hb])) (by omega)
    refine ⟨by simp [e1], fun i hi => ?_⟩
    by_cases him : i = m
    · subst him
      have : i + 1 - 1 - i = 0 := by omega
      rw [this]
      simp only [List.getD_cons_zero]
      omega
    · rw [e2 i (by omega)]
      have : m + 1 - 1 - i = (m - 1 - i) + 1 := by omega
      rw [this, List.getD_cons_succ]
theorem pN_lt (d : Nat → Nat) : ∀ m, (∀ i, i < m → d i < 256) → pN d m < 256 ^ m
  | 0 => fun _ => by simp [pN]
  | m + 1 => fun h => by
    have a := h m (by omega)
    have b := pN_lt d m (fun i hi => h i (by omega))
    rw [Nat.pow_succ]
    simp only [pN]
    omega
def wC : List Nat := [6845812, 33329961647564645, 6578541, 1684366704, 495740085349, 7823737, 1701013615, 119165551928690, 126896661030258, 461414299507, 422608071022, 1936289383, 33610324346432613, 2002873451, 427020610914, 28259043934301796, 448377483876, 1836414053, 508675318629, 1937007984]
def rB (w : Nat) : List Nat := ((sByt.getD w []).map Int32.toNatClampNeg).reverse
theorem rB_tab : ∀ w, w < 20 → pL (rB w) = wC.getD w 0 ∧ (rB w).length = sLen.getD w 0 ∧ (∀ a, a ∈ rB w → 0 < a ∧ a < 256) ∧ (∀ i, i < sLen.getD w 0 → nI ((rB w).getD (sLen.getD w 0 - 1 - i) 0) = (sByt.getD w []).getD i 0) := by decide +kernel
theorem wC_lt : ∀ w, w < 20 → wC.getD w 0 < 2 ^ 63 ∧ 0 < wC.getD w 0 := by decide +kernel
theorem sh8 {a b : Nat} (ha : a < 2 ^ 55) (hb : b < 256) : (lN a <<< (Int32.toInt64 8 &&& 63)) ||| lN b = lN (256 * a + b) := by
  have e8 : (Int32.toInt64 8 &&& 63 : Int64) = 8 := by decide
  rw [e8]
  apply Int64.toBitVec_inj.mp
  apply BitVec.eq_of_toNat_eq
  have h1 : (lN a).toBitVec.toNat = a := by
    show a % 2 ^ 64 = a
    exact Nat.mod_eq_of_lt (by omega)
  have h2 : (lN b).toBitVec.toNat = b := by
    show b % 2 ^ 64 = b
    exact Nat.mod_eq_of_lt (by omega)
  have h3 : (lN (256 * a + b)).toBitVec.toNat = 256 * a + b := by
    show (256 * a + b) % 2 ^ 64 = 256 * a + b
    exact Nat.mod_eq_of_lt (by omega)
  rw [h3, Int64.toBitVec_or, Int64.toBitVec_shiftLeft, BitVec.toNat_or, h2]
  have e9 : ((8 : Int64).toBitVec.smod 64) = 8 := by decide
  rw [e9]
  have e10 : ((lN a).toBitVec <<< (8 : BitVec 64)).toNat = 256 * a := by
    rw [BitVec.shiftLeft_eq', BitVec.toNat_shiftLeft, h1]
    show (a <<< 8) % 2 ^ 64 = 256 * a
    rw [Nat.shiftLeft_eq]
    rw [Nat.mod_eq_of_lt (by omega)]
    omega
  rw [e10]
  have := Nat.shiftLeft_add_eq_or_of_lt (b := b) (i := 8) (by omega) a
  rw [Nat.shiftLeft_eq] at this
  rw [show 256 * a = a * 2 ^ 8 by omega]
  exact this.symm
def dB (B : Nat → Int32) (f i : Nat) : Nat := (B (f + i)).toNatClampNeg
theorem let_n {x : Int32} (h : 97 ≤ x ∧ x ≤ 122) : ∃ d : Nat, x = nI d ∧ 97 ≤ d ∧ d ≤ 122 := by
  have e1 : (97 : Int32).toInt = 97 := rfl
  have e2 : (122 : Int32).toInt = 122 := rfl
  obtain ⟨d, h1, h2, h3, h4⟩ := iv_nI (a := 97) (b := 122) (x := x) ⟨by have := r_le h.1; omega, by have := r_le h.2; omega⟩ (by decide)
  exact ⟨d, h1, by omega, by omega⟩
theorem pw_pN {B : Nat → Int32} {f : Nat} (hb : ∀ j, iv (-128) 127 (B j)) : ∀ m, m ≤ 8 → (∀ i, i < m → 97 ≤ B (f + i) ∧ B (f + i) ≤ 122) → pw B f m = lN (pN (dB B f) m) ∧ pN (dB B f) m < 128 * 256 ^ (m - 1)
  | 0 => fun _ _ => ⟨rfl, by simp [pN]⟩
  | m + 1 => fun hm h => by
    obtain ⟨d, hd, d1, d2⟩ := let_n (h m (by omega))
    have e : Int32.toInt64 (B (f + m) &&& 255) = lN d := by
      rw [(u8 (hb (f + m))).2.2.2.2.2.1 (let_0 (h m (by omega))), hd]
      exact nI_l (by omega)
    have hdm : dB B f m = d := by unfold dB; rw [hd]; exact nI_clamp (by omega)
    obtain ⟨e1, e2⟩ := pw_pN hb m (by omega) (fun i hi => h i (by omega))
    have hp : 256 ^ (m - 1) ≤ 256 ^ 6 := Nat.pow_le_pow_right (by omega) (by omega)
    have e6 : (256 : Nat) ^ 6 = 281474976710656 := by decide
    have hlt : pN (dB B f) m < 2 ^ 55 := by omega
    refine ⟨?_, ?_⟩
    · show (pw B f m <<< (Int32.toInt64 8 &&& 63)) ||| Int32.toInt64 (B (f + m) &&& 255) = lN (256 * pN (dB B f) m + dB B f m)
      rw [e, e1, hdm]
      exact sh8 hlt (by omega)
    · show 256 * pN (dB B f) m + dB B f m < 128 * 256 ^ (m + 1 - 1)
      rw [hdm]
      cases m with
      | zero => simp only [pN]; omega
      | succ m =>
        rw [show m + 1 + 1 - 1 = (m + 1 - 1) + 1 by omega, Nat.pow_succ]
        omega
/-- a word of the reference is a spelling -/
theorem tW_iff {B : Nat → Int32} {n r j : Nat} (hr : r ≤ n) (hb : ∀ j, iv (-128) 127 (B j)) (hj : j < 20) (hK : tK B n r = 1) : tW B n r = lN (wC.getD j 0) ↔ spl B (tF B n r) (tN B n r) j := by
  have hk := tk_le (B := B) hr
  obtain ⟨r1, r2, r3, r4⟩ := rB_tab j hj
  have hw := wC_lt j hj
  have hL := sL_tab j hj
  have hlt : tF B n r < n := by
    have := hk.2.2.1 (by omega)
    omega
  have hLf : isL B (tF B n r) = true := by
    by_cases h : isL B (tF B n r) = true
    · exact h
    · exfalso
      by_cases hD : isD B (tF B n r) = true
      · have := (tk_dig rfl hlt h hD).2
        rw [hK] at this
        by_cases h2 : scn (isD B) (n - tF B n r) (tF B n r) - tF B n r ≤ 2
        · rw [if_pos h2] at this; omega
        · rw [if_neg h2] at this; omega
      · have := (tk_sgn rfl hlt h hD).2
        rw [hK] at this
        by_cases h2 : B (tF B n r) = 59
        · rw [if_pos h2] at this; omega
        · rw [if_neg h2] at this; omega
  have hN := (tk_let rfl hlt hLf).2
  have hall : ∀ i, i < tN B n r - tF B n r → 97 ≤ B (tF B n r + i) ∧ B (tF B n r + i) ≤ 122 := by
    intro i hi
    have h9 := scn_all (isL B) (n - tF B n r) (tF B n r) (tF B n r + i) (by omega) (by rw [← hN]; omega)
    unfold isL at h9
    exact of_decide_eq_true h9
  by_cases h8 : tN B n r - tF B n r ≤ 8
  · have hp := pw_pN hb _ h8 hall
    have hd : ∀ i, i < tN B n r - tF B n r → 0 < dB B (tF B n r) i ∧ dB B (tF B n r) i < 256 := by
      intro i hi
      obtain ⟨d, hd, d1, d2⟩ := let_n (hall i hi)
      unfold dB
      rw [hd, nI_clamp (by omega)]
      omega
    have hlt63 : pN (dB B (tF B n r)) (tN B n r - tF B n r) < 2 ^ 63 := by
      have h7 : 256 ^ (tN B n r - tF B n r - 1) ≤ 256 ^ 7 := Nat.pow_le_pow_right (by omega) (by omega)
      have e7 : (256 : Nat) ^ 7 = 72057594037927936 := by decide
      omega
    have e : tW B n r = lN (pN (dB B (tF B n r)) (tN B n r - tF B n r)) := by
      unfold tW
      rw [if_pos h8]
      exact hp.1
    rw [e, pk_lEQ hlt63 hw.1, ← r1]
    constructor
    · intro h
      obtain ⟨e1, e2⟩ := pN_inj _ (rB j) _ hd r3 h
      rw [r2] at e1
      refine ⟨e1, fun i hi => ?_⟩
      have e3 := e2 i (by omega)
      rw [e1] at e3
      rw [← r4 i hi, ← e3]
      obtain ⟨d, hd2, d1, d2⟩ := let_n (hall i (by omega))
      unfold dB
      rw [hd2, nI_clamp (by omega)]
    · intro h
      have e4 : ∀ (l : List Nat) (m : Nat), m = l.length → (∀ i, i < m → dB B (tF B n r) i = l.getD (m - 1 - i) 0) → pN (dB B (tF B n r)) m = pL l := by
        intro l
        induction l with
        | nil => intro m hm _; rw [hm]; rfl
        | cons a l ih =>
          intro m hm hq
          rw [List.length_cons] at hm
          subst hm
          simp only [pN, pL]
          have ha := hq l.length (by omega)
          rw [show l.length + 1 - 1 - l.length = 0 by omega] at ha
          simp only [List.getD_cons_zero] at ha
          rw [ha, ih l.length rfl (fun i hi => ?_)]
          have hb2 := hq i (by omega)
          rw [show l.length + 1 - 1 - i = (l.length - 1 - i) + 1 by omega, List.getD_cons_succ] at hb2
          exact hb2
      refine e4 (rB j) _ (by rw [r2]; exact h.1) (fun i hi => ?_)
      unfold dB
      have h5 : i < sLen.getD j 0 := by rw [← h.1]; exact hi
      rw [h.2 i h5, ← r4 i h5, h.1]
      refine nI_clamp ?_
      have hmem : (rB j).getD (sLen.getD j 0 - 1 - i) 0 < 256 := by
        rw [List.getD_eq_getElem?_getD]
        cases e9 : (rB j)[sLen.getD j 0 - 1 - i]? with
        | none => simp
        | some x => exact (r3 x (List.mem_of_getElem? e9)).2
      omega
  · have e : tW B n r = lN 0 := by
      unfold tW
      rw [if_neg h8]
      rfl
    rw [e, pk_lEQ (by omega) hw.1]
    constructor
    · intro h; omega
    · intro h; have := h.1; omega
