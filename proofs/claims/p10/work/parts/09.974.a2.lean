theorem u8_tab : ∀ k, k < 256 → (((nI k - 128) &&& 255 = 10) ↔ nI k - 128 = 10) ∧ (((nI k - 128) &&& 255 = 32) ↔ nI k - 128 = 32) ∧ (((nI k - 128) &&& 255 = 59) ↔ nI k - 128 = 59) ∧ ((97 ≤ (nI k - 128) &&& 255 ∧ (nI k - 128) &&& 255 ≤ 122) ↔ (97 ≤ nI k - 128 ∧ nI k - 128 ≤ 122)) ∧ ((48 ≤ (nI k - 128) &&& 255 ∧ (nI k - 128) &&& 255 ≤ 57) ↔ (48 ≤ nI k - 128 ∧ nI k - 128 ≤ 57)) ∧ (0 ≤ nI k - 128 → (nI k - 128) &&& 255 = nI k - 128) ∧ 0 ≤ (nI k - 128) &&& 255 := by decide +kernel
theorem u8 {x : Int32} (h : iv (-128) 127 x) : ((x &&& 255 = 10) ↔ x = 10) ∧ ((x &&& 255 = 32) ↔ x = 32) ∧ ((x &&& 255 = 59) ↔ x = 59) ∧ ((97 ≤ x &&& 255 ∧ x &&& 255 ≤ 122) ↔ (97 ≤ x ∧ x ≤ 122)) ∧ ((48 ≤ x &&& 255 ∧ x &&& 255 ≤ 57) ↔ (48 ≤ x ∧ x ≤ 57)) ∧ (0 ≤ x → x &&& 255 = x) ∧ 0 ≤ x &&& 255 := by
  have h2 : iv 0 255 (x + 128) := iv_add (l := 0) (h := 255) h (iv_lit (x := 128) (l := 128) (h := 128) (by decide)) (by decide)
  obtain ⟨k, hk, -, hk2, -⟩ := iv_nI h2 (by decide)
  have e : x = nI k - 128 := by rw [← hk]; simp
  rw [e]
  exact u8_tab k (by omega)
theorem sp_see1 {tp B : Nat → Int32} {j n : Nat} {post : Int32 → Prop} (hn : n ≤ 600) (hB : ∀ j, j < n → tp j = B j) (hj : j < n) (h : post (B j &&& 255)) : q_m_see_0 tp (nI j) (nI n) post :=
  sp_seeE (Nat.le_of_lt hj) hn (fun e => absurd e (by omega)) (fun _ => by rw [hB j hj]; exact h)
theorem sp_see0 {tp : Nat → Int32} {j n : Nat} {post : Int32 → Prop} (hn : n ≤ 600) (hj : j = n) (h : post (-1)) : q_m_see_0 tp (nI j) (nI n) post :=
  sp_seeE (Nat.le_of_eq hj) hn (fun _ => h) (fun e => absurd e (by omega))
theorem isL_n {B : Nat → Int32} {j : Nat} (h : ¬ (97 ≤ B j ∧ B j ≤ 122)) : ¬ isL B j = true := by unfold isL; rw [decide_eq_true_iff]; exact h
theorem isD_n {B : Nat → Int32} {j : Nat} (h : ¬ (48 ≤ B j ∧ B j ≤ 57)) : ¬ isD B j = true := by unfold isD; rw [decide_eq_true_iff]; exact h
theorem dig_0 {x : Int32} (h : 48 ≤ x ∧ x ≤ 57) : 0 ≤ x := Int32.le_iff_toInt_le.mpr (by have := r_le h.1; have e : (48 : Int32).toInt = 48 := rfl; have e0 : (0 : Int32).toInt = 0 := rfl; omega)
theorem let_0 {x : Int32} (h : 97 ≤ x ∧ x ≤ 122) : 0 ≤ x := Int32.le_iff_toInt_le.mpr (by have := r_le h.1; have e : (97 : Int32).toInt = 97 := rfl; have e0 : (0 : Int32).toInt = 0 := rfl; omega)
/-- the reference's next token -/
theorem e_tok {tp B : Nat → Int32} {n r : Nat} {be so va : Int32} {wd : Int64} {post : Int32 → Int32 → Int32 → Int32 → Int64 → Prop} (hn : n ≤ 600) (hr : r ≤ n) (hB : ∀ j, j < n → tp j = B j) (hb : ∀ j, iv (-128) 127 (B j)) (h : ∀ v' w', (tK B n r = 2 → v' = tV B n r) → (tK B n r = 1 → w' = tW B n r) → post (nI (tN B n r)) (nI (tF B n r)) (sI (tK B n r)) v' w') : q_m_token_0 tp (nI r) (nI n) be so va wd post := by
  have hF := tF_le (B := B) hr
  intro P hP
  have loop : ∀ m j, m + j = n → scn (isB B) m j = tF B n r → P (nI j) := by
    intro m
    induction m with
    | zero =>
      intro j hj hs
      have hj2 : j = n := by omega
      apply hP
      refine sp_see0 hn hj2 ⟨fun h9 => absurd h9 (by decide), fun _ => ?_⟩
      refine sp_see0 hn hj2 ⟨fun _ => ?_, fun h9 => absurd h9 (by decide)⟩
      refine sp_see0 hn hj2 ⟨fun h9 => absurd h9 (by decide), fun _ => ?_⟩
      have hf : tF B n r = j := hs.symm
      obtain ⟨hK, hN⟩ := tk_end (B := B) (n := n) (r := r) (by omega)
      have g := h va 0 (fun hk => absurd (hK.symm.trans hk) (by decide)) (fun hk => absurd (hK.symm.trans hk) (by decide))
      rw [hN, hK, hf] at g
      exact g
    | succ m ih =>
      intro j hj hs
      have hlt : j < n := by omega
      obtain ⟨u10, u32, u59, uL, uD, up, u0⟩ := u8 (hb j)
      apply hP
      have k18 : isB B j = true → q_m_token_18 P tp (nI j) (nI n) be so va wd post := by
        intro hb2 v e
        rw [e, nI_1]
        refine ih (j + 1) (by omega) ?_
        rw [← hs]
        exact (scn_t hb2).symm
      refine sp_see1 hn hB hlt ⟨fun a => k18 (decide_eq_true (Or.inl (u10.mp a))), fun a => ?_⟩
      refine sp_see1 hn hB hlt ⟨fun a2 => ?_, fun a2 => k18 (decide_eq_true (Or.inr (u32.mp a2)))⟩
      have hf : tF B n r = j := by
        rw [← hs]
        exact scn_f (by unfold isB; rw [decide_eq_true_iff]; exact fun h9 => h9.elim (fun e => a (u10.mpr e)) (fun e => a2 (u32.mpr e)))
      refine sp_see1 hn hB hlt ⟨fun _ => ?_, fun h9 => absurd u0 h9⟩
      refine sp_in (fun hnl => iz ?_) (fun l1 l2 => oi ?_)
      · have hL := isL_n (fun h9 => hnl (uL.mpr h9))
        refine sp_in (fun hnd => iz ?_) (fun d1 d2 => oi ?_)
        · have hD := isD_n (fun h9 => hnd (uD.mpr h9))
          obtain ⟨hN, hK⟩ := tk_sgn hf hlt hL hD
          intro v e
          rw [e, nI_1]
          refine ⟨fun c => ?_, fun c => ?_⟩
          · rw [if_neg (fun h9 => c (u59.mpr h9))] at hK
            have g := h va 0 (fun hk => absurd (hK.symm.trans hk) (by decide)) (fun hk => absurd (hK.symm.trans hk) (by decide))
            rw [hN, hK, hf] at g
            exact g
          · rw [if_pos (u59.mp c)] at hK
            have g := h va 0 (fun hk => absurd (hK.symm.trans hk) (by decide)) (fun hk => absurd (hK.symm.trans hk) (by decide))
            rw [hN, hK, hf] at g
            exact g
        · have hD : isD B j = true := decide_eq_true (uD.mp ⟨d1, d2⟩)
          obtain ⟨hN, hK⟩ := tk_dig hf hlt hL hD
          have fin : ∀ i, j + i = tN B n r → ((nI i ≤ 2 → q_m_token_235 tp (nI (j + i)) (nI n) (nI j) so (vD B j i) 0 3 post) ∧ (¬ nI i ≤ 2 → q_m_token_235 tp (nI (j + i)) (nI n) (nI j) so (vD B j i) 0 1 post)) ∨ 600 < i := by
            intro i hi
            by_cases h6 : 600 < i
            · exact Or.inr h6
            refine Or.inl ?_
            have hv : tV B n r = vD B j i := by unfold tV; rw [hf, ← hi]; congr 1; omega
            have g0 := h (vD B j i) 0 (fun _ => hv.symm)
            rw [← hN, ← hi, show j + i - j = i by omega] at hK
            rw [← hi, hf] at g0
            refine pk_le i 2 (fun h3 => ?_) (fun h3 => ?_)
            · rw [if_pos h3] at hK
              have g := g0 (fun hk => absurd (hK.symm.trans hk) (by decide))
              rw [hK] at g
              exact g
            · rw [if_neg (by omega)] at hK
              have g := g0 (fun hk => absurd (hK.symm.trans hk) (by decide))
              rw [hK] at g
              exact g
          intro P2 hP2
          have loop2 : ∀ q i, q + (j + i) = n → scn (isD B) q (j + i) = tN B n r → P2 (nI i) (nI (j + i)) (vD B j i) := by
            intro q
            induction q with
            | zero =>
              intro i hi hs2
              apply hP2
              refine sp_see0 hn (by omega) (sp_in (fun _ => iz ?_) (fun g1 _ => absurd g1 (by decide)))
              exact (fin i hs2).resolve_right (by omega)
            | succ q ih2 =>
              intro i hi hs2
              have hlt2 : j + i < n := by omega
              obtain ⟨-, -, -, -, uD2, up2, -⟩ := u8 (hb (j + i))
              apply hP2
              refine sp_see1 hn hB hlt2 (sp_in (fun c => iz ?_) (fun c1 c2 => oi ?_))
              · refine (fin i ?_).resolve_right (by omega)
                rw [← hs2]
                exact (scn_f (isD_n (fun h9 => c (uD2.mpr h9)))).symm
              · have hd2 := uD2.mp ⟨c1, c2⟩
                have nx : ∀ y, y = vD B j (i + 1) → q_m_token_205 P2 tp (nI (j + i)) (nI n) (nI j) so (vD B j i) 0 (nI i) y post := by
                  intro y hy v1 e1 v2 e2
                  rw [e1, e2, nI_1, nI_1, hy]
                  refine ih2 (i + 1) (by omega) ?_
                  rw [← hs2]
                  exact (scn_t (decide_eq_true hd2)).symm
                refine pk_le 2 i (fun h3 => nx _ ?_) (fun h3 => sp_see1 hn hB hlt2 (nx _ ?_))
                · rw [vD, if_neg (by omega)]
                · rw [vD, if_pos h3, up2 (dig_0 hd2), Int32.mul_comm]
          have h0 := loop2 (n - j) 0 (by omega) hN.symm
          exact h0
      · have hL : isL B j = true := decide_eq_true (uL.mp ⟨l1, l2⟩)
        obtain ⟨hK, hN⟩ := tk_let hf hlt hL
        have fin : ∀ i, j + i = tN B n r → ((nI i ≤ 8 → q_m_token_136 tp (nI (j + i)) (nI n) (nI j) so va (pw B j i) (pw B j i) post) ∧ (¬ nI i ≤ 8 → q_m_token_136 tp (nI (j + i)) (nI n) (nI j) so va (pw B j i) 0 post)) ∨ 600 < i := by
          intro i hi
          by_cases h6 : 600 < i
          · exact Or.inr h6
          refine Or.inl ?_
          have e9 : j + i - j = i := by omega
          have hw : tW B n r = if i ≤ 8 then pw B j i else 0 := by unfold tW; rw [hf, ← hi, e9]
          have g0 := fun w (hw2 : w = tW B n r) => h va w (fun hk => absurd (hK.symm.trans hk) (by decide)) (fun _ => hw2)
          rw [← hi, hf, hK] at g0
          refine pk_le i 8 (fun h3 => g0 _ (by rw [hw, if_pos h3])) (fun h3 => g0 _ (by rw [hw, if_neg (by omega)]))
        intro P2 hP2
        have loop2 : ∀ q i, q + (j + i) = n → scn (isL B) q (j + i) = tN B n r → P2 (nI i) (nI (j + i)) (pw B j i) := by
          intro q
          induction q with
          | zero =>
            intro i hi hs2
            apply hP2
            refine sp_see0 hn (by omega) (sp_in (fun _ => iz ?_) (fun g1 _ => absurd g1 (by decide)))
            exact (fin i hs2).resolve_right (by omega)
          | succ q ih2 =>
            intro i hi hs2
            have hlt2 : j + i < n := by omega
            obtain ⟨-, -, -, uL2, -, up2, -⟩ := u8 (hb (j + i))
            apply hP2
            refine sp_see1 hn hB hlt2 (sp_in (fun c => iz ?_) (fun c1 c2 => oi ?_))
            · refine (fin i ?_).resolve_right (by omega)
              rw [← hs2]
              exact (scn_f (isL_n (fun h9 => c (uL2.mpr h9)))).symm
            · refine sp_see1 hn hB hlt2 (fun v1 e1 v2 e2 v3 e3 => ?_)
              rw [e1, e2, e3, nI_1, nI_1]
              refine ih2 (i + 1) (by omega) ?_
              rw [← hs2]
              exact (scn_t (decide_eq_true (uL2.mp ⟨c1, c2⟩))).symm
        exact loop2 (n - j) 0 (by omega) hN.symm
  exact loop (n - r) r (by omega) rfl
