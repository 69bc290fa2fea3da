section
theorem c_k1 : Int32.toNatClampNeg 1 = 1 := rfl
theorem tV_iv {B : Nat → Int32} {n r : Nat} (hr : r ≤ n) (hK : tK B n r = 2) : iv 0 99 (tV B n r) := by
  have hk := tk_le (B := B) hr
  have hlt : tF B n r < n := by
    have := hk.2.2.1 (by omega)
    omega
  have hL : ¬ isL B (tF B n r) = true := fun h => by
    have := (tk_let rfl hlt h).1
    omega
  have hD : isD B (tF B n r) = true := by
    by_cases h : isD B (tF B n r) = true
    · exact h
    · exfalso
      have := (tk_sgn rfl hlt hL h).2
      rw [hK] at this
      by_cases h2 : B (tF B n r) = 59
      · rw [if_pos h2] at this; omega
      · rw [if_neg h2] at this; omega
  obtain ⟨hN, hK2⟩ := tk_dig rfl hlt hL hD
  have h2 : tN B n r - tF B n r ≤ 2 := by
    rw [hK, ← hN] at hK2
    by_cases h : tN B n r - tF B n r ≤ 2
    · exact h
    · rw [if_neg h] at hK2; omega
  have h1 : 1 ≤ tN B n r - tF B n r := by
    have := hk.2.2.1 (by omega)
    omega
  have dg : ∀ i, i < tN B n r - tF B n r → iv 48 57 (B (tF B n r + i)) := by
    intro i hi
    have h9 := scn_all (isD B) (n - tF B n r) (tF B n r) (tF B n r + i) (by omega) (by rw [← hN]; omega)
    unfold isD at h9
    have h8 := of_decide_eq_true h9
    have e1 : (48 : Int32).toInt = 48 := rfl
    have e2 : (57 : Int32).toInt = 57 := rfl
    exact ⟨by have := r_le h8.1; omega, by have := r_le h8.2; omega⟩
  have v1 : iv 0 9 (vD B (tF B n r) 1) := by
    show iv 0 9 (if 0 < 2 then (0 : Int32) * 10 + B (tF B n r + 0) - 48 else 0)
    rw [if_pos (by omega)]
    have z : iv 0 0 ((0 : Int32) * 10) := iv_lit (by decide)
    exact iv_sub (l := 0) (h := 9) (iv_add (l := 48) (h := 57) z (dg 0 (by omega)) (by decide)) (iv_lit (x := 48) (l := 48) (h := 48) (by decide)) (by decide)
  unfold tV
  have hc : tN B n r - tF B n r = 1 ∨ tN B n r - tF B n r = 2 := by omega
  rcases hc with hc | hc
  · rw [hc]; exact iv_w v1 (by decide)
  · rw [hc]
    show iv 0 99 (if 1 < 2 then vD B (tF B n r) 1 * 10 + B (tF B n r + 1) - 48 else _)
    rw [if_pos (by omega)]
    have m1 : iv 0 90 (vD B (tF B n r) 1 * 10) := iv_mul (l := 0) (h := 90) v1 (iv_lit (x := 10) (l := 10) (h := 10) (by decide)) (by decide)
    exact iv_sub (l := 0) (h := 99) (iv_add (l := 48) (h := 147) m1 (dg 1 (by omega)) (by decide)) (iv_lit (x := 48) (l := 48) (h := 48) (by decide)) (by decide)
theorem e_canBe {nums : Nat → Int32} {w k : Nat} {a : Int32} {post : Int32 → Prop} (hw : w < 20) (hk : k < 3) (h0 : nums 0 = a) (hv : iv 0 99 (nums k)) (h1 : cW w k a (nums k) = true → post 1) (h2 : cW w k a (nums k) = false → post 0) : q_wr_X4_canBe_0 nums (nI w) (nI k) post := by
  intro v ev
  have e : v = nI (w * 3 + k) := by rw [ev, show (3 : Int32) = nI 3 from rfl, pk_mul, nI_add]
  subst e
  rw [nI_clamp (n := k) (by omega), nI_clamp (n := w * 3 + k) (by omega)]
  have i1 : vp_in (nI k) 3 := vp_in_nI hk (by omega)
  have i2 : vp_in (nI (w * 3 + k)) 60 := vp_in_nI (by omega) (by omega)
  have hm : ¬ nums k = -1 := fun h9 => by
    have := hv.1
    rw [h9] at this
    exact absurd this (by decide)
  refine ⟨i1, i2, fun c => h2 (decide_eq_false (fun h9 => absurd c (Int32.not_lt.mpr h9.1))), fun c => ⟨i1, i2, fun c2 => ?_, fun c2 => h2 (decide_eq_false (fun h9 => c2 h9.2.1))⟩⟩
  have lo := Int32.not_lt.mp c
  have tr : ¬ (k = 1 ∧ (w = 5 ∨ w = 6)) → post 1 := by
    intro hn
    refine h1 (decide_eq_true ⟨lo, c2, ?_⟩)
    rw [if_neg hn]
    exact hm
  have t52 : k = 1 → (w = 5 ∨ w = 6) → q_wr_X4_canBe_52 nums post := by
    intro hk1 hw5
    subst hk1
    refine ⟨fun c3 => h2 (decide_eq_false (fun h9 => ?_)), fun c3 => h1 (decide_eq_true ⟨lo, c2, ?_⟩)⟩
    · rw [if_pos ⟨rfl, hw5⟩] at h9
      exact h9.2.2 (by rw [← h0]; exact c3)
    · rw [if_pos ⟨rfl, hw5⟩]
      exact fun h9 => c3 (by rw [c_0, c_k1, h0]; exact h9)
  refine ⟨fun c3 => tr (fun h9 => c3 (by rw [h9.1]; rfl)), fun c3 => ?_⟩
  have hk1 : k = 1 := (nI_eq (a := k) (b := 1) (by omega) (by omega)).mp c3
  refine ⟨fun c4 => t52 hk1 (Or.inl ((nI_eq (a := w) (b := 5) (by omega) (by omega)).mp c4)), fun c4 => ⟨fun c5 => tr (fun h9 => h9.2.elim (fun h8 => c4 (by rw [h8]; rfl)) (fun h8 => c5 (by rw [h8]; rfl))), fun c5 => t52 hk1 (Or.inr ((nI_eq (a := w) (b := 6) (by omega) (by omega)).mp c5))⟩⟩
set_option maxRecDepth 20000 in
theorem e_isFull {lf_huts lf_singers lf_echoes vf_deeds sf_facts cf_voices : Int32} {w : Nat} {post : Int32 → Prop} (hw : w < 20) (h1 : decide ((w = 0 ∧ lf_huts = 9) ∨ (w = 6 ∧ lf_echoes = 4) ∨ (w = 8 ∧ lf_singers = 6) ∨ (10 ≤ w ∧ w < 16 ∧ vf_deeds = 40) ∨ (16 ≤ w ∧ w < 18 ∧ sf_facts = 10) ∨ (w = 18 ∧ cf_voices = 9)) = true → post 1) (h0 : decide ((w = 0 ∧ lf_huts = 9) ∨ (w = 6 ∧ lf_echoes = 4) ∨ (w = 8 ∧ lf_singers = 6) ∨ (10 ≤ w ∧ w < 16 ∧ vf_deeds = 40) ∨ (16 ≤ w ∧ w < 18 ∧ sf_facts = 10) ∨ (w = 18 ∧ cf_voices = 9)) = false → post 0) : q_wr_X4_isFull_0 lf_huts lf_singers lf_echoes vf_deeds sf_facts cf_voices (nI w) post := by
  match w, hw, h1, h0 with
  | 0, _, h1, h0 => exact ⟨fun _ => ⟨fun h9 => absurd h9 (by decide +kernel), fun _ => ⟨fun c => h0 (decide_eq_false (by simp [c])), fun c => h1 (decide_eq_true (by simp [c]))⟩, fun h9 => absurd h9 (by decide +kernel), fun h9 => absurd h9 (by decide +kernel), fun h9 => absurd h9 (by decide +kernel), fun h9 => absurd h9 (by decide +kernel), fun h9 => absurd h9 (by decide +kernel), fun h9 => absurd h9 (by decide +kernel), fun h9 => absurd h9 (by decide +kernel), fun h9 => absurd h9 (by decide +kernel), fun h9 => absurd h9 (by decide +kernel), fun h9 => absurd h9 (by decide +kernel), fun h9 => absurd h9 (by decide +kernel), fun h9 => absurd h9 (by decide +kernel), fun h9 => absurd h9 (by decide +kernel), fun h9 => absurd h9 (by decide +kernel), fun h9 => absurd h9 (by decide +kernel), fun h9 => absurd h9 (by decide +kernel), fun h9 => absurd h9 (by decide +kernel), fun h9 => absurd h9 (by decide +kernel)⟩, fun h9 => absurd h9 (by decide +kernel)⟩
  | 1, _, h1, h0 => exact ⟨fun _ => ⟨fun h9 => absurd h9 (by decide +kernel), fun h9 => absurd h9 (by decide +kernel), fun _ => h0 (by simp), fun h9 => absurd h9 (by decide +kernel), fun h9 => absurd h9 (by decide +kernel), fun h9 => absurd h9 (by decide +kernel), fun h9 => absurd h9 (by decide +kernel), fun h9 => absurd h9 (by decide +kernel), fun h9 => absurd h9 (by decide +kernel), fun h9 => absurd h9 (by decide +kernel), fun h9 => absurd h9 (by decide +kernel), fun h9 => absurd h9 (by decide +kernel), fun h9 => absurd h9 (by decide +kernel), fun h9 => absurd h9 (by decide +kernel), fun h9 => absurd h9 (by decide +kernel), fun h9 => absurd h9 (by decide +kernel), fun h9 => absurd h9 (by decide +kernel), fun h9 => absurd h9 (by decide +kernel), fun h9 => absurd h9 (by decide +kernel), fun h9 => absurd h9 (by decide +kernel)⟩, fun h9 => absurd h9 (by decide +kernel)⟩
  | 2, _, h1, h0 => exact ⟨fun _ => ⟨fun h9 => absurd h9 (by decide +kernel), fun h9 => absurd h9 (by decide +kernel), fun h9 => absurd h9 (by decide +kernel), fun _ => h0 (by simp), fun h9 => absurd h9 (by decide +kernel), fun h9 => absurd h9 (by decide +kernel), fun h9 => absurd h9 (by decide +kernel), fun h9 => absurd h9 (by decide +kernel), fun h9 => absurd h9 (by decide +kernel), fun h9 => absurd h9 (by decide +kernel), fun h9 => absurd h9 (by decide +kernel), fun h9 => absurd h9 (by decide +kernel), fun h9 => absurd h9 (by decide +kernel), fun h9 => absurd h9 (by decide +kernel), fun h9 => absurd h9 (by decide +kernel), fun h9 => absurd h9 (by decide +kernel), fun h9 => absurd h9 (by decide +kernel), fun h9 => absurd h9 (by decide +kernel), fun h9 => absurd h9 (by decide +kernel), fun h9 => absurd h9 (by decide +kernel)⟩, fun h9 => absurd h9 (by decide +kernel)⟩
  | 3, _, h1, h0 => exact ⟨fun _ => ⟨fun h9 => absurd h9 (by decide +kernel), fun h9 => absurd h9 (by decide +kernel), fun h9 => absurd h9 (by decide +kernel), fun h9 => absurd h9 (by decide +kernel), fun _ => h0 (by simp), fun h9 => absurd h9 (by decide +kernel), fun h9 => absurd h9 (by decide +kernel), fun h9 => absurd h9 (by decide +kernel), fun h9 => absurd h9 (by decide +kernel), fun h9 => absurd h9 (by decide +kernel), fun h9 => absurd h9 (by decide +kernel), fun h9 => absurd h9 (by decide +kernel), fun h9 => absurd h9 (by decide +kernel), fun h9 => absurd h9 (by decide +kernel), fun h9 => absurd h9 (by decide +kernel), fun h9 => absurd h9 (by decide +kernel), fun h9 => absurd h9 (by decide +kernel), fun h9 => absurd h9 (by decide +kernel), fun h9 => absurd h9 (by decide +kernel), fun h9 => absurd h9 (by decide +kernel)⟩, fun h9 => absurd h9 (by decide +kernel)⟩
  | 4, _, h1, h0 => exact ⟨fun _ => ⟨fun h9 => absurd h9 (by decide +kernel), fun h9 => absurd h9 (by decide +kernel), fun h9 => absurd h9 (by decide +kernel), fun h9 => absurd h9 (by decide +kernel), fun h9 => absurd h9 (by decide +kernel), fun _ => h0 (by simp), fun h9 => absurd h9 (by decide +kernel), fun h9 => absurd h9 (by decide +kernel), fun h9 => absurd h9 (by decide +kernel), fun h9 => absurd h9 (by decide +kernel), fun h9 => absurd h9 (by decide +kernel), fun h9 => absurd h9 (by decide +kernel), fun h9 => absurd h9 (by decide +kernel), fun h9 => absurd h9 (by decide +kernel), fun h9 => absurd h9 (by decide +kernel), fun h9 => absurd h9 (by decide +kernel), fun h9 => absurd h9 (by decide +kernel), fun h9 => absurd h9 (by decide +kernel), fun h9 => absurd h9 (by decide +kernel), fun h9 => absurd h9 (by decide +kernel)⟩, fun h9 => absurd h9 (by decide +kernel)⟩
  | 5, _, h1, h0 => exact ⟨fun _ => ⟨fun h9 => absurd h9 (by decide +kernel), fun h9 => absurd h9 (by decide +kernel), fun h9 => absurd h9 (by decide +kernel), fun h9 => absurd h9 (by decide +kernel), fun h9 => absurd h9 (by decide +kernel), fun h9 => absurd h9 (by decide +kernel), fun _ => h0 (by simp), fun h9 => absurd h9 (by decide +kernel), fun h9 => absurd h9 (by decide +kernel), fun h9 => absurd h9 (by decide +kernel), fun h9 => absurd h9 (by decide +kernel), fun h9 => absurd h9 (by decide +kernel), fun h9 => absurd h9 (by decide +kernel), fun h9 => absurd h9 (by decide +kernel), fun h9 => absurd h9 (by decide +kernel), fun h9 => absurd h9 (by decide +kernel), fun h9 => absurd h9 (by decide +kernel), fun h9 => absurd h9 (by decide +kernel), fun h9 => absurd h9 (by decide +kernel), fun h9 => absurd h9 (by decide +kernel)⟩, fun h9 => absurd h9 (by decide +kernel)⟩
  | 6, _, h1, h0 => exact ⟨fun _ => ⟨fun h9 => absurd h9 (by decide +kernel), fun h9 => absurd h9 (by decide +kernel), fun h9 => absurd h9 (by decide +kernel), fun h9 => absurd h9 (by decide +kernel), fun h9 => absurd h9 (by decide +kernel), fun h9 => absurd h9 (by decide +kernel), fun h9 => absurd h9 (by decide +kernel), fun _ => ⟨fun c => h0 (decide_eq_false (by simp [c])), fun c => h1 (decide_eq_true (by simp [c]))⟩, fun h9 => absurd h9 (by decide +kernel), fun h9 => absurd h9 (by decide +kernel), fun h9 => absurd h9 (by decide +kernel), fun h9 => absurd h9 (by decide +kernel), fun h9 => absurd h9 (by decide +kernel), fun h9 => absurd h9 (by decide +kernel), fun h9 => absurd h9 (by decide +kernel), fun h9 => absurd h9 (by decide +kernel), fun h9 => absurd h9 (by decide +kernel), fun h9 => absurd h9 (by decide +kernel), fun h9 => absurd h9 (by decide +kernel), fun h9 => absurd h9 (by decide +kernel)⟩, fun h9 => absurd h9 (by decide +kernel)⟩
  | 7, _, h1, h0 => exact ⟨fun _ => ⟨fun h9 => absurd h9 (by decide +kernel), fun h9 => absurd h9 (by decide +kernel), fun h9 => absurd h9 (by decide +kernel), fun h9 => absurd h9 (by decide +kernel), fun h9 => absurd h9 (by decide +kernel), fun h9 => absurd h9 (by decide +kernel), fun h9 => absurd h9 (by decide +kernel), fun h9 => absurd h9 (by decide +kernel), fun _ => h0 (by simp), fun h9 => absurd h9 (by decide +kernel), fun h9 => absurd h9 (by decide +kernel), fun h9 => absurd h9 (by decide +kernel), fun h9 => absurd h9 (by decide +kernel), fun h9 => absurd h9 (by decide +kernel), fun h9 => absurd h9 (by decide +kernel), fun h9 => absurd h9 (by decide +kernel), fun h9 => absurd h9 (by decide +kernel), fun h9 => absurd h9 (by decide +kernel), fun h9 => absurd h9 (by decide +kernel), fun h9 => absurd h9 (by decide +kernel)⟩, fun h9 => absurd h9 (by decide +kernel)⟩
  | 8, _, h1, h0 => exact ⟨fun _ => ⟨fun h9 => absurd h9 (by decide +kernel), fun h9 => absurd h9 (by decide +kernel), fun h9 => absurd h9 (by decide +kernel), fun h9 => absurd h9 (by decide +kernel), fun h9 => absurd h9 (by decide +kernel), fun h9 => absurd h9 (by decide +kernel), fun h9 => absurd h9 (by decide +kernel), fun h9 => absurd h9 (by decide +kernel), fun h9 => absurd h9 (by decide +kernel), fun _ => ⟨fun c => h0 (decide_eq_false (by simp [c])), fun c => h1 (decide_eq_true (by simp [c]))⟩, fun h9 => absurd h9 (by decide +kernel), fun h9 => absurd h9 (by decide +kernel), fun h9 => absurd h9 (by decide +kernel), fun h9 => absurd h9 (by decide +kernel), fun h9 => absurd h9 (by decide +kernel), fun h9 => absurd h9 (by decide +kernel), fun h9 => absurd h9 (by decide +kernel), fun h9 => absurd h9 (by decide +kernel), fun h9 => absurd h9 (by decide +kernel), fun h9 => absurd h9 (by decide +kernel)⟩, fun h9 => absurd h9 (by decide +kernel)⟩
  | 9, _, h1, h0 => exact ⟨fun _ => ⟨fun h9 => absurd h9 (by decide +kernel), fun h9 => absurd h9 (by decide +kernel), fun h9 => absurd h9 (by decide +kernel), fun h9 => absurd h9 (by decide +kernel), fun h9 => absurd h9 (by decide +kernel), fun h9 => absurd h9 (by decide +kernel), fun h9 => absurd h9 (by decide +kernel), fun h9 => absurd h9 (by decide +kernel), fun h9 => absurd h9 (by decide +kernel), fun h9 => absurd h9 (by decide +kernel), fun _ => h0 (by simp), fun h9 => absurd h9 (by decide +kernel), fun h9 => absurd h9 (by decide +kernel), fun h9 => absurd h9 (by decide +kernel), fun h9 => absurd h9 (by decide +kernel), fun h9 => absurd h9 (by decide +kernel), fun h9 => absurd h9 (by decide +kernel), fun h9 => absurd h9 (by decide +kernel), fun h9 => absurd h9 (by decide +kernel), fun h9 => absurd h9 (by decide +kernel)⟩, fun h9 => absurd h9 (by decide +kernel)⟩
  | 10, _, h1, h0 => exact ⟨fun h9 => absurd h9 (by decide +kernel), fun _ => ⟨fun h9 => absurd h9 (by decide +kernel), fun _ => ⟨fun c => h0 (decide_eq_false (by simp [c])), fun c => h1 (decide_eq_true (by simp [c]))⟩⟩⟩
  | 11, _, h1, h0 => exact ⟨fun h9 => absurd h9 (by decide +kernel), fun _ => ⟨fun h9 => absurd h9 (by decide +kernel), fun _ => ⟨fun c => h0 (decide_eq_false (by simp [c])), fun c => h1 (decide_eq_true (by simp [c]))⟩⟩⟩
  | 12, _, h1, h0 => exact ⟨fun h9 => absurd h9 (by decide +kernel), fun _ => ⟨fun h9 => absurd h9 (by decide +kernel), fun _ => ⟨fun c => h0 (decide_eq_false (by simp [c])), fun c => h1 (decide_eq_true (by simp [c]))⟩⟩⟩
  | 13, _, h1, h0 => exact ⟨fun h9 => absurd h9 (by decide +kernel), fun _ => ⟨fun h9 => absurd h9 (by decide +kernel), fun _ => ⟨fun c => h0 (decide_eq_false (by simp [c])), fun c => h1 (decide_eq_true (by simp [c]))⟩⟩⟩
  | 14, _, h1, h0 => exact ⟨fun h9 => absurd h9 (by decide +kernel), fun _ => ⟨fun h9 => absurd h9 (by decide +kernel), fun _ => ⟨fun c => h0 (decide_eq_false (by simp [c])), fun c => h1 (decide_eq_true (by simp [c]))⟩⟩⟩
  | 15, _, h1, h0 => exact ⟨fun h9 => absurd h9 (by decide +kernel), fun _ => ⟨fun h9 => absurd h9 (by decide +kernel), fun _ => ⟨fun c => h0 (decide_eq_false (by simp [c])), fun c => h1 (decide_eq_true (by simp [c]))⟩⟩⟩
  | 16, _, h1, h0 => exact ⟨fun h9 => absurd h9 (by decide +kernel), fun _ => ⟨fun _ => ⟨fun h9 => absurd h9 (by decide +kernel), fun h9 => absurd h9 (by decide +kernel), fun h9 => absurd h9 (by decide +kernel), fun h9 => absurd h9 (by decide +kernel), fun h9 => absurd h9 (by decide +kernel), fun h9 => absurd h9 (by decide +kernel), fun h9 => absurd h9 (by decide +kernel), fun h9 => absurd h9 (by decide +kernel), fun h9 => absurd h9 (by decide +kernel), fun h9 => absurd h9 (by decide +kernel), fun h9 => absurd h9 (by decide +kernel), fun h9 => absurd h9 (by decide +kernel), fun h9 => absurd h9 (by decide +kernel), fun h9 => absurd h9 (by decide +kernel), fun h9 => absurd h9 (by decide +kernel), fun h9 => absurd h9 (by decide +kernel), fun h9 => absurd h9 (by decide +kernel), fun _ => ⟨fun c => h0 (decide_eq_false (by simp [c])), fun c => h1 (decide_eq_true (by simp [c]))⟩, fun h9 => absurd h9 (by decide +kernel), fun h9 => absurd h9 (by decide +kernel)⟩, fun h9 => absurd h9 (by decide +kernel)⟩⟩
  | 17, _, h1, h0 => exact ⟨fun h9 => absurd h9 (by decide +kernel), fun _ => ⟨fun _ => ⟨fun h9 => absurd h9 (by decide +kernel), fun h9 => absurd h9 (by decide +kernel), fun h9 => absurd h9 (by decide +kernel), fun h9 => absurd h9 (by decide +kernel), fun h9 => absurd h9 (by decide +kernel), fun h9 => absurd h9 (by decide +kernel), fun h9 => absurd h9 (by decide +kernel), fun h9 => absurd h9 (by decide +kernel), fun h9 => absurd h9 (by decide +kernel), fun h9 => absurd h9 (by decide +kernel), fun h9 => absurd h9 (by decide +kernel), fun h9 => absurd h9 (by decide +kernel), fun h9 => absurd h9 (by decide +kernel), fun h9 => absurd h9 (by decide +kernel), fun h9 => absurd h9 (by decide +kernel), fun h9 => absurd h9 (by decide +kernel), fun h9 => absurd h9 (by decide +kernel), fun h9 => absurd h9 (by decide +kernel), fun _ => ⟨fun c => h0 (decide_eq_false (by simp [c])), fun c => h1 (decide_eq_true (by simp [c]))⟩, fun h9 => absurd h9 (by decide +kernel)⟩, fun h9 => absurd h9 (by decide +kernel)⟩⟩
  | 18, _, h1, h0 => exact ⟨fun h9 => absurd h9 (by decide +kernel), fun _ => ⟨fun _ => ⟨fun h9 => absurd h9 (by decide +kernel), fun h9 => absurd h9 (by decide +kernel), fun h9 => absurd h9 (by decide +kernel), fun h9 => absurd h9 (by decide +kernel), fun h9 => absurd h9 (by decide +kernel), fun h9 => absurd h9 (by decide +kernel), fun h9 => absurd h9 (by decide +kernel), fun h9 => absurd h9 (by decide +kernel), fun h9 => absurd h9 (by decide +kernel), fun h9 => absurd h9 (by decide +kernel), fun h9 => absurd h9 (by decide +kernel), fun h9 => absurd h9 (by decide +kernel), fun h9 => absurd h9 (by decide +kernel), fun h9 => absurd h9 (by decide +kernel), fun h9 => absurd h9 (by decide +kernel), fun h9 => absurd h9 (by decide +kernel), fun h9 => absurd h9 (by decide +kernel), fun h9 => absurd h9 (by decide +kernel), fun h9 => absurd h9 (by decide +kernel), fun _ => ⟨fun c => h0 (decide_eq_false (by simp [c])), fun c => h1 (decide_eq_true (by simp [c]))⟩⟩, fun h9 => absurd h9 (by decide +kernel)⟩⟩
  | 19, _, h1, h0 => exact ⟨fun h9 => absurd h9 (by decide +kernel), fun _ => ⟨fun _ => ⟨fun _ => h0 (by simp), fun h9 => absurd h9 (by decide +kernel), fun h9 => absurd h9 (by decide +kernel), fun h9 => absurd h9 (by decide +kernel), fun h9 => absurd h9 (by decide +kernel), fun h9 => absurd h9 (by decide +kernel), fun h9 => absurd h9 (by decide +kernel), fun h9 => absurd h9 (by decide +kernel), fun h9 => absurd h9 (by decide +kernel), fun h9 => absurd h9 (by decide +kernel), fun h9 => absurd h9 (by decide +kernel), fun h9 => absurd h9 (by decide +kernel), fun h9 => absurd h9 (by decide +kernel), fun h9 => absurd h9 (by decide +kernel), fun h9 => absurd h9 (by decide +kernel), fun h9 => absurd h9 (by decide +kernel), fun h9 => absurd h9 (by decide +kernel), fun h9 => absurd h9 (by decide +kernel), fun h9 => absurd h9 (by decide +kernel), fun h9 => absurd h9 (by decide +kernel)⟩, fun h9 => absurd h9 (by decide +kernel)⟩⟩
  | w + 20, hw, _, _ => exact absurd hw (by omega)
theorem DR_fu {lf_huts lf_singers lf_villages lf_dams lf_echoes lf_deep lf_slide vf_deeds sf_facts cf_voices cf_step : Int32} {la_heights la_ladders la_minutes la_echoFrom la_echoTo la_homes la_talls la_known va_kinds va_firsts va_seconds sa_heard sa_huts sa_minutes ca_parts ca_heights : Nat → Int32} {h s fh fs : Int32} {td : Nat → Int32} {o w : Nat} (ho : o ≤ 3) (hw : wlo o ≤ w ∧ w < wlo (o + 1)) (hD : DR o lf_huts lf_singers lf_villages lf_dams lf_echoes lf_deep lf_slide la_heights la_ladders la_minutes la_echoFrom la_echoTo la_homes la_talls la_known vf_deeds va_kinds va_firsts va_seconds sf_facts sa_heard sa_huts sa_minutes cf_voices cf_step ca_parts ca_heights h s td fh fs) : decide ((w = 0 ∧ lf_huts = 9) ∨ (w = 6 ∧ lf_echoes = 4) ∨ (w = 8 ∧ lf_singers = 6) ∨ (10 ≤ w ∧ w < 16 ∧ vf_deeds = 40) ∨ (16 ≤ w ∧ w < 18 ∧ sf_facts = 10) ∨ (w = 18 ∧ cf_voices = 9)) = fu w td := by
  unfold fu
  have hc : o = 0 ∨ o = 1 ∨ o = 2 ∨ o = 3 := by omega
  rcases hc with rfl | rfl | rfl | rfl
  · have h1 : w < 10 := hw.2
    have hL := (hD.1 rfl).1
    rw [hL.1, hL.2.1, hL.2.2.2.2.1]
    congr 1
    apply propext
    constructor
    · rintro (h | h | h | h | h | h)
      · exact Or.inl h
      · exact Or.inr (Or.inl h)
      · exact Or.inr (Or.inr (Or.inl h))
      · omega
      · omega
      · omega
    · rintro (h | h | h | h | h | h)
      · exact Or.inl h
      · exact Or.inr (Or.inl h)
      · exact Or.inr (Or.inr (Or.inl h))
      · omega
      · omega
      · omega
  · have h1 : w < 16 := hw.2
    have h2 : 10 ≤ w := hw.1
    rw [(hD.2.1 rfl).1]
    congr 1
    apply propext
    constructor
    · rintro (h | h | h | h | h | h)
      · omega
      · omega
      · omega
      · exact Or.inr (Or.inr (Or.inr (Or.inl h)))
      · omega
      · omega
    · rintro (h | h | h | h | h | h)
      · omega
      · omega
      · omega
      · exact Or.inr (Or.inr (Or.inr (Or.inl h)))
      · omega
      · omega
  · have h1 : w < 18 := hw.2
    have h2 : 16 ≤ w := hw.1
    rw [(hD.2.2.1 rfl).1]
    congr 1
    apply propext
    constructor
    · rintro (h | h | h | h | h | h)
      · omega
      · omega
      · omega
      · omega
      · exact Or.inr (Or.inr (Or.inr (Or.inr (Or.inl h))))
      · omega
    · rintro (h | h | h | h | h | h)
      · omega
      · omega
      · omega
      · omega
      · exact Or.inr (Or.inr (Or.inr (Or.inr (Or.inl h))))
      · omega
  · have h1 : w < 20 := hw.2
    have h2 : 18 ≤ w := hw.1
    rw [(hD.2.2.2 rfl).1]
    congr 1
    apply propext
    constructor
    · rintro (h | h | h | h | h | h)
      · omega
      · omega
      · omega
      · omega
      · omega
      · exact Or.inr (Or.inr (Or.inr (Or.inr (Or.inr h))))
    · rintro (h | h | h | h | h | h)
      · omega
      · omega
      · omega
      · omega
      · omega
      · exact Or.inr (Or.inr (Or.inr (Or.inr (Or.inr h))))
set_option maxRecDepth 20000 in
theorem e_tell {lf_huts lf_singers lf_villages lf_dams lf_echoes lf_deep lf_slide vf_deeds sf_facts cf_voices cf_step : Int32} {la_heights la_ladders la_minutes la_echoFrom la_echoTo la_homes la_talls la_known va_kinds va_firsts va_seconds sa_heard sa_huts sa_minutes ca_parts ca_heights : Nat → Int32} {nums td : Nat → Int32} {h s fh fs a b c : Int32} {o w : Nat} {post : (Int32) → (Int32) → (Int32) → (Int32) → (Int32) → (Int32) → (Int32) → (Nat → Int32) → (Nat → Int32) → (Nat → Int32) → (Nat → Int32) → (Nat → Int32) → (Nat → Int32) → (Nat → Int32) → (Nat → Int32) → (Int32) → (Nat → Int32) → (Nat → Int32) → (Nat → Int32) → (Int32) → (Nat → Int32) → (Nat → Int32) → (Nat → Int32) → (Int32) → (Int32) → (Nat → Int32) → (Nat → Int32) → Int32 → Int32 → Prop} (ho : o ≤ 3) (hw : wlo o ≤ w ∧ w < wlo (o + 1)) (hC : CB o td) (hf : fu w td = false) (n0 : nums 0 = a) (c0 : cW w 0 a a = true) (n1 : 2 ≤ nW w → nums 1 = b) (c1 : 2 ≤ nW w → cW w 1 a b = true) (n2 : 3 ≤ nW w → nums 2 = c) (c2 : 3 ≤ nW w → cW w 2 a c = true) (hD : DR o lf_huts lf_singers lf_villages lf_dams lf_echoes lf_deep lf_slide la_heights la_ladders la_minutes la_echoFrom la_echoTo la_homes la_talls la_known vf_deeds va_kinds va_firsts va_seconds sf_facts sa_heard sa_huts sa_minutes cf_voices cf_step ca_parts ca_heights h s td fh fs) (hp : ∀ (lf_huts' : Int32) (lf_singers' : Int32) (lf_villages' : Int32) (lf_dams' : Int32) (lf_echoes' : Int32) (lf_deep' : Int32) (lf_slide' : Int32) (la_heights' : Nat → Int32) (la_ladders' : Nat → Int32) (la_minutes' : Nat → Int32) (la_echoFrom' : Nat → Int32) (la_echoTo' : Nat → Int32) (la_homes' : Nat → Int32) (la_talls' : Nat → Int32) (la_known' : Nat → Int32) (vf_deeds' : Int32) (va_kinds' : Nat → Int32) (va_firsts' : Nat → Int32) (va_seconds' : Nat → Int32) (sf_facts' : Int32) (sa_heard' : Nat → Int32) (sa_huts' : Nat → Int32) (sa_minutes' : Nat → Int32) (cf_voices' : Int32) (cf_step' : Int32) (ca_parts' : Nat → Int32) (ca_heights' : Nat → Int32) (h' s' : Int32), DR o lf_huts' lf_singers' lf_villages' lf_dams' lf_echoes' lf_deep' lf_slide' la_heights' la_ladders' la_minutes' la_echoFrom' la_echoTo' la_homes' la_talls' la_known' vf_deeds' va_kinds' va_firsts' va_seconds' sf_facts' sa_heard' sa_huts' sa_minutes' cf_voices' cf_step' ca_parts' ca_heights' h' s' (lD w true a b c td) (lH w a b fh) (lS w a fs) → post lf_huts' lf_singers' lf_villages' lf_dams' lf_echoes' lf_deep' lf_slide' la_heights' la_ladders' la_minutes' la_echoFrom' la_echoTo' la_homes' la_talls' la_known' vf_deeds' va_kinds' va_firsts' va_seconds' sf_facts' sa_heard' sa_huts' sa_minutes' cf_voices' cf_step' ca_parts' ca_heights' h' s') : q_wr_X4_tell_0 lf_huts lf_singers lf_villages lf_dams lf_echoes lf_deep lf_slide la_heights la_ladders la_minutes la_echoFrom la_echoTo la_homes la_talls la_known vf_deeds va_kinds va_firsts va_seconds sf_facts sa_heard sa_huts sa_minutes cf_voices cf_step ca_parts ca_heights nums h s (nI w) post := by
  have hc : o = 0 ∨ o = 1 ∨ o = 2 ∨ o = 3 := by omega
  rcases hc with rfl | rfl | rfl | rfl
  · have h1 : w < 10 := hw.2
    have h2 : 0 ≤ w := hw.1
    have hc : w = 0 ∨ w = 1 ∨ w = 2 ∨ w = 3 ∨ w = 4 ∨ w = 5 ∨ w = 6 ∨ w = 7 ∨ w = 8 ∨ w = 9 := by omega
    rcases hc with rfl | rfl | rfl | rfl | rfl | rfl | rfl | rfl | rfl | rfl
    · exact e_tell_0 hC hf n0 c0 hD hp
    · exact e_tell_1 hC hf n0 c0 hD hp
    · exact e_tell_2 hC hf n0 c0 hD hp
    · exact e_tell_3 hC hf n0 c0 hD hp
    · exact e_tell_4 hC hf n0 c0 hD hp
    · exact e_tell_5 hC hf n0 c0 (n1 (by decide)) (c1 (by decide)) (n2 (by decide)) (c2 (by decide)) hD hp
    · exact e_tell_6 hC hf n0 c0 (n1 (by decide)) (c1 (by decide)) hD hp
    · exact e_tell_7 hC hf n0 c0 (n1 (by decide)) (c1 (by decide)) hD hp
    · exact e_tell_8 hC hf n0 c0 (n1 (by decide)) (c1 (by decide)) hD hp
    · exact e_tell_9 hC hf n0 c0 (n1 (by decide)) (c1 (by decide)) hD hp
  · have h1 : w < 16 := hw.2
    have h2 : 10 ≤ w := hw.1
    have hc : w = 10 ∨ w = 11 ∨ w = 12 ∨ w = 13 ∨ w = 14 ∨ w = 15 := by omega
    rcases hc with rfl | rfl | rfl | rfl | rfl | rfl
    · exact e_tell_10 hC hf n0 c0 (n1 (by decide)) (c1 (by decide)) hD hp
    · exact e_tell_11 hC hf n0 c0 (n1 (by decide)) (c1 (by decide)) hD hp
    · exact e_tell_12 hC hf n0 c0 (n1 (by decide)) (c1 (by decide)) hD hp
    · exact e_tell_13 hC hf n0 c0 (n1 (by decide)) (c1 (by decide)) hD hp
    · exact e_tell_14 hC hf n0 c0 hD hp
    · exact e_tell_15 hC hf n0 c0 hD hp
  · have h1 : w < 18 := hw.2
    have h2 : 16 ≤ w := hw.1
    have hc : w = 16 ∨ w = 17 := by omega
    rcases hc with rfl | rfl
    · exact e_tell_16 hC hf n0 c0 (n1 (by decide)) (c1 (by decide)) hD hp
    · exact e_tell_17 hC hf n0 c0 (n1 (by decide)) (c1 (by decide)) hD hp
  · have h1 : w < 20 := hw.2
    have h2 : 18 ≤ w := hw.1
    have hc : w = 18 ∨ w = 19 := by omega
    rcases hc with rfl | rfl
    · exact e_tell_18 hC hf n0 c0 (n1 (by decide)) (c1 (by decide)) hD hp
    · exact e_tell_19 hC hf n0 c0 hD hp
theorem mF_0 {c : Bool} {lf f : Int32} (hf : ¬ f = 0) (h : mF c lf f = 0) : c = true ∧ lf = 0 := by
  unfold mF at h
  by_cases hc : c = true
  · rw [if_pos hc] at h
    exact ⟨hc, h⟩
  · rw [if_neg hc] at h
    by_cases hl : lf = 0
    · rw [if_pos hl] at h; exact absurd h hf
    · rw [if_neg hl] at h; exact absurd h hl
theorem mkF_0 {B : Nat → Int32} {n r w : Nat} {td : Nat → Int32} {fa : Int32} : ∀ k, mkF B n r w td fa k = 0 → fa = 0 ∧ fu w td = false ∧ ∀ j, j < k → cW w j (tV B n (ps B n r 1)) (tV B n (ps B n r (j + 1))) = true
  | 0 => fun h => by
    have := mF_0 (by decide) h
    refine ⟨this.2, ?_, fun j hj => absurd hj (by omega)⟩
    have h1 := this.1
    cases hh : fu w td with
    | false => rfl
    | true => rw [hh] at h1; exact absurd h1 (by decide)
  | k + 1 => fun h => by
    have := mF_0 (by decide) h
    obtain ⟨a, b, c⟩ := mkF_0 k this.2
    refine ⟨a, b, fun j hj => ?_⟩
    by_cases hjk : j = k
    · subst hjk; exact this.1
    · exact c j (by omega)
theorem mark_e {fa pl f p : Int32} {c : Bool} {post : Int32 → Int32 → Prop} (hc : c = false) (h : post (mF c fa f) (mP c fa pl p)) : q_wr_X4_mark_0 fa pl f p post := by
  unfold mF mP at h
  rw [hc] at h
  have hb : ¬ (false = true) := by decide
  rw [if_neg hb, if_neg hb] at h
  refine ⟨fun h9 => ?_, fun h9 => ?_⟩
  · rw [if_neg h9, if_neg h9] at h; exact h
  · rw [if_pos h9, if_pos h9] at h; exact h
theorem mF_t {fa f : Int32} : mF true fa f = fa := rfl
theorem mP_t {fa pl p : Int32} : mP true fa pl p = pl := rfl
theorem mF_n {c : Bool} {fa f : Int32} (h : ¬ fa = 0) : mF c fa f = fa := by
  unfold mF
  by_cases hc : c = true
  · rw [if_pos hc]
  · rw [if_neg hc, if_neg h]
theorem mP_n {c : Bool} {fa pl p : Int32} (h : ¬ fa = 0) : mP c fa pl p = pl := by
  unfold mP
  by_cases hc : c = true
  · rw [if_pos hc]
  · rw [if_neg hc, if_neg h]
theorem fu_any {lf_huts lf_singers lf_echoes vf_deeds sf_facts cf_voices : Int32} {w : Nat} {post : Int32 → Prop} (hw : w < 20) (h1 : post 1) (h0 : post 0) : q_wr_X4_isFull_0 lf_huts lf_singers lf_echoes vf_deeds sf_facts cf_voices (nI w) post := e_isFull hw (fun _ => h1) (fun _ => h0)
set_option maxRecDepth 20000 in
theorem e_readLine {tp B : Nat → Int32} {lf_huts lf_singers lf_villages lf_dams lf_echoes lf_deep lf_slide vf_deeds sf_facts cf_voices cf_step : Int32} {la_heights la_ladders la_minutes la_echoFrom la_echoTo la_homes la_talls la_known va_kinds va_firsts va_seconds sa_heard sa_huts sa_minutes ca_parts ca_heights : Nat → Int32} {nums td : Nat → Int32} {h s fh fs fa pl va : Int32} {n r o : Nat} {post : (Int32) → (Int32) → (Int32) → (Int32) → (Int32) → (Int32) → (Int32) → (Nat → Int32) → (Nat → Int32) → (Nat → Int32) → (Nat → Int32) → (Nat → Int32) → (Nat → Int32) → (Nat → Int32) → (Nat → Int32) → (Int32) → (Nat → Int32) → (Nat → Int32) → (Nat → Int32) → (Int32) → (Nat → Int32) → (Nat → Int32) → (Nat → Int32) → (Int32) → (Int32) → (Nat → Int32) → (Nat → Int32) → Int32 → Int32 → (Nat → Int32) → Int32 → Int32 → Int32 → Int32 → Int32 → Int32 → Prop} (hn : n ≤ 600) (hr : r ≤ n) (ho : o ≤ 3) (hB : ∀ j, j < n → tp j = B j) (hv : tK B n r = 2 → va = tV B n r) (hC : CB o td) (hD : fa = 0 → DR o lf_huts lf_singers lf_villages lf_dams lf_echoes lf_deep lf_slide la_heights la_ladders la_minutes la_echoFrom la_echoTo la_homes la_talls la_known vf_deeds va_kinds va_firsts va_seconds sf_facts sa_heard sa_huts sa_minutes cf_voices cf_step ca_parts ca_heights h s td fh fs) (h0 : ¬ lb B n r o = 9 → ∀ (lf_huts' : Int32) (lf_singers' : Int32) (lf_villages' : Int32) (lf_dams' : Int32) (lf_echoes' : Int32) (lf_deep' : Int32) (lf_slide' : Int32) (la_heights' : Nat → Int32) (la_ladders' : Nat → Int32) (la_minutes' : Nat → Int32) (la_echoFrom' : Nat → Int32) (la_echoTo' : Nat → Int32) (la_homes' : Nat → Int32) (la_talls' : Nat → Int32) (la_known' : Nat → Int32) (vf_deeds' : Int32) (va_kinds' : Nat → Int32) (va_firsts' : Nat → Int32) (va_seconds' : Nat → Int32) (sf_facts' : Int32) (sa_heard' : Nat → Int32) (sa_huts' : Nat → Int32) (sa_minutes' : Nat → Int32) (cf_voices' : Int32) (cf_step' : Int32) (ca_parts' : Nat → Int32) (ca_heights' : Nat → Int32) (nums' : Nat → Int32) (b' k' f' va' h' s' : Int32), post lf_huts' lf_singers' lf_villages' lf_dams' lf_echoes' lf_deep' lf_slide' la_heights' la_ladders' la_minutes' la_echoFrom' la_echoTo' la_homes' la_talls' la_known' vf_deeds' va_kinds' va_firsts' va_seconds' sf_facts' sa_heard' sa_huts' sa_minutes' cf_voices' cf_step' ca_parts' ca_heights' 1 (nI (tF B n (ps B n r (lb B n r o)))) nums' b' k' f' va' h' s') (h1 : lb B n r o = 9 → ∀ (lf_huts' : Int32) (lf_singers' : Int32) (lf_villages' : Int32) (lf_dams' : Int32) (lf_echoes' : Int32) (lf_deep' : Int32) (lf_slide' : Int32) (la_heights' : Nat → Int32) (la_ladders' : Nat → Int32) (la_minutes' : Nat → Int32) (la_echoFrom' : Nat → Int32) (la_echoTo' : Nat → Int32) (la_homes' : Nat → Int32) (la_talls' : Nat → Int32) (la_known' : Nat → Int32) (vf_deeds' : Int32) (va_kinds' : Nat → Int32) (va_firsts' : Nat → Int32) (va_seconds' : Nat → Int32) (sf_facts' : Int32) (sa_heard' : Nat → Int32) (sa_huts' : Nat → Int32) (sa_minutes' : Nat → Int32) (cf_voices' : Int32) (cf_step' : Int32) (ca_parts' : Nat → Int32) (ca_heights' : Nat → Int32) (nums' : Nat → Int32) (va' h' s' : Int32), (mkF B n r (wOf B n r o) td fa (nW (wOf B n r o)) = 0 → DR o lf_huts' lf_singers' lf_villages' lf_dams' lf_echoes' lf_deep' lf_slide' la_heights' la_ladders' la_minutes' la_echoFrom' la_echoTo' la_homes' la_talls' la_known' vf_deeds' va_kinds' va_firsts' va_seconds' sf_facts' sa_heard' sa_huts' sa_minutes' cf_voices' cf_step' ca_parts' ca_heights' h' s' (lD (wOf B n r o) true (tV B n (ps B n r 1)) (tV B n (ps B n r 2)) (tV B n (ps B n r 3)) td) (lH (wOf B n r o) (tV B n (ps B n r 1)) (tV B n (ps B n r 2)) fh) (lS (wOf B n r o) (tV B n (ps B n r 1)) fs)) → (tK B n (ps B n r (nW (wOf B n r o) + 2)) = 2 → va' = tV B n (ps B n r (nW (wOf B n r o) + 2))) → post lf_huts' lf_singers' lf_villages' lf_dams' lf_echoes' lf_deep' lf_slide' la_heights' la_ladders' la_minutes' la_echoFrom' la_echoTo' la_homes' la_talls' la_known' vf_deeds' va_kinds' va_firsts' va_seconds' sf_facts' sa_heard' sa_huts' sa_minutes' cf_voices' cf_step' ca_parts' ca_heights' (mkF B n r (wOf B n r o) td fa (nW (wOf B n r o))) (mkP B n r (wOf B n r o) td fa pl (nW (wOf B n r o))) nums' (nI (tN B n (ps B n r (nW (wOf B n r o) + 2)))) (nI (tK B n (ps B n r (nW (wOf B n r o) + 2)))) (nI (tF B n (ps B n r (nW (wOf B n r o) + 2)))) va' h' s') : q_wr_X4_readLine_0 lf_huts lf_singers lf_villages lf_dams lf_echoes lf_deep lf_slide la_heights la_ladders la_minutes la_echoFrom la_echoTo la_homes la_talls la_known vf_deeds va_kinds va_firsts va_seconds sf_facts sa_heard sa_huts sa_minutes cf_voices cf_step ca_parts ca_heights fa pl nums tp (nI n) (nI (tN B n r)) (nI (tK B n r)) (nI (tF B n r)) va h s (nI o) post := by
  have hwc := wd_cases (B := B) (n := n) (r := r) ho
  refine e_wordOf hn hr ho hB (fun hw => ⟨fun h9 => absurd rfl h9, fun _ => ?_⟩) (fun hw hWP => ⟨fun _ => ?_, fun h9 => absurd h9 (nI_nm1 (by omega))⟩)
  · have hl : lb B n r o = 0 := by unfold lb; rw [if_pos hw]
    have g := h0 (by omega)
    rw [hl] at g
    exact g lf_huts lf_singers lf_villages lf_dams lf_echoes lf_deep lf_slide la_heights la_ladders la_minutes la_echoFrom la_echoTo la_homes la_talls la_known vf_deeds va_kinds va_firsts va_seconds sf_facts sa_heard sa_huts sa_minutes cf_voices cf_step ca_parts ca_heights nums _ _ _ _ _ _
  have hlb : lb B n r o = lbr B n r (nW (wOf B n r o)) 0 := by unfold lb; rw [if_neg (by omega)]
  obtain ⟨w, hwe⟩ : ∃ w, w = wOf B n r o := ⟨_, rfl⟩
  rw [← hwe] at hlb h1 hw hWP ⊢
  obtain ⟨hnt, hn1, hn3⟩ := nW_tb w hw
  have hps := ps_le (B := B) hr
  -- behind the word's mark
  have st : q_wr_X4_readLine_33 lf_huts lf_singers lf_villages lf_dams lf_echoes lf_deep lf_slide la_heights la_ladders la_minutes la_echoFrom la_echoTo la_homes la_talls la_known vf_deeds va_kinds va_firsts va_seconds sf_facts sa_heard sa_huts sa_minutes cf_voices cf_step ca_parts ca_heights (mkF B n r w td fa 0) (mkP B n r w td fa pl 0) nums tp (nI n) (nI (tN B n r)) (nI (tK B n r)) (nI (tF B n r)) va h s (nI w) post := by
    refine e_adv (r := tN B n r) hn (tk_le hr).2.1 hB (fun v1 hv1 => ?_)
    intro P hP
    have loop : ∀ d k v (nums' : Nat → Int32), d + k = nW w → lbr B n r d k = lb B n r o → (∀ j, j < k → nums' j = tV B n (ps B n r (j + 1))) → (tK B n (ps B n r (k + 1)) = 2 → v = tV B n (ps B n r (k + 1))) → P (nI k) (mkF B n r w td fa k) (mkP B n r w td fa pl k) nums' (nI (tN B n (ps B n r (k + 1)))) (nI (tK B n (ps B n r (k + 1)))) (nI (tF B n (ps B n r (k + 1)))) v := by
      intro d
      induction d with
      | zero =>
        intro k v nums' hd hl hj hv2
        have hkn : k = nW w := by omega
        have hk4 := (tk_le (B := B) (hps (k + 1)).2).2.2.2.2
        apply hP
        rw [nI_clamp (n := w) (by omega), hnt]
        refine ⟨vp_in_nI (by omega) (by omega), pk_le (nW w) k (fun _ => ?_) (fun h9 => absurd h9 (by omega))⟩
        refine pk_eq (tK B n (ps B n r (k + 1))) 3 (fun h3 => ?_) (fun h3 => ?_)
        · have hl9 : lb B n r o = 9 := by rw [← hl, lbr, if_pos h3]
          refine ⟨fun hf => ?_, fun hf => ?_⟩
          · refine e_adv (r := ps B n r (k + 2)) hn (hps (k + 2)).2 hB (fun v3 hv3 => ?_)
            have g := h1 hl9 lf_huts lf_singers lf_villages lf_dams lf_echoes lf_deep lf_slide la_heights la_ladders la_minutes la_echoFrom la_echoTo la_homes la_talls la_known vf_deeds va_kinds va_firsts va_seconds sf_facts sa_heard sa_huts sa_minutes cf_voices cf_step ca_parts ca_heights nums' v3 h s (fun h9 => absurd (by rw [hkn]; exact h9) hf)
            rw [hkn] at hv3 ⊢
            exact g hv3
          · obtain ⟨z1, z2, z3⟩ := mkF_0 k hf
            refine e_tell (a := tV B n (ps B n r 1)) (b := tV B n (ps B n r 2)) (c := tV B n (ps B n r 3)) ho ⟨hWP.1, hWP.2.1⟩ hC z2 (hj 0 (by omega)) (z3 0 (by omega)) (fun q => hj 1 (by omega)) (fun q => z3 1 (by omega)) (fun q => hj 2 (by omega)) (fun q => z3 2 (by omega)) (hD z1) ?_
            intro lf_huts' lf_singers' lf_villages' lf_dams' lf_echoes' lf_deep' lf_slide' la_heights' la_ladders' la_minutes' la_echoFrom' la_echoTo' la_homes' la_talls' la_known' vf_deeds' va_kinds' va_firsts' va_seconds' sf_facts' sa_heard' sa_huts' sa_minutes' cf_voices' cf_step' ca_parts' ca_heights' h' s' hD'
            refine e_adv (r := ps B n r (k + 2)) hn (hps (k + 2)).2 hB (fun v3 hv3 => ?_)
            have g := h1 hl9 lf_huts' lf_singers' lf_villages' lf_dams' lf_echoes' lf_deep' lf_slide' la_heights' la_ladders' la_minutes' la_echoFrom' la_echoTo' la_homes' la_talls' la_known' vf_deeds' va_kinds' va_firsts' va_seconds' sf_facts' sa_heard' sa_huts' sa_minutes' cf_voices' cf_step' ca_parts' ca_heights' nums' v3 h' s' (fun _ => hD')
            rw [hkn] at hv3 ⊢
            exact g hv3
        · have hl9 : lb B n r o = k + 1 := by rw [← hl, lbr, if_neg h3]
          have g := h0 (by omega) lf_huts lf_singers lf_villages lf_dams lf_echoes lf_deep lf_slide la_heights la_ladders la_minutes la_echoFrom la_echoTo la_homes la_talls la_known vf_deeds va_kinds va_firsts va_seconds sf_facts sa_heard sa_huts sa_minutes cf_voices cf_step ca_parts ca_heights nums' (nI (tN B n (ps B n r (k + 1)))) (nI (tK B n (ps B n r (k + 1)))) (nI (tF B n (ps B n r (k + 1)))) v h s
          rw [hl9] at g
          exact g
      | succ d ih =>
        intro k v nums' hd hl hj hv2
        have hk4 := (tk_le (B := B) (hps (k + 1)).2).2.2.2.2
        apply hP
        rw [nI_clamp (n := w) (by omega), hnt]
        refine ⟨vp_in_nI (by omega) (by omega), pk_le (nW w) k (fun h9 => absurd h9 (by omega)) (fun _ => ?_)⟩
        refine pk_eq (tK B n (ps B n r (k + 1))) 2 (fun h3 => ⟨vp_in_nI (by omega) (by omega), fun t1 e1 => ?_⟩) (fun h3 => ?_)
        · rw [nI_clamp (by omega), hv2 h3] at e1
          have hj2 : ∀ j, j < k + 1 → t1 j = tV B n (ps B n r (j + 1)) := by
            intro j hj3
            rw [e1]
            by_cases hjk : j = k
            · subst hjk; exact up_s
            · rw [up_n hjk]; exact hj j (by omega)
          have hl2 : lbr B n r d (k + 1) = lb B n r o := by rw [← hl, lbr, if_pos h3]
          have nx : ∀ f p, f = mkF B n r w td fa (k + 1) → p = mkP B n r w td fa pl (k + 1) → q_wr_X4_readLine_89 P lf_huts lf_singers lf_villages lf_dams lf_echoes lf_deep lf_slide la_heights la_ladders la_minutes la_echoFrom la_echoTo la_homes la_talls la_known vf_deeds va_kinds va_firsts va_seconds sf_facts sa_heard sa_huts sa_minutes cf_voices cf_step ca_parts ca_heights f p t1 tp (nI n) (nI (tN B n (ps B n r (k + 1)))) (nI (tK B n (ps B n r (k + 1)))) (nI (tF B n (ps B n r (k + 1)))) v h s (nI w) (nI k) post := by
            intro f p hf hp
            refine e_adv (r := ps B n r (k + 2)) hn (hps (k + 2)).2 hB (fun v3 hv3 v4 e4 => ?_)
            rw [e4, nI_1, hf, hp]
            exact ih (k + 1) v3 t1 (by omega) hl2 hj2 hv3
          refine e_canBe (a := tV B n (ps B n r 1)) hw (by omega) (hj2 0 (by omega)) (by rw [hj2 k (by omega)]; exact tV_iv (hps (k + 1)).2 h3) (fun hc => io ?_) (fun hc => zi ?_)
          · rw [hj2 k (by omega)] at hc
            refine nx _ _ ?_ ?_
            · show _ = mF (cW w k (tV B n (ps B n r 1)) (tV B n (ps B n r (k + 1)))) (mkF B n r w td fa k) 2
              rw [hc, mF_t]
            · show _ = mP (cW w k (tV B n (ps B n r 1)) (tV B n (ps B n r (k + 1)))) (mkF B n r w td fa k) (mkP B n r w td fa pl k) (nI (tF B n (ps B n r (k + 1))))
              rw [hc, mP_t]
          · rw [hj2 k (by omega)] at hc
            exact mark_e hc (nx _ _ rfl rfl)
        · have hl9 : lb B n r o = k + 1 := by rw [← hl, lbr, if_neg h3]
          have g := h0 (by omega) lf_huts lf_singers lf_villages lf_dams lf_echoes lf_deep lf_slide la_heights la_ladders la_minutes la_echoFrom la_echoTo la_homes la_talls la_known vf_deeds va_kinds va_firsts va_seconds sf_facts sa_heard sa_huts sa_minutes cf_voices cf_step ca_parts ca_heights nums' (nI (tN B n (ps B n r (k + 1)))) (nI (tK B n (ps B n r (k + 1)))) (nI (tF B n (ps B n r (k + 1)))) v h s
          rw [hl9] at g
          exact g
    exact loop (nW w) 0 v1 nums (by omega) hlb.symm (fun j hj => absurd hj (by omega)) hv1
  by_cases hfa : fa = 0
  · refine e_isFull hw (fun hc => oi ?_) (fun hc => iz ?_)
    · rw [DR_fu ho ⟨hWP.1, hWP.2.1⟩ (hD hfa)] at hc
      exact mark_e (c := !fu w td) (by rw [hc]; rfl) st
    · rw [DR_fu ho ⟨hWP.1, hWP.2.1⟩ (hD hfa)] at hc
      have e1 : mkF B n r w td fa 0 = fa := by show mF (!fu w td) fa 3 = fa; rw [hc]; rfl
      have e2 : mkP B n r w td fa pl 0 = pl := by show mP (!fu w td) fa pl _ = pl; rw [hc]; rfl
      rw [e1, e2] at st
      exact st
  · have e1 : mkF B n r w td fa 0 = fa := mF_n hfa
    have e2 : mkP B n r w td fa pl 0 = pl := mP_n hfa
    rw [e1, e2] at st
    exact fu_any hw (oi ⟨fun _ => st, fun h9 => absurd h9 hfa⟩) (iz st)
end
section
theorem al1 {P : Nat → Prop} (h1 : P 1) : ∀ j, 1 ≤ j → j ≤ 1 → P j := fun j a b => by
  have : j = 1 := by omega
  subst this; exact h1
theorem al2 {P : Nat → Prop} (h1 : P 1) (h2 : P 2) : ∀ j, 1 ≤ j → j ≤ 2 → P j := fun j a b => by
  have : j = 1 ∨ j = 2 := by omega
  rcases this with rfl | rfl
  · exact h1
  · exact h2
theorem al3 {P : Nat → Prop} (h1 : P 1) (h2 : P 2) (h3 : P 3) : ∀ j, 1 ≤ j → j ≤ 3 → P j := fun j a b => by
  have : j = 1 ∨ j = 2 ∨ j = 3 := by omega
  rcases this with rfl | rfl | rfl
  · exact h1
  · exact h2
  · exact h3
theorem be1 {P : Nat → Prop} : ∀ j, 1 ≤ j → j < 1 → P j := fun j a b => absurd b (by omega)
theorem be2 {P : Nat → Prop} (h1 : P 1) : ∀ j, 1 ≤ j → j < 2 → P j := fun j a b => al1 h1 j a (by omega)
theorem be3 {P : Nat → Prop} (h1 : P 1) (h2 : P 2) : ∀ j, 1 ≤ j → j < 3 → P j := fun j a b => al2 h1 h2 j a (by omega)
def gI (b : Bool) : Int32 := if b = true then 1 else 0
theorem sI_2 : ∀ k, k ≤ 4 → (sI k = 2 ↔ k = 1) := by decide
theorem sI_3 : ∀ k, k ≤ 4 → (sI k = 3 ↔ k = 2) := by decide
theorem sI_4 : ∀ k, k ≤ 4 → (sI k = 4 ↔ k = 3) := by decide
theorem sI_0 : ∀ k, k ≤ 4 → (sI k = 0 ↔ k = 0) := by decide
theorem e_later {c : Bool} {lf lp f pl : Int32} {post : Int32 → Int32 → Prop} (hc : c = false) (hlp : ¬ lf = 0 → lp < pl) (h : post (mF c lf f) (mP c lf lp pl)) : q_m_later_0 lf lp f pl post := by
  unfold mF mP at h
  rw [hc] at h
  have hb : ¬ (false = true) := by decide
  rw [if_neg hb, if_neg hb] at h
  refine ⟨fun h9 => ?_, fun h9 => ?_⟩
  · rw [if_pos h9, if_pos h9] at h; exact h
  · rw [if_neg h9, if_neg h9] at h
    have hl := r_lt (hlp h9)
    refine ⟨fun h8 => absurd (r_lt h8) (by omega), fun _ => ⟨fun _ => h, fun h8 => ?_⟩⟩
    rw [h8] at hl
    omega
theorem LP_n {c : Bool} {lf lp f : Int32} {F F' : Nat} (hlp : ¬ lf = 0 → lp < nI F) (h1 : F < F') (h2 : F' ≤ 600) : ¬ mF c lf f = 0 → mP c lf lp (nI F) < nI F' := by
  intro hm
  have hFF : nI F < nI F' := nI_lt h1 (by omega)
  unfold mF at hm
  unfold mP
  by_cases hc : c = true
  · rw [if_pos hc] at hm ⊢
    exact Int32.lt_trans (hlp hm) hFF
  · rw [if_neg hc] at hm ⊢
    by_cases hl : lf = 0
    · rw [if_pos hl]; exact hFF
    · rw [if_neg hl]; exact Int32.lt_trans (hlp hl) hFF
theorem LP_s {lf lp : Int32} {F F' : Nat} (hlp : ¬ lf = 0 → lp < nI F) (h1 : F ≤ F') (h2 : F' ≤ 600) : ¬ lf = 0 → lp < nI F' := fun h => Int32.lt_of_lt_of_le (hlp h) (nI_le h1 (by omega))
theorem tF_nx {B : Nat → Int32} {n p : Nat} (hp : p ≤ n) (hK : ¬ tK B n p = 0) : tF B n p < tF B n (tN B n p) ∧ tF B n (tN B n p) ≤ n := by
  have h := tk_le (B := B) hp
  have h2 := tF_le (B := B) h.2.1
  have := h.2.2.1 hK
  omega
theorem e_greater {a b : Int32} {post : Int32 → Prop} (h : post (gr a b)) : q_m_greater_0 a b post := by
  unfold gr at h
  refine ⟨fun c => ?_, fun c => ?_⟩
  · rw [if_neg (Int32.not_lt.mpr c)] at h; exact h
  · rw [if_pos (Int32.not_le.mp c)] at h; exact h
theorem e_takeBut {tp B rd : Nat → Int32} {n r k i : Nat} {va wr lf lp lo hi but : Int32} {wd : Int64} {g c : Bool} {post : Int32 → Int32 → Int32 → Int32 → Int32 → Int64 → Int32 → Int32 → Int32 → (Nat → Int32) → Int32 → Prop} (hn : n ≤ 600) (hr : r ≤ n) (hB : ∀ j, j < n → tp j = B j) (hb : ∀ j, iv (-128) 127 (B j)) (hv : tK B n (ps B n r k) = 2 → va = (tV B n (ps B n r k))) (hlp : ¬ lf = 0 → lp < (nI (tF B n (ps B n r k)))) (hi3 : i < 3) (hc : c = cb lo hi but (tV B n (ps B n r k)))
    (h0 : ¬ tK B n (ps B n r k) = 2 → post 0 (nI (tN B n (ps B n r k))) (nI (tF B n (ps B n r k))) (sI (tK B n (ps B n r k))) va wd (nI (tF B n (ps B n r k))) lf lp rd (gI g))
    (h1 : tK B n (ps B n r k) = 2 → ∀ (va' : Int32) (wd' : Int64), (tK B n (ps B n r (k + 1)) = 2 → va' = (tV B n (ps B n r (k + 1)))) → (¬ mF c lf 2 = 0 → mP c lf lp (nI (tF B n (ps B n r k))) < (nI (tF B n (ps B n r (k + 1))))) → post 1 (nI (tN B n (ps B n r (k + 1)))) (nI (tF B n (ps B n r (k + 1)))) (sI (tK B n (ps B n r (k + 1)))) va' wd' wr (mF c lf 2) (mP c lf lp (nI (tF B n (ps B n r k)))) (upd rd i (tV B n (ps B n r k))) (gI (g && c))) : q_m_takeBut_0 tp (nI (tN B n (ps B n r k))) (nI n) (nI (tF B n (ps B n r k))) (sI (tK B n (ps B n r k))) va wd wr lf lp rd (gI g) (nI i) lo hi but post := by
  have hps := ps_le (B := B) hr k
  have hk := tk_le (B := B) hps.2
  refine ⟨fun h3 => ?_, fun h3 => ⟨rfl, h0 (fun h9 => h3 ((sI_3 _ hk.2.2.2.2).mpr h9))⟩⟩
  have hK := (sI_3 _ hk.2.2.2.2).mp h3
  have hF := tF_nx (B := B) hps.2 (by omega)
  refine ⟨vp_in_nI hi3 (by omega), fun rd1 e1 => ?_⟩
  rw [nI_clamp (by omega), hv hK] at e1
  rw [hv hK]
  have hgg : c = true → g = (g && c) := fun h => by rw [h, Bool.and_true]
  have hg0 : c = false → (0 : Int32) = gI (g && c) := fun h => by rw [h, Bool.and_false]; rfl
  have bad : c = false → q_m_takeBut_44 tp (nI (tN B n (ps B n r k))) (nI n) (nI (tF B n (ps B n r k))) (sI (tK B n (ps B n r k))) (tV B n (ps B n r k)) wd wr lf lp rd1 (gI g) post := by
    intro hcf
    refine e_later hcf hlp ?_
    refine e_tok (r := tN B n (ps B n r k)) hn hk.2.1 hB hb (fun v w hv2 _ => ?_)
    rw [e1, hg0 hcf]
    exact h1 hK v w hv2 (LP_n hlp hF.1 (Nat.le_trans hF.2 hn))
  refine sp_in (fun hnot => iz (bad (by rw [hc]; exact decide_eq_false (fun h9 => hnot ⟨h9.1, h9.2.1⟩)))) (fun a b => oi ⟨fun hne => ?_, fun he => bad (by rw [hc]; exact decide_eq_false (fun h9 => h9.2.2 he))⟩)
  have hct : c = true := by rw [hc]; exact decide_eq_true ⟨a, b, hne⟩
  refine e_tok (r := tN B n (ps B n r k)) hn hk.2.1 hB hb (fun v w hv2 _ => ?_)
  have g2 := h1 hK v w hv2 (LP_n hlp hF.1 (Nat.le_trans hF.2 hn))
  rw [← hgg hct, hct, mF_t, mP_t] at g2
  rw [e1]
  exact g2
theorem e_take {tp B rd : Nat → Int32} {n r k i : Nat} {va wr lf lp lo hi : Int32} {wd : Int64} {g c : Bool} {post : Int32 → Int32 → Int32 → Int32 → Int32 → Int64 → Int32 → Int32 → Int32 → (Nat → Int32) → Int32 → Prop} (hn : n ≤ 600) (hr : r ≤ n) (hB : ∀ j, j < n → tp j = B j) (hb : ∀ j, iv (-128) 127 (B j)) (hv : tK B n (ps B n r k) = 2 → va = (tV B n (ps B n r k))) (hlp : ¬ lf = 0 → lp < (nI (tF B n (ps B n r k)))) (hi3 : i < 3) (hc : c = cb lo hi (-1) (tV B n (ps B n r k)))
    (h0 : ¬ tK B n (ps B n r k) = 2 → post 0 (nI (tN B n (ps B n r k))) (nI (tF B n (ps B n r k))) (sI (tK B n (ps B n r k))) va wd (nI (tF B n (ps B n r k))) lf lp rd (gI g))
    (h1 : tK B n (ps B n r k) = 2 → ∀ (va' : Int32) (wd' : Int64), (tK B n (ps B n r (k + 1)) = 2 → va' = (tV B n (ps B n r (k + 1)))) → (¬ mF c lf 2 = 0 → mP c lf lp (nI (tF B n (ps B n r k))) < (nI (tF B n (ps B n r (k + 1))))) → post 1 (nI (tN B n (ps B n r (k + 1)))) (nI (tF B n (ps B n r (k + 1)))) (sI (tK B n (ps B n r (k + 1)))) va' wd' wr (mF c lf 2) (mP c lf lp (nI (tF B n (ps B n r k)))) (upd rd i (tV B n (ps B n r k))) (gI (g && c))) : q_m_take_0 tp (nI (tN B n (ps B n r k))) (nI n) (nI (tF B n (ps B n r k))) (sI (tK B n (ps B n r k))) va wd wr lf lp rd (gI g) (nI i) lo hi post :=
  e_takeBut hn hr hB hb hv hlp hi3 hc (fun h => ⟨rfl, h0 h⟩) (fun h v w a b => ⟨rfl, h1 h v w a b⟩)
theorem e_takeHut {tp B rd : Nat → Int32} {n r k i : Nat} {va wr lf lp fh but : Int32} {wd : Int64} {g c : Bool} {post : Int32 → Int32 → Int32 → Int32 → Int32 → Int64 → Int32 → Int32 → Int32 → (Nat → Int32) → Int32 → Int32 → Prop} (hn : n ≤ 600) (hr : r ≤ n) (hB : ∀ j, j < n → tp j = B j) (hb : ∀ j, iv (-128) 127 (B j)) (hv : tK B n (ps B n r k) = 2 → va = (tV B n (ps B n r k))) (hlp : ¬ lf = 0 → lp < (nI (tF B n (ps B n r k)))) (hi3 : i < 3) (hc : c = cb 0 8 but (tV B n (ps B n r k)))
    (h0 : ¬ tK B n (ps B n r k) = 2 → post 0 (nI (tN B n (ps B n r k))) (nI (tF B n (ps B n r k))) (sI (tK B n (ps B n r k))) va wd (nI (tF B n (ps B n r k))) lf lp rd fh (gI g))
    (h1 : tK B n (ps B n r k) = 2 → ∀ (va' : Int32) (wd' : Int64), (tK B n (ps B n r (k + 1)) = 2 → va' = (tV B n (ps B n r (k + 1)))) → (¬ mF c lf 2 = 0 → mP c lf lp (nI (tF B n (ps B n r k))) < (nI (tF B n (ps B n r (k + 1))))) → post 1 (nI (tN B n (ps B n r (k + 1)))) (nI (tF B n (ps B n r (k + 1)))) (sI (tK B n (ps B n r (k + 1)))) va' wd' wr (mF c lf 2) (mP c lf lp (nI (tF B n (ps B n r k)))) (upd rd i (tV B n (ps B n r k))) (gr fh (tV B n (ps B n r k))) (gI (g && c))) : q_m_takeHut_0 tp (nI (tN B n (ps B n r k))) (nI n) (nI (tF B n (ps B n r k))) (sI (tK B n (ps B n r k))) va wd wr lf lp rd fh (gI g) (nI i) but post := by
  refine e_takeBut hn hr hB hb hv hlp hi3 hc (fun h => zi (h0 h)) (fun h v w a b => io ⟨vp_in_nI hi3 (by omega), ?_⟩)
  rw [nI_clamp (by omega), up_s]
  exact e_greater (h1 h v w a b)
theorem e_further {td : Nat → Int32} {c : Nat} {M : Int32} {post : Int32 → (Nat → Int32) → Prop} (hc : c < 132) (h0 : td c = M → post (-1) td) (h1 : ¬ td c = M → post (td c) (upd td c (td c + 1))) : q_m_further_0 td (nI c) M post := by
  have hin : vp_in (nI c) 132 := vp_in_nI hc (by omega)
  refine ⟨hin, fun v e => ?_⟩
  rw [nI_clamp (by omega)] at e ⊢
  subst e
  refine ⟨fun h => ⟨hin, fun v2 e2 => ⟨hin, fun t e3 => ?_⟩⟩, fun h => h0 h⟩
  subst e2 e3
  exact h1 h
theorem e_full {td : Nat → Int32} {c : Nat} {M lf lp x : Int32} {b : Bool} {post : Int32 → Int32 → Prop} (hc : c < 132) (hb : b = decide (td c = M)) (hlp : ¬ lf = 0 → lp < x) (h : post (mF (!b) lf 3) (mP (!b) lf lp x)) : q_m_full_0 lf lp td (nI c) M x post := by
  refine ⟨vp_in_nI hc (by omega), ?_⟩
  rw [nI_clamp (by omega)]
  refine ⟨fun h9 => ?_, fun h9 => ?_⟩
  · have e : b = false := by rw [hb]; exact decide_eq_false h9
    rw [e] at h
    exact h
  · have e : b = true := by rw [hb]; exact decide_eq_true h9
    rw [e] at h
    exact e_later (c := !true) rfl hlp h
def kp (td rd : Nat → Int32) (W : Nat) : Nat → Nat → Int32
  | 0 => upd td 0 (td 0 + 1)
  | i + 1 => upd (kp td rd W i) (Int32.toNatClampNeg ((1 + nI W * td 0) + nI i)) (rd i)
theorem e_keep {td rd : Nat → Int32} {W : Nat} {M : Int32} {post : (Nat → Int32) → Prop} (hW : W ≤ 3) (hM : iv 0 40 (td 0)) (h0 : td 0 = M → post td) (h1 : ¬ td 0 = M → post (kp td rd W W)) : q_m_keep_0 td rd (nI W) M post := by
  refine e_further (c := 0) (by omega) (fun h => ?_) (fun h => ?_)
  · intro P hP
    apply hP
    exact pk_le W 0 (fun _ => h0 h) (fun _ => ⟨fun _ => h0 h, fun h9 => absurd rfl h9⟩)
  · have hm : ¬ td 0 = -1 := fun h9 => by
      have := hM.1
      rw [h9] at this
      exact absurd this (by decide)
    obtain ⟨k, hk, -, hk2, -⟩ := iv_nI hM (by decide)
    intro P hP
    have loop : ∀ d i, d + i = W → P (nI i) (kp td rd W i) := by
      intro d
      induction d with
      | zero =>
        intro i hd
        apply hP
        refine pk_le W i (fun _ => ?_) (fun h9 => absurd h9 (by omega))
        have e : i = W := by omega
        rw [e]
        exact h1 h
      | succ d ih =>
        intro i hd
        apply hP
        have hix : ((1 : Int32) + nI W * td 0) + nI i = nI (1 + W * k + i) := by rw [hk]; exact jx2 1 W k i
        have hlt : 1 + W * k + i < 132 := by
          have : W * k ≤ 3 * 40 := Nat.mul_le_mul hW (by omega)
          omega
        refine pk_le W i (fun h9 => absurd h9 (by omega)) (fun _ => ⟨fun h9 => absurd h9 hm, fun _ => ⟨vp_in_nI (by omega) (by omega), fun v e => ⟨by rw [hix]; exact vp_in_nI hlt (by omega), fun t e2 v2 e3 => ?_⟩⟩⟩)
        rw [nI_clamp (by omega)] at e
        rw [e3, nI_1, e2, e]
        exact ih (i + 1) (by omega)
    exact loop W 0 (by omega)
set_option maxRecDepth 20000 in
theorem e_hutLine {tp B rd td : Nat → Int32} {n r : Nat} {va wr fa pl : Int32} {wd : Int64} {post : Int32 → Int32 → Int32 → Int32 → Int32 → Int64 → Int32 → Int32 → Int32 → (Nat → Int32) → (Nat → Int32) → Int32 → Prop} (hn : n ≤ 600) (hr : r ≤ n) (hB : ∀ j, j < n → tp j = B j) (hb : ∀ j, iv (-128) 127 (B j)) (hv : tK B n (ps B n r 1) = 2 → va = (tV B n (ps B n r 1))) (hlp : ¬ mkF B n r 0 td fa 0 = 0 → mkP B n r 0 td fa pl 0 < (nI (tF B n (ps B n r 1)))) (hC : iv 0 9 (td 0))
    (hF : ∀ j, 1 ≤ j → j ≤ 1 → ¬ tK B n (ps B n r j) = 2 → (∀ i, 1 ≤ i → i < j → tK B n (ps B n r i) = 2) → ∀ (re be so va : Int32) (wd : Int64) (lf lp : Int32) (td rd : Nat → Int32) (gd : Int32), post 0 re be so va wd (nI (tF B n (ps B n r j))) lf lp td rd gd)
    (hT : (∀ j, 1 ≤ j → j ≤ 1 → tK B n (ps B n r j) = 2) → ∀ (va' : Int32) (wd' : Int64) (rd' : Nat → Int32) (gd' : Int32), (¬ mkF B n r 0 td fa 1 = 0 → mkP B n r 0 td fa pl 1 < (nI (tF B n (ps B n r 2)))) → post 1 (nI (tN B n (ps B n r 2))) (nI (tF B n (ps B n r 2))) (sI (tK B n (ps B n r 2))) va' wd' wr (mkF B n r 0 td fa 1) (mkP B n r 0 td fa pl 1) (lD 0 (gd B n r 0 1) (tV B n (ps B n r 1)) (tV B n (ps B n r 2)) (tV B n (ps B n r 3)) td) rd' gd') : q_m_hutLine_0 tp (nI (tN B n (ps B n r 1))) (nI n) (nI (tF B n (ps B n r 1))) (sI (tK B n (ps B n r 1))) va wd wr (mkF B n r 0 td fa 0) (mkP B n r 0 td fa pl 0) td rd 1 post := by
  refine e_take (k := 1) (i := 0) (c := cW 0 0 (tV B n (ps B n r 1)) (tV B n (ps B n r 1))) (g := gd B n r 0 0) hn hr hB hb hv hlp (by omega) rfl (fun hk => zi (hF 1 (by omega) (by omega) hk (be1 (P := fun j => tK B n (ps B n r j) = 2)) _ _ _ _ _ _ _ _ _ _)) (fun k1 va1 wd1 hv1 hl1 => io ?_)
  have g := hT (al1 (P := fun j => tK B n (ps B n r j) = 2) k1) va1 wd1 (upd rd 0 (tV B n (ps B n r 1))) (gI (gd B n r 0 1)) hl1
  rw [show lD 0 (gd B n r 0 1) (tV B n (ps B n r 1)) (tV B n (ps B n r 2)) (tV B n (ps B n r 3)) td = (if td 0 = 9 then td else upd (upd td 0 (td 0 + 1)) (Int32.toNatClampNeg (7 + td 0)) (tV B n (ps B n r 1))) from rfl] at g
  refine e_further (c := 0) (by omega) (fun h => ⟨fun _ => ?_, fun h9 => absurd rfl h9⟩) (fun h => ⟨fun h9 => ?_, fun _ v e => ⟨iv_in (iv_add (l := 7) (h := 16) (iv_lit (x := 7) (l := 7) (h := 7) (by decide)) hC (by decide)) (by decide), fun t2 e2 => ?_⟩⟩)
  · rw [if_pos h] at g; exact g
  · have := hC.1
    rw [h9] at this
    exact absurd this (by decide)
  · rw [if_neg h] at g
    rw [c_0, up_s] at e
    rw [e2, e]
    exact g
set_option maxRecDepth 20000 in
theorem e_plainLine_3 {tp B rd td : Nat → Int32} {n r : Nat} {va wr fa pl : Int32} {wd : Int64} {post : Int32 → Int32 → Int32 → Int32 → Int32 → Int64 → Int32 → Int32 → Int32 → (Nat → Int32) → (Nat → Int32) → Int32 → Prop} (hn : n ≤ 600) (hr : r ≤ n) (hB : ∀ j, j < n → tp j = B j) (hb : ∀ j, iv (-128) 127 (B j)) (hv : tK B n (ps B n r 1) = 2 → va = (tV B n (ps B n r 1))) (hlp : ¬ mkF B n r 3 td fa 0 = 0 → mkP B n r 3 td fa pl 0 < (nI (tF B n (ps B n r 1)))) 
    (hF : ∀ j, 1 ≤ j → j ≤ 1 → ¬ tK B n (ps B n r j) = 2 → (∀ i, 1 ≤ i → i < j → tK B n (ps B n r i) = 2) → ∀ (re be so va : Int32) (wd : Int64) (lf lp : Int32) (td rd : Nat → Int32) (gd : Int32), post 0 re be so va wd (nI (tF B n (ps B n r j))) lf lp td rd gd)
    (hT : (∀ j, 1 ≤ j → j ≤ 1 → tK B n (ps B n r j) = 2) → ∀ (va' : Int32) (wd' : Int64) (rd' : Nat → Int32) (gd' : Int32), (¬ mkF B n r 3 td fa 1 = 0 → mkP B n r 3 td fa pl 1 < (nI (tF B n (ps B n r 2)))) → post 1 (nI (tN B n (ps B n r 2))) (nI (tF B n (ps B n r 2))) (sI (tK B n (ps B n r 2))) va' wd' wr (mkF B n r 3 td fa 1) (mkP B n r 3 td fa pl 1) (lD 3 (gd B n r 3 1) (tV B n (ps B n r 1)) (tV B n (ps B n r 2)) (tV B n (ps B n r 3)) td) rd' gd') : q_m_plainLine_0 tp (nI (tN B n (ps B n r 1))) (nI n) (nI (tF B n (ps B n r 1))) (sI (tK B n (ps B n r 1))) va wd wr (mkF B n r 3 td fa 0) (mkP B n r 3 td fa pl 0) td rd 1 5 1 9 post := by
  refine e_take (k := 1) (i := 0) (c := cW 3 0 (tV B n (ps B n r 1)) (tV B n (ps B n r 1))) (g := gd B n r 3 0) hn hr hB hb hv hlp (by omega) rfl (fun hk => zi (hF 1 (by omega) (by omega) hk (be1 (P := fun j => tK B n (ps B n r j) = 2)) _ _ _ _ _ _ _ _ _ _)) (fun k1 va1 wd1 hv1 hl1 => io ?_)
  have g := hT (al1 (P := fun j => tK B n (ps B n r j) = 2) k1) va1 wd1 (upd rd 0 (tV B n (ps B n r 1))) (gI (gd B n r 3 1)) hl1
  refine fun v e => ⟨vp_in_nI (n := 5) (by decide) (by decide), fun t2 e2 => ?_⟩
  rw [c_0, up_s] at e
  rw [e2, e]
  exact g
set_option maxRecDepth 20000 in
theorem e_plainLine_4 {tp B rd td : Nat → Int32} {n r : Nat} {va wr fa pl : Int32} {wd : Int64} {post : Int32 → Int32 → Int32 → Int32 → Int32 → Int64 → Int32 → Int32 → Int32 → (Nat → Int32) → (Nat → Int32) → Int32 → Prop} (hn : n ≤ 600) (hr : r ≤ n) (hB : ∀ j, j < n → tp j = B j) (hb : ∀ j, iv (-128) 127 (B j)) (hv : tK B n (ps B n r 1) = 2 → va = (tV B n (ps B n r 1))) (hlp : ¬ mkF B n r 4 td fa 0 = 0 → mkP B n r 4 td fa pl 0 < (nI (tF B n (ps B n r 1)))) 
    (hF : ∀ j, 1 ≤ j → j ≤ 1 → ¬ tK B n (ps B n r j) = 2 → (∀ i, 1 ≤ i → i < j → tK B n (ps B n r i) = 2) → ∀ (re be so va : Int32) (wd : Int64) (lf lp : Int32) (td rd : Nat → Int32) (gd : Int32), post 0 re be so va wd (nI (tF B n (ps B n r j))) lf lp td rd gd)
    (hT : (∀ j, 1 ≤ j → j ≤ 1 → tK B n (ps B n r j) = 2) → ∀ (va' : Int32) (wd' : Int64) (rd' : Nat → Int32) (gd' : Int32), (¬ mkF B n r 4 td fa 1 = 0 → mkP B n r 4 td fa pl 1 < (nI (tF B n (ps B n r 2)))) → post 1 (nI (tN B n (ps B n r 2))) (nI (tF B n (ps B n r 2))) (sI (tK B n (ps B n r 2))) va' wd' wr (mkF B n r 4 td fa 1) (mkP B n r 4 td fa pl 1) (lD 4 (gd B n r 4 1) (tV B n (ps B n r 1)) (tV B n (ps B n r 2)) (tV B n (ps B n r 3)) td) rd' gd') : q_m_plainLine_0 tp (nI (tN B n (ps B n r 1))) (nI n) (nI (tF B n (ps B n r 1))) (sI (tK B n (ps B n r 1))) va wd wr (mkF B n r 4 td fa 0) (mkP B n r 4 td fa pl 0) td rd 1 6 0 10 post := by
  refine e_take (k := 1) (i := 0) (c := cW 4 0 (tV B n (ps B n r 1)) (tV B n (ps B n r 1))) (g := gd B n r 4 0) hn hr hB hb hv hlp (by omega) rfl (fun hk => zi (hF 1 (by omega) (by omega) hk (be1 (P := fun j => tK B n (ps B n r j) = 2)) _ _ _ _ _ _ _ _ _ _)) (fun k1 va1 wd1 hv1 hl1 => io ?_)
  have g := hT (al1 (P := fun j => tK B n (ps B n r j) = 2) k1) va1 wd1 (upd rd 0 (tV B n (ps B n r 1))) (gI (gd B n r 4 1)) hl1
  refine fun v e => ⟨vp_in_nI (n := 6) (by decide) (by decide), fun t2 e2 => ?_⟩
  rw [c_0, up_s] at e
  rw [e2, e]
  exact g
set_option maxRecDepth 20000 in
theorem e_plainLine_19 {tp B rd td : Nat → Int32} {n r : Nat} {va wr fa pl : Int32} {wd : Int64} {post : Int32 → Int32 → Int32 → Int32 → Int32 → Int64 → Int32 → Int32 → Int32 → (Nat → Int32) → (Nat → Int32) → Int32 → Prop} (hn : n ≤ 600) (hr : r ≤ n) (hB : ∀ j, j < n → tp j = B j) (hb : ∀ j, iv (-128) 127 (B j)) (hv : tK B n (ps B n r 1) = 2 → va = (tV B n (ps B n r 1))) (hlp : ¬ mkF B n r 19 td fa 0 = 0 → mkP B n r 19 td fa pl 0 < (nI (tF B n (ps B n r 1)))) 
    (hF : ∀ j, 1 ≤ j → j ≤ 1 → ¬ tK B n (ps B n r j) = 2 → (∀ i, 1 ≤ i → i < j → tK B n (ps B n r i) = 2) → ∀ (re be so va : Int32) (wd : Int64) (lf lp : Int32) (td rd : Nat → Int32) (gd : Int32), post 0 re be so va wd (nI (tF B n (ps B n r j))) lf lp td rd gd)
    (hT : (∀ j, 1 ≤ j → j ≤ 1 → tK B n (ps B n r j) = 2) → ∀ (va' : Int32) (wd' : Int64) (rd' : Nat → Int32) (gd' : Int32), (¬ mkF B n r 19 td fa 1 = 0 → mkP B n r 19 td fa pl 1 < (nI (tF B n (ps B n r 2)))) → post 1 (nI (tN B n (ps B n r 2))) (nI (tF B n (ps B n r 2))) (sI (tK B n (ps B n r 2))) va' wd' wr (mkF B n r 19 td fa 1) (mkP B n r 19 td fa pl 1) (lD 19 (gd B n r 19 1) (tV B n (ps B n r 1)) (tV B n (ps B n r 2)) (tV B n (ps B n r 3)) td) rd' gd') : q_m_plainLine_0 tp (nI (tN B n (ps B n r 1))) (nI n) (nI (tF B n (ps B n r 1))) (sI (tK B n (ps B n r 1))) va wd wr (mkF B n r 19 td fa 0) (mkP B n r 19 td fa pl 0) td rd 1 19 0 9 post := by
  refine e_take (k := 1) (i := 0) (c := cW 19 0 (tV B n (ps B n r 1)) (tV B n (ps B n r 1))) (g := gd B n r 19 0) hn hr hB hb hv hlp (by omega) rfl (fun hk => zi (hF 1 (by omega) (by omega) hk (be1 (P := fun j => tK B n (ps B n r j) = 2)) _ _ _ _ _ _ _ _ _ _)) (fun k1 va1 wd1 hv1 hl1 => io ?_)
  have g := hT (al1 (P := fun j => tK B n (ps B n r j) = 2) k1) va1 wd1 (upd rd 0 (tV B n (ps B n r 1))) (gI (gd B n r 19 1)) hl1
  refine fun v e => ⟨vp_in_nI (n := 19) (by decide) (by decide), fun t2 e2 => ?_⟩
  rw [c_0, up_s] at e
  rw [e2, e]
  exact g
set_option maxRecDepth 20000 in
theorem e_bitLine_1 {tp B rd td : Nat → Int32} {n r : Nat} {va wr fa pl fh : Int32} {wd : Int64} {post : Int32 → Int32 → Int32 → Int32 → Int32 → Int64 → Int32 → Int32 → Int32 → (Nat → Int32) → (Nat → Int32) → Int32 → Int32 → Prop} (hn : n ≤ 600) (hr : r ≤ n) (hB : ∀ j, j < n → tp j = B j) (hb : ∀ j, iv (-128) 127 (B j)) (hv : tK B n (ps B n r 1) = 2 → va = (tV B n (ps B n r 1))) (hlp : ¬ mkF B n r 1 td fa 0 = 0 → mkP B n r 1 td fa pl 0 < (nI (tF B n (ps B n r 1)))) 
    (hF : ∀ j, 1 ≤ j → j ≤ 1 → ¬ tK B n (ps B n r j) = 2 → (∀ i, 1 ≤ i → i < j → tK B n (ps B n r i) = 2) → ∀ (re be so va : Int32) (wd : Int64) (lf lp : Int32) (td rd : Nat → Int32) (fh : Int32) (gd : Int32), post 0 re be so va wd (nI (tF B n (ps B n r j))) lf lp td rd fh gd)
    (hT : (∀ j, 1 ≤ j → j ≤ 1 → tK B n (ps B n r j) = 2) → ∀ (va' : Int32) (wd' : Int64) (rd' : Nat → Int32) (gd' : Int32), (¬ mkF B n r 1 td fa 1 = 0 → mkP B n r 1 td fa pl 1 < (nI (tF B n (ps B n r 2)))) → post 1 (nI (tN B n (ps B n r 2))) (nI (tF B n (ps B n r 2))) (sI (tK B n (ps B n r 2))) va' wd' wr (mkF B n r 1 td fa 1) (mkP B n r 1 td fa pl 1) (lD 1 (gd B n r 1 1) (tV B n (ps B n r 1)) (tV B n (ps B n r 2)) (tV B n (ps B n r 3)) td) rd' (lH 1 (tV B n (ps B n r 1)) (tV B n (ps B n r 2)) fh) gd') : q_m_bitLine_0 tp (nI (tN B n (ps B n r 1))) (nI n) (nI (tF B n (ps B n r 1))) (sI (tK B n (ps B n r 1))) va wd wr (mkF B n r 1 td fa 0) (mkP B n r 1 td fa pl 0) td rd fh 1 2 post := by
  refine e_takeHut (k := 1) (i := 0) (c := cW 1 0 (tV B n (ps B n r 1)) (tV B n (ps B n r 1))) (g := gd B n r 1 0) hn hr hB hb hv hlp (by omega) rfl (fun hk => zi (hF 1 (by omega) (by omega) hk (be1 (P := fun j => tK B n (ps B n r j) = 2)) _ _ _ _ _ _ _ _ _ _ _)) (fun k1 va1 wd1 hv1 hl1 => io ?_)
  have g := hT (al1 (P := fun j => tK B n (ps B n r j) = 2) k1) va1 wd1 (upd rd 0 (tV B n (ps B n r 1))) (gI (gd B n r 1 1)) hl1
  rw [show lD 1 (gd B n r 1 1) (tV B n (ps B n r 1)) (tV B n (ps B n r 2)) (tV B n (ps B n r 3)) td = upd td 2 (td 2 ||| (if gd B n r 1 1 = true then 1 <<< ((tV B n (ps B n r 1)) &&& 31) else 0)) from rfl] at g
  refine ⟨vp_in_nI (n := 2) (by decide) (by decide), fun h => ?_, fun h => ?_⟩
  · have hg : ¬ gd B n r 1 1 = true := fun h9 => by
      have h8 : gI (gd B n r 1 1) = 0 := h
      rw [h9] at h8
      exact absurd h8 (by decide)
    rw [if_neg hg] at g
    intro v e
    refine ⟨vp_in_nI (n := 2) (by decide) (by decide), fun t2 e2 => ?_⟩
    rw [e2, e]
    exact g
  · have hg : gd B n r 1 1 = true := by
      cases hh : gd B n r 1 1 with
      | true => rfl
      | false =>
        have h8 : ¬ gI (gd B n r 1 1) = 0 := h
        rw [hh] at h8
        exact absurd rfl h8
    rw [if_pos hg] at g
    rw [c_0, up_s]
    intro v e
    refine ⟨vp_in_nI (n := 2) (by decide) (by decide), fun t2 e2 => ?_⟩
    rw [e2, e]
    exact g
set_option maxRecDepth 20000 in
theorem e_bitLine_2 {tp B rd td : Nat → Int32} {n r : Nat} {va wr fa pl fh : Int32} {wd : Int64} {post : Int32 → Int32 → Int32 → Int32 → Int32 → Int64 → Int32 → Int32 → Int32 → (Nat → Int32) → (Nat → Int32) → Int32 → Int32 → Prop} (hn : n ≤ 600) (hr : r ≤ n) (hB : ∀ j, j < n → tp j = B j) (hb : ∀ j, iv (-128) 127 (B j)) (hv : tK B n (ps B n r 1) = 2 → va = (tV B n (ps B n r 1))) (hlp : ¬ mkF B n r 2 td fa 0 = 0 → mkP B n r 2 td fa pl 0 < (nI (tF B n (ps B n r 1)))) 
    (hF : ∀ j, 1 ≤ j → j ≤ 1 → ¬ tK B n (ps B n r j) = 2 → (∀ i, 1 ≤ i → i < j → tK B n (ps B n r i) = 2) → ∀ (re be so va : Int32) (wd : Int64) (lf lp : Int32) (td rd : Nat → Int32) (fh : Int32) (gd : Int32), post 0 re be so va wd (nI (tF B n (ps B n r j))) lf lp td rd fh gd)
    (hT : (∀ j, 1 ≤ j → j ≤ 1 → tK B n (ps B n r j) = 2) → ∀ (va' : Int32) (wd' : Int64) (rd' : Nat → Int32) (gd' : Int32), (¬ mkF B n r 2 td fa 1 = 0 → mkP B n r 2 td fa pl 1 < (nI (tF B n (ps B n r 2)))) → post 1 (nI (tN B n (ps B n r 2))) (nI (tF B n (ps B n r 2))) (sI (tK B n (ps B n r 2))) va' wd' wr (mkF B n r 2 td fa 1) (mkP B n r 2 td fa pl 1) (lD 2 (gd B n r 2 1) (tV B n (ps B n r 1)) (tV B n (ps B n r 2)) (tV B n (ps B n r 3)) td) rd' (lH 2 (tV B n (ps B n r 1)) (tV B n (ps B n r 2)) fh) gd') : q_m_bitLine_0 tp (nI (tN B n (ps B n r 1))) (nI n) (nI (tF B n (ps B n r 1))) (sI (tK B n (ps B n r 1))) va wd wr (mkF B n r 2 td fa 0) (mkP B n r 2 td fa pl 0) td rd fh 1 3 post := by
  refine e_takeHut (k := 1) (i := 0) (c := cW 2 0 (tV B n (ps B n r 1)) (tV B n (ps B n r 1))) (g := gd B n r 2 0) hn hr hB hb hv hlp (by omega) rfl (fun hk => zi (hF 1 (by omega) (by omega) hk (be1 (P := fun j => tK B n (ps B n r j) = 2)) _ _ _ _ _ _ _ _ _ _ _)) (fun k1 va1 wd1 hv1 hl1 => io ?_)
  have g := hT (al1 (P := fun j => tK B n (ps B n r j) = 2) k1) va1 wd1 (upd rd 0 (tV B n (ps B n r 1))) (gI (gd B n r 2 1)) hl1
  rw [show lD 2 (gd B n r 2 1) (tV B n (ps B n r 1)) (tV B n (ps B n r 2)) (tV B n (ps B n r 3)) td = upd td 3 (td 3 ||| (if gd B n r 2 1 = true then 1 <<< ((tV B n (ps B n r 1)) &&& 31) else 0)) from rfl] at g
  refine ⟨vp_in_nI (n := 3) (by decide) (by decide), fun h => ?_, fun h => ?_⟩
  · have hg : ¬ gd B n r 2 1 = true := fun h9 => by
      have h8 : gI (gd B n r 2 1) = 0 := h
      rw [h9] at h8
      exact absurd h8 (by decide)
    rw [if_neg hg] at g
    intro v e
    refine ⟨vp_in_nI (n := 3) (by decide) (by decide), fun t2 e2 => ?_⟩
    rw [e2, e]
    exact g
  · have hg : gd B n r 2 1 = true := by
      cases hh : gd B n r 2 1 with
      | true => rfl
      | false =>
        have h8 : ¬ gI (gd B n r 2 1) = 0 := h
        rw [hh] at h8
        exact absurd rfl h8
    rw [if_pos hg] at g
    rw [c_0, up_s]
    intro v e
    refine ⟨vp_in_nI (n := 3) (by decide) (by decide), fun t2 e2 => ?_⟩
    rw [e2, e]
    exact g
theorem gd_c {B : Nat → Int32} {n r w : Nat} : ∀ k, gd B n r w k = true → ∀ j, j < k → cW w j (tV B n (ps B n r 1)) (tV B n (ps B n r (j + 1))) = true
  | 0 => fun _ j hj => absurd hj (by omega)
  | k + 1 => fun h j hj => by
    have h2 : (gd B n r w k && cW w k (tV B n (ps B n r 1)) (tV B n (ps B n r (k + 1)))) = true := h
    rw [Bool.and_eq_true] at h2
    by_cases hjk : j = k
    · subst hjk; exact h2.2
    · exact gd_c k h2.1 j (by omega)
set_option maxRecDepth 20000 in
theorem e_wayLine {tp B rd td : Nat → Int32} {n r : Nat} {va wr fa pl fh : Int32} {wd : Int64} {post : Int32 → Int32 → Int32 → Int32 → Int32 → Int64 → Int32 → Int32 → Int32 → (Nat → Int32) → (Nat → Int32) → Int32 → Int32 → Prop} (hn : n ≤ 600) (hr : r ≤ n) (hB : ∀ j, j < n → tp j = B j) (hb : ∀ j, iv (-128) 127 (B j)) (hv : tK B n (ps B n r 1) = 2 → va = (tV B n (ps B n r 1))) (hlp : ¬ mkF B n r 5 td fa 0 = 0 → mkP B n r 5 td fa pl 0 < (nI (tF B n (ps B n r 1)))) 
    (hF : ∀ j, 1 ≤ j → j ≤ 3 → ¬ tK B n (ps B n r j) = 2 → (∀ i, 1 ≤ i → i < j → tK B n (ps B n r i) = 2) → ∀ (re be so va : Int32) (wd : Int64) (lf lp : Int32) (td rd : Nat → Int32) (fh : Int32) (gd : Int32), post 0 re be so va wd (nI (tF B n (ps B n r j))) lf lp td rd fh gd)
    (hT : (∀ j, 1 ≤ j → j ≤ 3 → tK B n (ps B n r j) = 2) → ∀ (va' : Int32) (wd' : Int64) (rd' : Nat → Int32) (gd' : Int32), (¬ mkF B n r 5 td fa 3 = 0 → mkP B n r 5 td fa pl 3 < (nI (tF B n (ps B n r 4)))) → post 1 (nI (tN B n (ps B n r 4))) (nI (tF B n (ps B n r 4))) (sI (tK B n (ps B n r 4))) va' wd' wr (mkF B n r 5 td fa 3) (mkP B n r 5 td fa pl 3) (lD 5 (gd B n r 5 3) (tV B n (ps B n r 1)) (tV B n (ps B n r 2)) (tV B n (ps B n r 3)) td) rd' (lH 5 (tV B n (ps B n r 1)) (tV B n (ps B n r 2)) fh) gd') : q_m_wayLine_0 tp (nI (tN B n (ps B n r 1))) (nI n) (nI (tF B n (ps B n r 1))) (sI (tK B n (ps B n r 1))) va wd wr (mkF B n r 5 td fa 0) (mkP B n r 5 td fa pl 0) td rd fh 1 post := by
  refine e_takeHut (k := 1) (i := 0) (c := cW 5 0 (tV B n (ps B n r 1)) (tV B n (ps B n r 1))) (g := gd B n r 5 0) hn hr hB hb hv hlp (by omega) rfl (fun hk => iz (hF 1 (by omega) (by omega) hk (be1 (P := fun j => tK B n (ps B n r j) = 2)) _ _ _ _ _ _ _ _ _ _ _)) (fun k1 va1 wd1 hv1 hl1 => oi ?_)
  refine e_takeHut (k := 2) (i := 1) (c := cW 5 1 (tV B n (ps B n r 1)) (tV B n (ps B n r 2))) (g := gd B n r 5 1) hn hr hB hb hv1 hl1 (by omega) (by rw [c_0, up_s]; rfl) (fun hk => iz (hF 2 (by omega) (by omega) hk (be2 (P := fun j => tK B n (ps B n r j) = 2) k1) _ _ _ _ _ _ _ _ _ _ _)) (fun k2 va2 wd2 hv2 hl2 => oi ?_)
  refine e_take (k := 3) (i := 2) (c := cW 5 2 (tV B n (ps B n r 1)) (tV B n (ps B n r 3))) (g := gd B n r 5 2) hn hr hB hb hv2 hl2 (by omega) rfl (fun hk => zi (hF 3 (by omega) (by omega) hk (be3 (P := fun j => tK B n (ps B n r j) = 2) k1 k2) _ _ _ _ _ _ _ _ _ _ _)) (fun k3 va3 wd3 hv3 hl3 => io ?_)
  have hgt : ¬ gI (gd B n r 5 3) = 0 → gd B n r 5 3 = true := fun h => by
    cases hh : gd B n r 5 3 with
    | true => rfl
    | false => rw [hh] at h; exact absurd rfl h
  have hgf : gI (gd B n r 5 3) = 0 → ¬ gd B n r 5 3 = true := fun h h9 => by
    rw [h9] at h
    exact absurd h (by decide)
  have g := hT (al3 (P := fun j => tK B n (ps B n r j) = 2) k1 k2 k3) va3 wd3 (upd (upd (upd rd 0 (tV B n (ps B n r 1))) 1 (tV B n (ps B n r 2))) 2 (tV B n (ps B n r 3))) (gI (gd B n r 5 3)) hl3
  rw [show lD 5 (gd B n r 5 3) (tV B n (ps B n r 1)) (tV B n (ps B n r 2)) (tV B n (ps B n r 3)) td = (if gd B n r 5 3 = true then upd (upd td (Int32.toNatClampNeg ((51 + 9 * (tV B n (ps B n r 1))) + (tV B n (ps B n r 2)))) (tV B n (ps B n r 3))) (Int32.toNatClampNeg ((51 + 9 * (tV B n (ps B n r 2))) + (tV B n (ps B n r 1)))) (tV B n (ps B n r 3)) else td) from rfl] at g
  have r0 : (upd (upd (upd rd 0 (tV B n (ps B n r 1))) 1 (tV B n (ps B n r 2))) 2 (tV B n (ps B n r 3))) 0 = (tV B n (ps B n r 1)) := by rw [up_n (by omega), up_n (by omega), up_s]
  have r1 : (upd (upd (upd rd 0 (tV B n (ps B n r 1))) 1 (tV B n (ps B n r 2))) 2 (tV B n (ps B n r 3))) 1 = (tV B n (ps B n r 2)) := by rw [up_n (by omega), up_s]
  have r2 : (upd (upd (upd rd 0 (tV B n (ps B n r 1))) 1 (tV B n (ps B n r 2))) 2 (tV B n (ps B n r 3))) 2 = (tV B n (ps B n r 3)) := up_s
  refine ⟨fun h => ?_, fun h => ?_⟩
  · rw [if_neg (hgf h)] at g; exact g
  · have hg := hgt h
    rw [if_pos hg] at g
    rw [c_0, c_1, c_2, r0, r1, r2]
    have i1 : iv 0 8 (tV B n (ps B n r 1)) := iv_w (cW_iv (gd_c 3 hg 0 (by omega))) (by decide +kernel)
    have i2 : iv 0 8 (tV B n (ps B n r 2)) := iv_w (cW_iv (gd_c 3 hg 1 (by omega))) (by decide +kernel)
    have m1 : iv 0 72 (9 * (tV B n (ps B n r 1))) := iv_mul (l := 0) (h := 72) (iv_lit (x := 9) (l := 9) (h := 9) (by decide)) i1 (by decide)
    have m2 : iv 0 72 (9 * (tV B n (ps B n r 2))) := iv_mul (l := 0) (h := 72) (iv_lit (x := 9) (l := 9) (h := 9) (by decide)) i2 (by decide)
    have s1 : iv 51 131 ((51 + 9 * (tV B n (ps B n r 1))) + (tV B n (ps B n r 2))) := iv_add (l := 51) (h := 131) (iv_add (l := 51) (h := 123) (iv_lit (x := 51) (l := 51) (h := 51) (by decide)) m1 (by decide)) i2 (by decide)
    have s2 : iv 51 131 ((51 + 9 * (tV B n (ps B n r 2))) + (tV B n (ps B n r 1))) := iv_add (l := 51) (h := 131) (iv_add (l := 51) (h := 123) (iv_lit (x := 51) (l := 51) (h := 51) (by decide)) m2 (by decide)) i1 (by decide)
    refine fun v e => ⟨iv_in s1 (by decide), fun t1 e1 v2 e2 => ⟨iv_in s2 (by decide), fun t2 e3 => ?_⟩⟩
    rw [e3, e2, e1, e]
    exact g
set_option maxRecDepth 20000 in
theorem e_echoLine {tp B rd td : Nat → Int32} {n r : Nat} {va wr fa pl fh : Int32} {wd : Int64} {post : Int32 → Int32 → Int32 → Int32 → Int32 → Int64 → Int32 → Int32 → Int32 → (Nat → Int32) → (Nat → Int32) → Int32 → Int32 → Prop} (hn : n ≤ 600) (hr : r ≤ n) (hB : ∀ j, j < n → tp j = B j) (hb : ∀ j, iv (-128) 127 (B j)) (hv : tK B n (ps B n r 1) = 2 → va = (tV B n (ps B n r 1))) (hlp : ¬ mkF B n r 6 td fa 0 = 0 → mkP B n r 6 td fa pl 0 < (nI (tF B n (ps B n r 1)))) (hC : iv 0 4 (td 4))
    (hF : ∀ j, 1 ≤ j → j ≤ 2 → ¬ tK B n (ps B n r j) = 2 → (∀ i, 1 ≤ i → i < j → tK B n (ps B n r i) = 2) → ∀ (re be so va : Int32) (wd : Int64) (lf lp : Int32) (td rd : Nat → Int32) (fh : Int32) (gd : Int32), post 0 re be so va wd (nI (tF B n (ps B n r j))) lf lp td rd fh gd)
    (hT : (∀ j, 1 ≤ j → j ≤ 2 → tK B n (ps B n r j) = 2) → ∀ (va' : Int32) (wd' : Int64) (rd' : Nat → Int32) (gd' : Int32), (¬ mkF B n r 6 td fa 2 = 0 → mkP B n r 6 td fa pl 2 < (nI (tF B n (ps B n r 3)))) → post 1 (nI (tN B n (ps B n r 3))) (nI (tF B n (ps B n r 3))) (sI (tK B n (ps B n r 3))) va' wd' wr (mkF B n r 6 td fa 2) (mkP B n r 6 td fa pl 2) (lD 6 (gd B n r 6 2) (tV B n (ps B n r 1)) (tV B n (ps B n r 2)) (tV B n (ps B n r 3)) td) rd' (lH 6 (tV B n (ps B n r 1)) (tV B n (ps B n r 2)) fh) gd') : q_m_echoLine_0 tp (nI (tN B n (ps B n r 1))) (nI n) (nI (tF B n (ps B n r 1))) (sI (tK B n (ps B n r 1))) va wd wr (mkF B n r 6 td fa 0) (mkP B n r 6 td fa pl 0) td rd fh 1 post := by
  refine e_takeHut (k := 1) (i := 0) (c := cW 6 0 (tV B n (ps B n r 1)) (tV B n (ps B n r 1))) (g := gd B n r 6 0) hn hr hB hb hv hlp (by omega) rfl (fun hk => iz (hF 1 (by omega) (by omega) hk (be1 (P := fun j => tK B n (ps B n r j) = 2)) _ _ _ _ _ _ _ _ _ _ _)) (fun k1 va1 wd1 hv1 hl1 => oi ?_)
  refine e_takeHut (k := 2) (i := 1) (c := cW 6 1 (tV B n (ps B n r 1)) (tV B n (ps B n r 2))) (g := gd B n r 6 1) hn hr hB hb hv1 hl1 (by omega) (by rw [c_0, up_s]; rfl) (fun hk => zi (hF 2 (by omega) (by omega) hk (be2 (P := fun j => tK B n (ps B n r j) = 2) k1) _ _ _ _ _ _ _ _ _ _ _)) (fun k2 va2 wd2 hv2 hl2 => io ?_)
  have r0 : (upd (upd rd 0 (tV B n (ps B n r 1))) 1 (tV B n (ps B n r 2))) 0 = (tV B n (ps B n r 1)) := by rw [up_n (by omega), up_s]
  have r1 : (upd (upd rd 0 (tV B n (ps B n r 1))) 1 (tV B n (ps B n r 2))) 1 = (tV B n (ps B n r 2)) := up_s
  have g := hT (al2 (P := fun j => tK B n (ps B n r j) = 2) k1 k2) va2 wd2 (upd (upd rd 0 (tV B n (ps B n r 1))) 1 (tV B n (ps B n r 2))) (gI (gd B n r 6 2)) hl2
  rw [show lD 6 (gd B n r 6 2) (tV B n (ps B n r 1)) (tV B n (ps B n r 2)) (tV B n (ps B n r 3)) td = (if td 4 = 4 then td else upd (upd (upd td 4 (td 4 + 1)) (Int32.toNatClampNeg (43 + 2 * td 4)) (tV B n (ps B n r 1))) (Int32.toNatClampNeg ((43 + 2 * td 4) + 1)) (tV B n (ps B n r 2))) from rfl] at g
  have m1 : iv 0 8 (2 * td 4) := iv_mul (l := 0) (h := 8) (iv_lit (x := 2) (l := 2) (h := 2) (by decide)) hC (by decide)
  have s1 : iv 43 51 (43 + 2 * td 4) := iv_add (l := 43) (h := 51) (iv_lit (x := 43) (l := 43) (h := 43) (by decide)) m1 (by decide)
  have s2 : iv 44 52 ((43 + 2 * td 4) + 1) := iv_add (l := 44) (h := 52) s1 (iv_lit (x := 1) (l := 1) (h := 1) (by decide)) (by decide)
  refine e_further (c := 4) (by omega) (fun h => ⟨fun _ => ?_, fun h9 => absurd rfl h9⟩) (fun h => ⟨fun h9 => ?_, fun _ v e => ⟨iv_in s1 (by decide), fun t2 e2 v2 e3 => ⟨iv_in s2 (by decide), fun t3 e4 => ?_⟩⟩⟩)
  · rw [if_pos h] at g; exact g
  · have := hC.1
    rw [h9] at this
    exact absurd this (by decide)
  · rw [if_neg h] at g
    rw [c_0, r0] at e
    rw [c_1, r1] at e3
    rw [e4, e3, e2, e]
    exact g
set_option maxRecDepth 20000 in
theorem e_singerLine {tp B rd td : Nat → Int32} {n r : Nat} {va wr fa pl fh : Int32} {wd : Int64} {post : Int32 → Int32 → Int32 → Int32 → Int32 → Int64 → Int32 → Int32 → Int32 → (Nat → Int32) → (Nat → Int32) → Int32 → Int32 → Prop} (hn : n ≤ 600) (hr : r ≤ n) (hB : ∀ j, j < n → tp j = B j) (hb : ∀ j, iv (-128) 127 (B j)) (hv : tK B n (ps B n r 1) = 2 → va = (tV B n (ps B n r 1))) (hlp : ¬ mkF B n r 8 td fa 0 = 0 → mkP B n r 8 td fa pl 0 < (nI (tF B n (ps B n r 1)))) (hC : iv 0 6 (td 1))
    (hF : ∀ j, 1 ≤ j → j ≤ 2 → ¬ tK B n (ps B n r j) = 2 → (∀ i, 1 ≤ i → i < j → tK B n (ps B n r i) = 2) → ∀ (re be so va : Int32) (wd : Int64) (lf lp : Int32) (td rd : Nat → Int32) (fh : Int32) (gd : Int32), post 0 re be so va wd (nI (tF B n (ps B n r j))) lf lp td rd fh gd)
    (hT : (∀ j, 1 ≤ j → j ≤ 2 → tK B n (ps B n r j) = 2) → ∀ (va' : Int32) (wd' : Int64) (rd' : Nat → Int32) (gd' : Int32), (¬ mkF B n r 8 td fa 2 = 0 → mkP B n r 8 td fa pl 2 < (nI (tF B n (ps B n r 3)))) → post 1 (nI (tN B n (ps B n r 3))) (nI (tF B n (ps B n r 3))) (sI (tK B n (ps B n r 3))) va' wd' wr (mkF B n r 8 td fa 2) (mkP B n r 8 td fa pl 2) (lD 8 (gd B n r 8 2) (tV B n (ps B n r 1)) (tV B n (ps B n r 2)) (tV B n (ps B n r 3)) td) rd' (lH 8 (tV B n (ps B n r 1)) (tV B n (ps B n r 2)) fh) gd') : q_m_singerLine_0 tp (nI (tN B n (ps B n r 1))) (nI n) (nI (tF B n (ps B n r 1))) (sI (tK B n (ps B n r 1))) va wd wr (mkF B n r 8 td fa 0) (mkP B n r 8 td fa pl 0) td rd fh 1 post := by
  refine e_takeHut (k := 1) (i := 0) (c := cW 8 0 (tV B n (ps B n r 1)) (tV B n (ps B n r 1))) (g := gd B n r 8 0) hn hr hB hb hv hlp (by omega) rfl (fun hk => iz (hF 1 (by omega) (by omega) hk (be1 (P := fun j => tK B n (ps B n r j) = 2)) _ _ _ _ _ _ _ _ _ _ _)) (fun k1 va1 wd1 hv1 hl1 => oi ?_)
  refine e_take (k := 2) (i := 1) (c := cW 8 1 (tV B n (ps B n r 1)) (tV B n (ps B n r 2))) (g := gd B n r 8 1) hn hr hB hb hv1 hl1 (by omega) rfl (fun hk => zi (hF 2 (by omega) (by omega) hk (be2 (P := fun j => tK B n (ps B n r j) = 2) k1) _ _ _ _ _ _ _ _ _ _ _)) (fun k2 va2 wd2 hv2 hl2 => io ?_)
  have r0 : (upd (upd rd 0 (tV B n (ps B n r 1))) 1 (tV B n (ps B n r 2))) 0 = (tV B n (ps B n r 1)) := by rw [up_n (by omega), up_s]
  have r1 : (upd (upd rd 0 (tV B n (ps B n r 1))) 1 (tV B n (ps B n r 2))) 1 = (tV B n (ps B n r 2)) := up_s
  have g := hT (al2 (P := fun j => tK B n (ps B n r j) = 2) k1 k2) va2 wd2 (upd (upd rd 0 (tV B n (ps B n r 1))) 1 (tV B n (ps B n r 2))) (gI (gd B n r 8 2)) hl2
  rw [show lD 8 (gd B n r 8 2) (tV B n (ps B n r 1)) (tV B n (ps B n r 2)) (tV B n (ps B n r 3)) td = (if td 1 = 6 then td else upd (upd (upd td 1 (td 1 + 1)) (Int32.toNatClampNeg (25 + td 1)) (tV B n (ps B n r 1))) (Int32.toNatClampNeg (31 + td 1)) (tV B n (ps B n r 2))) from rfl] at g
  have s1 : iv 25 31 (25 + td 1) := iv_add (l := 25) (h := 31) (iv_lit (x := 25) (l := 25) (h := 25) (by decide)) hC (by decide)
  have s2 : iv 31 37 (31 + td 1) := iv_add (l := 31) (h := 37) (iv_lit (x := 31) (l := 31) (h := 31) (by decide)) hC (by decide)
  refine e_further (c := 1) (by omega) (fun h => ⟨fun _ => ?_, fun h9 => absurd rfl h9⟩) (fun h => ⟨fun h9 => ?_, fun _ v e => ⟨iv_in s1 (by decide), fun t2 e2 v2 e3 => ⟨iv_in s2 (by decide), fun t3 e4 => ?_⟩⟩⟩)
  · rw [if_pos h] at g; exact g
  · have := hC.1
    rw [h9] at this
    exact absurd this (by decide)
  · rw [if_neg h] at g
    rw [c_0, r0] at e
    rw [c_1, r1] at e3
    rw [e4, e3, e2, e]
    exact g
set_option maxRecDepth 20000 in
theorem e_ladderLine {tp B rd td : Nat → Int32} {n r : Nat} {va wr fa pl fh : Int32} {wd : Int64} {post : Int32 → Int32 → Int32 → Int32 → Int32 → Int64 → Int32 → Int32 → Int32 → (Nat → Int32) → (Nat → Int32) → Int32 → Int32 → Prop} (hn : n ≤ 600) (hr : r ≤ n) (hB : ∀ j, j < n → tp j = B j) (hb : ∀ j, iv (-128) 127 (B j)) (hv : tK B n (ps B n r 1) = 2 → va = (tV B n (ps B n r 1))) (hlp : ¬ mkF B n r 7 td fa 0 = 0 → mkP B n r 7 td fa pl 0 < (nI (tF B n (ps B n r 1)))) 
    (hF : ∀ j, 1 ≤ j → j ≤ 2 → ¬ tK B n (ps B n r j) = 2 → (∀ i, 1 ≤ i → i < j → tK B n (ps B n r i) = 2) → ∀ (re be so va : Int32) (wd : Int64) (lf lp : Int32) (td rd : Nat → Int32) (fh : Int32) (gd : Int32), post 0 re be so va wd (nI (tF B n (ps B n r j))) lf lp td rd fh gd)
    (hT : (∀ j, 1 ≤ j → j ≤ 2 → tK B n (ps B n r j) = 2) → ∀ (va' : Int32) (wd' : Int64) (rd' : Nat → Int32) (gd' : Int32), (¬ mkF B n r 7 td fa 2 = 0 → mkP B n r 7 td fa pl 2 < (nI (tF B n (ps B n r 3)))) → post 1 (nI (tN B n (ps B n r 3))) (nI (tF B n (ps B n r 3))) (sI (tK B n (ps B n r 3))) va' wd' wr (mkF B n r 7 td fa 2) (mkP B n r 7 td fa pl 2) (lD 7 (gd B n r 7 2) (tV B n (ps B n r 1)) (tV B n (ps B n r 2)) (tV B n (ps B n r 3)) td) rd' (lH 7 (tV B n (ps B n r 1)) (tV B n (ps B n r 2)) fh) gd') : q_m_ladderLine_0 tp (nI (tN B n (ps B n r 1))) (nI n) (nI (tF B n (ps B n r 1))) (sI (tK B n (ps B n r 1))) va wd wr (mkF B n r 7 td fa 0) (mkP B n r 7 td fa pl 0) td rd fh 1 post := by
  refine e_takeHut (k := 1) (i := 0) (c := cW 7 0 (tV B n (ps B n r 1)) (tV B n (ps B n r 1))) (g := gd B n r 7 0) hn hr hB hb hv hlp (by omega) rfl (fun hk => iz (hF 1 (by omega) (by omega) hk (be1 (P := fun j => tK B n (ps B n r j) = 2)) _ _ _ _ _ _ _ _ _ _ _)) (fun k1 va1 wd1 hv1 hl1 => oi ?_)
  refine e_take (k := 2) (i := 1) (c := cW 7 1 (tV B n (ps B n r 1)) (tV B n (ps B n r 2))) (g := gd B n r 7 1) hn hr hB hb hv1 hl1 (by omega) rfl (fun hk => zi (hF 2 (by omega) (by omega) hk (be2 (P := fun j => tK B n (ps B n r j) = 2) k1) _ _ _ _ _ _ _ _ _ _ _)) (fun k2 va2 wd2 hv2 hl2 => io ?_)
  have r0 : (upd (upd rd 0 (tV B n (ps B n r 1))) 1 (tV B n (ps B n r 2))) 0 = (tV B n (ps B n r 1)) := by rw [up_n (by omega), up_s]
  have r1 : (upd (upd rd 0 (tV B n (ps B n r 1))) 1 (tV B n (ps B n r 2))) 1 = (tV B n (ps B n r 2)) := up_s
  have hgt : ¬ gI (gd B n r 7 2) = 0 → gd B n r 7 2 = true := fun h => by
    cases hh : gd B n r 7 2 with
    | true => rfl
    | false => rw [hh] at h; exact absurd rfl h
  have hgf : gI (gd B n r 7 2) = 0 → ¬ gd B n r 7 2 = true := fun h h9 => by
    rw [h9] at h
    exact absurd h (by decide)
  have g := hT (al2 (P := fun j => tK B n (ps B n r j) = 2) k1 k2) va2 wd2 (upd (upd rd 0 (tV B n (ps B n r 1))) 1 (tV B n (ps B n r 2))) (gI (gd B n r 7 2)) hl2
  rw [show lD 7 (gd B n r 7 2) (tV B n (ps B n r 1)) (tV B n (ps B n r 2)) (tV B n (ps B n r 3)) td = (if gd B n r 7 2 = true then upd td (Int32.toNatClampNeg (16 + (tV B n (ps B n r 1)))) (tV B n (ps B n r 2)) else td) from rfl] at g
  refine ⟨fun h => ?_, fun h => ?_⟩
  · rw [if_neg (hgf h)] at g; exact g
  · have hg := hgt h
    rw [if_pos hg] at g
    rw [c_0, c_1, r0, r1]
    have i1 : iv 0 8 (tV B n (ps B n r 1)) := iv_w (cW_iv (gd_c 2 hg 0 (by omega))) (by decide +kernel)
    refine fun v e => ⟨iv_in (iv_add (l := 16) (h := 24) (iv_lit (x := 16) (l := 16) (h := 16) (by decide)) i1 (by decide)) (by decide), fun t1 e1 => ?_⟩
    rw [e1, e]
    exact g
set_option maxRecDepth 20000 in
theorem e_knowsLine {tp B rd td : Nat → Int32} {n r : Nat} {va wr fa pl fs : Int32} {wd : Int64} {post : Int32 → Int32 → Int32 → Int32 → Int32 → Int64 → Int32 → Int32 → Int32 → (Nat → Int32) → (Nat → Int32) → Int32 → Int32 → Prop} (hn : n ≤ 600) (hr : r ≤ n) (hB : ∀ j, j < n → tp j = B j) (hb : ∀ j, iv (-128) 127 (B j)) (hv : tK B n (ps B n r 1) = 2 → va = (tV B n (ps B n r 1))) (hlp : ¬ mkF B n r 9 td fa 0 = 0 → mkP B n r 9 td fa pl 0 < (nI (tF B n (ps B n r 1)))) 
    (hF : ∀ j, 1 ≤ j → j ≤ 2 → ¬ tK B n (ps B n r j) = 2 → (∀ i, 1 ≤ i → i < j → tK B n (ps B n r i) = 2) → ∀ (re be so va : Int32) (wd : Int64) (lf lp : Int32) (td rd : Nat → Int32) (fs : Int32) (gd : Int32), post 0 re be so va wd (nI (tF B n (ps B n r j))) lf lp td rd fs gd)
    (hT : (∀ j, 1 ≤ j → j ≤ 2 → tK B n (ps B n r j) = 2) → ∀ (va' : Int32) (wd' : Int64) (rd' : Nat → Int32) (gd' : Int32), (¬ mkF B n r 9 td fa 2 = 0 → mkP B n r 9 td fa pl 2 < (nI (tF B n (ps B n r 3)))) → post 1 (nI (tN B n (ps B n r 3))) (nI (tF B n (ps B n r 3))) (sI (tK B n (ps B n r 3))) va' wd' wr (mkF B n r 9 td fa 2) (mkP B n r 9 td fa pl 2) (lD 9 (gd B n r 9 2) (tV B n (ps B n r 1)) (tV B n (ps B n r 2)) (tV B n (ps B n r 3)) td) rd' (lS 9 (tV B n (ps B n r 1)) fs) gd') : q_m_knowsLine_0 tp (nI (tN B n (ps B n r 1))) (nI n) (nI (tF B n (ps B n r 1))) (sI (tK B n (ps B n r 1))) va wd wr (mkF B n r 9 td fa 0) (mkP B n r 9 td fa pl 0) td rd fs 1 post := by
  refine e_take (k := 1) (i := 0) (c := cW 9 0 (tV B n (ps B n r 1)) (tV B n (ps B n r 1))) (g := gd B n r 9 0) hn hr hB hb hv hlp (by omega) rfl (fun hk => iz (hF 1 (by omega) (by omega) hk (be1 (P := fun j => tK B n (ps B n r j) = 2)) _ _ _ _ _ _ _ _ _ _ _)) (fun k1 va1 wd1 hv1 hl1 => oi ?_)
  refine e_take (k := 2) (i := 1) (c := cW 9 1 (tV B n (ps B n r 1)) (tV B n (ps B n r 2))) (g := gd B n r 9 1) hn hr hB hb hv1 hl1 (by omega) rfl (fun hk => zi (hF 2 (by omega) (by omega) hk (be2 (P := fun j => tK B n (ps B n r j) = 2) k1) _ _ _ _ _ _ _ _ _ _ _)) (fun k2 va2 wd2 hv2 hl2 => io ?_)
  have r0 : (upd (upd rd 0 (tV B n (ps B n r 1))) 1 (tV B n (ps B n r 2))) 0 = (tV B n (ps B n r 1)) := by rw [up_n (by omega), up_s]
  have r1 : (upd (upd rd 0 (tV B n (ps B n r 1))) 1 (tV B n (ps B n r 2))) 1 = (tV B n (ps B n r 2)) := up_s
  have hgt : ¬ gI (gd B n r 9 2) = 0 → gd B n r 9 2 = true := fun h => by
    cases hh : gd B n r 9 2 with
    | true => rfl
    | false => rw [hh] at h; exact absurd rfl h
  have hgf : gI (gd B n r 9 2) = 0 → ¬ gd B n r 9 2 = true := fun h h9 => by
    rw [h9] at h
    exact absurd h (by decide)
  have g := hT (al2 (P := fun j => tK B n (ps B n r j) = 2) k1 k2) va2 wd2 (upd (upd rd 0 (tV B n (ps B n r 1))) 1 (tV B n (ps B n r 2))) (gI (gd B n r 9 2)) hl2
  rw [show lD 9 (gd B n r 9 2) (tV B n (ps B n r 1)) (tV B n (ps B n r 2)) (tV B n (ps B n r 3)) td = (if gd B n r 9 2 = true then upd td (Int32.toNatClampNeg (37 + (tV B n (ps B n r 1)))) (td (Int32.toNatClampNeg (37 + (tV B n (ps B n r 1)))) ||| 1 <<< ((tV B n (ps B n r 2)) &&& 31)) else td) from rfl] at g
  rw [c_0, c_1, r0, r1]
  refine e_greater ⟨fun h => ?_, fun h => ?_⟩
  · rw [if_neg (hgf h)] at g; exact g
  · have hg := hgt h
    rw [if_pos hg] at g
    have i1 : iv 0 5 (tV B n (ps B n r 1)) := iv_w (cW_iv (gd_c 2 hg 0 (by omega))) (by decide +kernel)
    have hin := iv_in (n := 132) (iv_add (l := 37) (h := 42) (iv_lit (x := 37) (l := 37) (h := 37) (by decide)) i1 (by decide)) (by decide)
    refine ⟨hin, fun v e => ⟨hin, fun t1 e1 => ?_⟩⟩
    rw [e1, e]
    exact g
end
section
set_option maxRecDepth 20000 in
theorem e_land_0 {tp B rd td : Nat → Int32} {n r : Nat} {va wr fa pl fh fs : Int32} {wd : Int64} {post : Int32 → Int32 → Int32 → Int32 → Int32 → Int64 → Int32 → Int32 → Int32 → (Nat → Int32) → (Nat → Int32) → Int32 → Int32 → Int32 → Prop} (hn : n ≤ 600) (hr : r ≤ n) (hB : ∀ j, j < n → tp j = B j) (hb : ∀ j, iv (-128) 127 (B j)) (hlp : ¬ fa = 0 → pl < (nI (tF B n r))) (hK0 : ¬ tK B n r = 0) (hC : CB 0 td)
    (hF : ∀ j, 1 ≤ j → j ≤ 1 → ¬ tK B n (ps B n r j) = 2 → (∀ i, 1 ≤ i → i < j → tK B n (ps B n r i) = 2) → ∀ (re be so va : Int32) (wd : Int64) (lf lp : Int32) (td rd : Nat → Int32) (fh fs : Int32) (gd : Int32), post 0 re be so va wd (nI (tF B n (ps B n r j))) lf lp td rd fh fs gd)
    (hT : (∀ j, 1 ≤ j → j ≤ 1 → tK B n (ps B n r j) = 2) → ∀ (va' : Int32) (wd' : Int64) (rd' : Nat → Int32) (gd' : Int32), (¬ mkF B n r 0 td fa 1 = 0 → mkP B n r 0 td fa pl 1 < (nI (tF B n (ps B n r 2)))) → post 1 (nI (tN B n (ps B n r 2))) (nI (tF B n (ps B n r 2))) (sI (tK B n (ps B n r 2))) va' wd' wr (mkF B n r 0 td fa 1) (mkP B n r 0 td fa pl 1) (lD 0 (gd B n r 0 1) (tV B n (ps B n r 1)) (tV B n (ps B n r 2)) (tV B n (ps B n r 3)) td) rd' (lH 0 (tV B n (ps B n r 1)) (tV B n (ps B n r 2)) fh) (lS 0 (tV B n (ps B n r 1)) fs) gd') : q_m_landLine_0 tp (nI (tN B n r)) (nI n) (nI (tF B n r)) (sI (tK B n r)) va wd wr fa pl td rd fh fs 1 (lN 6845812) (nI (tF B n r)) post := by
  have hF1 := tF_nx hr hK0
  have htk := tk_le (B := B) hr
  have hl1 : ¬ mkF B n r 0 td fa 0 = 0 → mkP B n r 0 td fa pl 0 < nI (tF B n (tN B n r)) := LP_n hlp hF1.1 (by omega)
  have st : q_m_landLine_60 tp (nI (tN B n r)) (nI n) (nI (tF B n r)) (sI (tK B n r)) va wd wr (mkF B n r 0 td fa 0) (mkP B n r 0 td fa pl 0) td rd fh fs 1 (lN 6845812) post := by
    refine e_tok (r := tN B n r) hn htk.2.1 hB hb (fun v1 w1 hv1 _ => ?_)
    refine ⟨fun h9 => absurd h9 (by decide +kernel), fun _ => ?_⟩
    exact e_hutLine hn hr hB hb hv1 hl1 hC.1 (fun j a b c d re be so va wd lf lp td rd gd => ⟨rfl, hF j a b c d re be so va wd lf lp td rd fh fs gd⟩) (fun hk va2 wd2 rd2 gd2 hl => ⟨rfl, hT hk va2 wd2 rd2 gd2 hl⟩)
  exact ⟨fun _ => io ⟨fun h9 => absurd h9 (by decide +kernel), fun _ => e_full (c := 0) (b := fu 0 td) (by omega) (by simp [fu]) hlp ⟨fun _ => ⟨fun _ => st, fun h9 => absurd h9 (by decide +kernel)⟩, fun h9 => absurd h9 (by decide +kernel)⟩⟩, fun h9 => absurd h9 (by decide +kernel)⟩
set_option maxRecDepth 20000 in
theorem e_land_1 {tp B rd td : Nat → Int32} {n r : Nat} {va wr fa pl fh fs : Int32} {wd : Int64} {post : Int32 → Int32 → Int32 → Int32 → Int32 → Int64 → Int32 → Int32 → Int32 → (Nat → Int32) → (Nat → Int32) → Int32 → Int32 → Int32 → Prop} (hn : n ≤ 600) (hr : r ≤ n) (hB : ∀ j, j < n → tp j = B j) (hb : ∀ j, iv (-128) 127 (B j)) (hlp : ¬ fa = 0 → pl < (nI (tF B n r))) (hK0 : ¬ tK B n r = 0) (hC : CB 0 td)
    (hF : ∀ j, 1 ≤ j → j ≤ 1 → ¬ tK B n (ps B n r j) = 2 → (∀ i, 1 ≤ i → i < j → tK B n (ps B n r i) = 2) → ∀ (re be so va : Int32) (wd : Int64) (lf lp : Int32) (td rd : Nat → Int32) (fh fs : Int32) (gd : Int32), post 0 re be so va wd (nI (tF B n (ps B n r j))) lf lp td rd fh fs gd)
    (hT : (∀ j, 1 ≤ j → j ≤ 1 → tK B n (ps B n r j) = 2) → ∀ (va' : Int32) (wd' : Int64) (rd' : Nat → Int32) (gd' : Int32), (¬ mkF B n r 1 td fa 1 = 0 → mkP B n r 1 td fa pl 1 < (nI (tF B n (ps B n r 2)))) → post 1 (nI (tN B n (ps B n r 2))) (nI (tF B n (ps B n r 2))) (sI (tK B n (ps B n r 2))) va' wd' wr (mkF B n r 1 td fa 1) (mkP B n r 1 td fa pl 1) (lD 1 (gd B n r 1 1) (tV B n (ps B n r 1)) (tV B n (ps B n r 2)) (tV B n (ps B n r 3)) td) rd' (lH 1 (tV B n (ps B n r 1)) (tV B n (ps B n r 2)) fh) (lS 1 (tV B n (ps B n r 1)) fs) gd') : q_m_landLine_0 tp (nI (tN B n r)) (nI n) (nI (tF B n r)) (sI (tK B n r)) va wd wr fa pl td rd fh fs 1 (lN 33329961647564645) (nI (tF B n r)) post := by
  have hF1 := tF_nx hr hK0
  have htk := tk_le (B := B) hr
  have hl1 : ¬ mkF B n r 1 td fa 0 = 0 → mkP B n r 1 td fa pl 0 < nI (tF B n (tN B n r)) := LP_n hlp hF1.1 (by omega)
  have st : q_m_landLine_60 tp (nI (tN B n r)) (nI n) (nI (tF B n r)) (sI (tK B n r)) va wd wr (mkF B n r 1 td fa 0) (mkP B n r 1 td fa pl 0) td rd fh fs 1 (lN 33329961647564645) post := by
    refine e_tok (r := tN B n r) hn htk.2.1 hB hb (fun v1 w1 hv1 _ => ?_)
    refine ⟨fun _ => ⟨fun _ => ⟨fun h9 => absurd h9 (by decide +kernel), fun _ => ?_⟩, fun h9 => absurd h9 (by decide +kernel)⟩, fun h9 => absurd h9 (by decide +kernel)⟩
    exact e_bitLine_1 hn hr hB hb hv1 hl1 (fun j a b c d re be so va wd lf lp td rd fh gd => ⟨rfl, hF j a b c d re be so va wd lf lp td rd fh fs gd⟩) (fun hk va2 wd2 rd2 gd2 hl => ⟨rfl, hT hk va2 wd2 rd2 gd2 hl⟩)
  have hfu : fu 1 td = false := by simp [fu]
  have e1 : mkF B n r 1 td fa 0 = fa := by show mF (!fu 1 td) fa 3 = fa; rw [hfu]; rfl
  have e2 : mkP B n r 1 td fa pl 0 = pl := by show mP (!fu 1 td) fa pl _ = pl; rw [hfu]; rfl
  rw [e1, e2] at st
  exact ⟨fun h9 => absurd h9 (by decide +kernel), fun _ => ⟨fun _ => io ⟨fun _ => ⟨fun _ => ⟨fun _ => st, fun h9 => absurd h9 (by decide +kernel)⟩, fun h9 => absurd h9 (by decide +kernel)⟩, fun h9 => absurd h9 (by decide +kernel)⟩, fun h9 => absurd h9 (by decide +kernel)⟩⟩
set_option maxRecDepth 20000 in
theorem e_land_2 {tp B rd td : Nat → Int32} {n r : Nat} {va wr fa pl fh fs : Int32} {wd : Int64} {post : Int32 → Int32 → Int32 → Int32 → Int32 → Int64 → Int32 → Int32 → Int32 → (Nat → Int32) → (Nat → Int32) → Int32 → Int32 → Int32 → Prop} (hn : n ≤ 600) (hr : r ≤ n) (hB : ∀ j, j < n → tp j = B j) (hb : ∀ j, iv (-128) 127 (B j)) (hlp : ¬ fa = 0 → pl < (nI (tF B n r))) (hK0 : ¬ tK B n r = 0) (hC : CB 0 td)
    (hF : ∀ j, 1 ≤ j → j ≤ 1 → ¬ tK B n (ps B n r j) = 2 → (∀ i, 1 ≤ i → i < j → tK B n (ps B n r i) = 2) → ∀ (re be so va : Int32) (wd : Int64) (lf lp : Int32) (td rd : Nat → Int32) (fh fs : Int32) (gd : Int32), post 0 re be so va wd (nI (tF B n (ps B n r j))) lf lp td rd fh fs gd)
    (hT : (∀ j, 1 ≤ j → j ≤ 1 → tK B n (ps B n r j) = 2) → ∀ (va' : Int32) (wd' : Int64) (rd' : Nat → Int32) (gd' : Int32), (¬ mkF B n r 2 td fa 1 = 0 → mkP B n r 2 td fa pl 1 < (nI (tF B n (ps B n r 2)))) → post 1 (nI (tN B n (ps B n r 2))) (nI (tF B n (ps B n r 2))) (sI (tK B n (ps B n r 2))) va' wd' wr (mkF B n r 2 td fa 1) (mkP B n r 2 td fa pl 1) (lD 2 (gd B n r 2 1) (tV B n (ps B n r 1)) (tV B n (ps B n r 2)) (tV B n (ps B n r 3)) td) rd' (lH 2 (tV B n (ps B n r 1)) (tV B n (ps B n r 2)) fh) (lS 2 (tV B n (ps B n r 1)) fs) gd') : q_m_landLine_0 tp (nI (tN B n r)) (nI n) (nI (tF B n r)) (sI (tK B n r)) va wd wr fa pl td rd fh fs 1 (lN 6578541) (nI (tF B n r)) post := by
  have hF1 := tF_nx hr hK0
  have htk := tk_le (B := B) hr
  have hl1 : ¬ mkF B n r 2 td fa 0 = 0 → mkP B n r 2 td fa pl 0 < nI (tF B n (tN B n r)) := LP_n hlp hF1.1 (by omega)
  have st : q_m_landLine_60 tp (nI (tN B n r)) (nI n) (nI (tF B n r)) (sI (tK B n r)) va wd wr (mkF B n r 2 td fa 0) (mkP B n r 2 td fa pl 0) td rd fh fs 1 (lN 6578541) post := by
    refine e_tok (r := tN B n r) hn htk.2.1 hB hb (fun v1 w1 hv1 _ => ?_)
    refine ⟨fun _ => ⟨fun h9 => absurd h9 (by decide +kernel), fun _ => ⟨fun h9 => absurd h9 (by decide +kernel), fun _ => ⟨fun _ => ?_, fun h9 => absurd h9 (by decide +kernel)⟩⟩⟩, fun h9 => absurd h9 (by decide +kernel)⟩
    exact e_bitLine_2 hn hr hB hb hv1 hl1 (fun j a b c d re be so va wd lf lp td rd fh gd => ⟨rfl, hF j a b c d re be so va wd lf lp td rd fh fs gd⟩) (fun hk va2 wd2 rd2 gd2 hl => ⟨rfl, hT hk va2 wd2 rd2 gd2 hl⟩)
  have hfu : fu 2 td = false := by simp [fu]
  have e1 : mkF B n r 2 td fa 0 = fa := by show mF (!fu 2 td) fa 3 = fa; rw [hfu]; rfl
  have e2 : mkP B n r 2 td fa pl 0 = pl := by show mP (!fu 2 td) fa pl _ = pl; rw [hfu]; rfl
  rw [e1, e2] at st
  exact ⟨fun h9 => absurd h9 (by decide +kernel), fun _ => ⟨fun h9 => absurd h9 (by decide +kernel), fun _ => ⟨fun _ => io ⟨fun _ => ⟨fun _ => ⟨fun _ => st, fun h9 => absurd h9 (by decide +kernel)⟩, fun h9 => absurd h9 (by decide +kernel)⟩, fun h9 => absurd h9 (by decide +kernel)⟩, fun h9 => absurd h9 (by decide +kernel)⟩⟩⟩
set_option maxRecDepth 20000 in
theorem e_land_3 {tp B rd td : Nat → Int32} {n r : Nat} {va wr fa pl fh fs : Int32} {wd : Int64} {post : Int32 → Int32 → Int32 → Int32 → Int32 → Int64 → Int32 → Int32 → Int32 → (Nat → Int32) → (Nat → Int32) → Int32 → Int32 → Int32 → Prop} (hn : n ≤ 600) (hr : r ≤ n) (hB : ∀ j, j < n → tp j = B j) (hb : ∀ j, iv (-128) 127 (B j)) (hlp : ¬ fa = 0 → pl < (nI (tF B n r))) (hK0 : ¬ tK B n r = 0) (hC : CB 0 td)
    (hF : ∀ j, 1 ≤ j → j ≤ 1 → ¬ tK B n (ps B n r j) = 2 → (∀ i, 1 ≤ i → i < j → tK B n (ps B n r i) = 2) → ∀ (re be so va : Int32) (wd : Int64) (lf lp : Int32) (td rd : Nat → Int32) (fh fs : Int32) (gd : Int32), post 0 re be so va wd (nI (tF B n (ps B n r j))) lf lp td rd fh fs gd)
    (hT : (∀ j, 1 ≤ j → j ≤ 1 → tK B n (ps B n r j) = 2) → ∀ (va' : Int32) (wd' : Int64) (rd' : Nat → Int32) (gd' : Int32), (¬ mkF B n r 3 td fa 1 = 0 → mkP B n r 3 td fa pl 1 < (nI (tF B n (ps B n r 2)))) → post 1 (nI (tN B n (ps B n r 2))) (nI (tF B n (ps B n r 2))) (sI (tK B n (ps B n r 2))) va' wd' wr (mkF B n r 3 td fa 1) (mkP B n r 3 td fa pl 1) (lD 3 (gd B n r 3 1) (tV B n (ps B n r 1)) (tV B n (ps B n r 2)) (tV B n (ps B n r 3)) td) rd' (lH 3 (tV B n (ps B n r 1)) (tV B n (ps B n r 2)) fh) (lS 3 (tV B n (ps B n r 1)) fs) gd') : q_m_landLine_0 tp (nI (tN B n r)) (nI n) (nI (tF B n r)) (sI (tK B n r)) va wd wr fa pl td rd fh fs 1 (lN 1684366704) (nI (tF B n r)) post := by
  have hF1 := tF_nx hr hK0
  have htk := tk_le (B := B) hr
  have hl1 : ¬ mkF B n r 3 td fa 0 = 0 → mkP B n r 3 td fa pl 0 < nI (tF B n (tN B n r)) := LP_n hlp hF1.1 (by omega)
  have st : q_m_landLine_60 tp (nI (tN B n r)) (nI n) (nI (tF B n r)) (sI (tK B n r)) va wd wr (mkF B n r 3 td fa 0) (mkP B n r 3 td fa pl 0) td rd fh fs 1 (lN 1684366704) post := by
    refine e_tok (r := tN B n r) hn htk.2.1 hB hb (fun v1 w1 hv1 _ => ?_)
    refine ⟨fun _ => ⟨fun h9 => absurd h9 (by decide +kernel), fun _ => ⟨fun _ => ⟨fun h9 => absurd h9 (by decide +kernel), fun _ => ?_⟩, fun h9 => absurd h9 (by decide +kernel)⟩⟩, fun h9 => absurd h9 (by decide +kernel)⟩
    exact e_plainLine_3 hn hr hB hb hv1 hl1 (fun j a b c d re be so va wd lf lp td rd gd => ⟨rfl, hF j a b c d re be so va wd lf lp td rd fh fs gd⟩) (fun hk va2 wd2 rd2 gd2 hl => ⟨rfl, hT hk va2 wd2 rd2 gd2 hl⟩)
  have hfu : fu 3 td = false := by simp [fu]
  have e1 : mkF B n r 3 td fa 0 = fa := by show mF (!fu 3 td) fa 3 = fa; rw [hfu]; rfl
  have e2 : mkP B n r 3 td fa pl 0 = pl := by show mP (!fu 3 td) fa pl _ = pl; rw [hfu]; rfl
  rw [e1, e2] at st
  exact ⟨fun h9 => absurd h9 (by decide +kernel), fun _ => ⟨fun h9 => absurd h9 (by decide +kernel), fun _ => ⟨fun h9 => absurd h9 (by decide +kernel), fun _ => ⟨fun _ => io ⟨fun _ => ⟨fun _ => ⟨fun _ => st, fun h9 => absurd h9 (by decide +kernel)⟩, fun h9 => absurd h9 (by decide +kernel)⟩, fun h9 => absurd h9 (by decide +kernel)⟩, fun h9 => absurd h9 (by decide +kernel)⟩⟩⟩⟩
set_option maxRecDepth 20000 in
theorem e_land_4 {tp B rd td : Nat → Int32} {n r : Nat} {va wr fa pl fh fs : Int32} {wd : Int64} {post : Int32 → Int32 → Int32 → Int32 → Int32 → Int64 → Int32 → Int32 → Int32 → (Nat → Int32) → (Nat → Int32) → Int32 → Int32 → Int32 → Prop} (hn : n ≤ 600) (hr : r ≤ n) (hB : ∀ j, j < n → tp j = B j) (hb : ∀ j, iv (-128) 127 (B j)) (hlp : ¬ fa = 0 → pl < (nI (tF B n r))) (hK0 : ¬ tK B n r = 0) (hC : CB 0 td)
    (hF : ∀ j, 1 ≤ j → j ≤ 1 → ¬ tK B n (ps B n r j) = 2 → (∀ i, 1 ≤ i → i < j → tK B n (ps B n r i) = 2) → ∀ (re be so va : Int32) (wd : Int64) (lf lp : Int32) (td rd : Nat → Int32) (fh fs : Int32) (gd : Int32), post 0 re be so va wd (nI (tF B n (ps B n r j))) lf lp td rd fh fs gd)
    (hT : (∀ j, 1 ≤ j → j ≤ 1 → tK B n (ps B n r j) = 2) → ∀ (va' : Int32) (wd' : Int64) (rd' : Nat → Int32) (gd' : Int32), (¬ mkF B n r 4 td fa 1 = 0 → mkP B n r 4 td fa pl 1 < (nI (tF B n (ps B n r 2)))) → post 1 (nI (tN B n (ps B n r 2))) (nI (tF B n (ps B n r 2))) (sI (tK B n (ps B n r 2))) va' wd' wr (mkF B n r 4 td fa 1) (mkP B n r 4 td fa pl 1) (lD 4 (gd B n r 4 1) (tV B n (ps B n r 1)) (tV B n (ps B n r 2)) (tV B n (ps B n r 3)) td) rd' (lH 4 (tV B n (ps B n r 1)) (tV B n (ps B n r 2)) fh) (lS 4 (tV B n (ps B n r 1)) fs) gd') : q_m_landLine_0 tp (nI (tN B n r)) (nI n) (nI (tF B n r)) (sI (tK B n r)) va wd wr fa pl td rd fh fs 1 (lN 495740085349) (nI (tF B n r)) post := by
  have hF1 := tF_nx hr hK0
  have htk := tk_le (B := B) hr
  have hl1 : ¬ mkF B n r 4 td fa 0 = 0 → mkP B n r 4 td fa pl 0 < nI (tF B n (tN B n r)) := LP_n hlp hF1.1 (by omega)
  have st : q_m_landLine_60 tp (nI (tN B n r)) (nI n) (nI (tF B n r)) (sI (tK B n r)) va wd wr (mkF B n r 4 td fa 0) (mkP B n r 4 td fa pl 0) td rd fh fs 1 (lN 495740085349) post := by
    refine e_tok (r := tN B n r) hn htk.2.1 hB hb (fun v1 w1 hv1 _ => ?_)
    refine ⟨fun _ => ⟨fun h9 => absurd h9 (by decide +kernel), fun _ => ⟨fun _ => ⟨fun _ => ⟨fun h9 => absurd h9 (by decide +kernel), fun _ => ?_⟩, fun h9 => absurd h9 (by decide +kernel)⟩, fun h9 => absurd h9 (by decide +kernel)⟩⟩, fun h9 => absurd h9 (by decide +kernel)⟩
    exact e_plainLine_4 hn hr hB hb hv1 hl1 (fun j a b c d re be so va wd lf lp td rd gd => ⟨rfl, hF j a b c d re be so va wd lf lp td rd fh fs gd⟩) (fun hk va2 wd2 rd2 gd2 hl => ⟨rfl, hT hk va2 wd2 rd2 gd2 hl⟩)
  have hfu : fu 4 td = false := by simp [fu]
  have e1 : mkF B n r 4 td fa 0 = fa := by show mF (!fu 4 td) fa 3 = fa; rw [hfu]; rfl
  have e2 : mkP B n r 4 td fa pl 0 = pl := by show mP (!fu 4 td) fa pl _ = pl; rw [hfu]; rfl
  rw [e1, e2] at st
  exact ⟨fun h9 => absurd h9 (by decide +kernel), fun _ => ⟨fun h9 => absurd h9 (by decide +kernel), fun _ => ⟨fun h9 => absurd h9 (by decide +kernel), fun _ => ⟨fun h9 => absurd h9 (by decide +kernel), fun _ => ⟨fun _ => io ⟨fun _ => ⟨fun _ => ⟨fun _ => st, fun h9 => absurd h9 (by decide +kernel)⟩, fun h9 => absurd h9 (by decide +kernel)⟩, fun h9 => absurd h9 (by decide +kernel)⟩, fun h9 => absurd h9 (by decide +kernel)⟩⟩⟩⟩⟩
set_option maxRecDepth 20000 in
theorem e_land_5 {tp B rd td : Nat → Int32} {n r : Nat} {va wr fa pl fh fs : Int32} {wd : Int64} {post : Int32 → Int32 → Int32 → Int32 → Int32 → Int64 → Int32 → Int32 → Int32 → (Nat → Int32) → (Nat → Int32) → Int32 → Int32 → Int32 → Prop} (hn : n ≤ 600) (hr : r ≤ n) (hB : ∀ j, j < n → tp j = B j) (hb : ∀ j, iv (-128) 127 (B j)) (hlp : ¬ fa = 0 → pl < (nI (tF B n r))) (hK0 : ¬ tK B n r = 0) (hC : CB 0 td)
    (hF : ∀ j, 1 ≤ j → j ≤ 3 → ¬ tK B n (ps B n r j) = 2 → (∀ i, 1 ≤ i → i < j → tK B n (ps B n r i) = 2) → ∀ (re be so va : Int32) (wd : Int64) (lf lp : Int32) (td rd : Nat → Int32) (fh fs : Int32) (gd : Int32), post 0 re be so va wd (nI (tF B n (ps B n r j))) lf lp td rd fh fs gd)
    (hT : (∀ j, 1 ≤ j → j ≤ 3 → tK B n (ps B n r j) = 2) → ∀ (va' : Int32) (wd' : Int64) (rd' : Nat → Int32) (gd' : Int32), (¬ mkF B n r 5 td fa 3 = 0 → mkP B n r 5 td fa pl 3 < (nI (tF B n (ps B n r 4)))) → post 1 (nI (tN B n (ps B n r 4))) (nI (tF B n (ps B n r 4))) (sI (tK B n (ps B n r 4))) va' wd' wr (mkF B n r 5 td fa 3) (mkP B n r 5 td fa pl 3) (lD 5 (gd B n r 5 3) (tV B n (ps B n r 1)) (tV B n (ps B n r 2)) (tV B n (ps B n r 3)) td) rd' (lH 5 (tV B n (ps B n r 1)) (tV B n (ps B n r 2)) fh) (lS 5 (tV B n (ps B n r 1)) fs) gd') : q_m_landLine_0 tp (nI (tN B n r)) (nI n) (nI (tF B n r)) (sI (tK B n r)) va wd wr fa pl td rd fh fs 1 (lN 7823737) (nI (tF B n r)) post := by
  have hF1 := tF_nx hr hK0
  have htk := tk_le (B := B) hr
  have hl1 : ¬ mkF B n r 5 td fa 0 = 0 → mkP B n r 5 td fa pl 0 < nI (tF B n (tN B n r)) := LP_n hlp hF1.1 (by omega)
  have st : q_m_landLine_60 tp (nI (tN B n r)) (nI n) (nI (tF B n r)) (sI (tK B n r)) va wd wr (mkF B n r 5 td fa 0) (mkP B n r 5 td fa pl 0) td rd fh fs 1 (lN 7823737) post := by
    refine e_tok (r := tN B n r) hn htk.2.1 hB hb (fun v1 w1 hv1 _ => ?_)
    refine ⟨fun _ => ⟨fun h9 => absurd h9 (by decide +kernel), fun _ => ⟨fun _ => ⟨fun _ => ⟨fun _ => ⟨fun h9 => absurd h9 (by decide +kernel), fun _ => ?_⟩, fun h9 => absurd h9 (by decide +kernel)⟩, fun h9 => absurd h9 (by decide +kernel)⟩, fun h9 => absurd h9 (by decide +kernel)⟩⟩, fun h9 => absurd h9 (by decide +kernel)⟩
    exact e_wayLine hn hr hB hb hv1 hl1 (fun j a b c d re be so va wd lf lp td rd fh gd => ⟨rfl, hF j a b c d re be so va wd lf lp td rd fh fs gd⟩) (fun hk va2 wd2 rd2 gd2 hl => ⟨rfl, hT hk va2 wd2 rd2 gd2 hl⟩)
  have hfu : fu 5 td = false := by simp [fu]
  have e1 : mkF B n r 5 td fa 0 = fa := by show mF (!fu 5 td) fa 3 = fa; rw [hfu]; rfl
  have e2 : mkP B n r 5 td fa pl 0 = pl := by show mP (!fu 5 td) fa pl _ = pl; rw [hfu]; rfl
  rw [e1, e2] at st
  exact ⟨fun h9 => absurd h9 (by decide +kernel), fun _ => ⟨fun h9 => absurd h9 (by decide +kernel), fun _ => ⟨fun h9 => absurd h9 (by decide +kernel), fun _ => ⟨fun h9 => absurd h9 (by decide +kernel), fun _ => ⟨fun h9 => absurd h9 (by decide +kernel), fun _ => ⟨fun _ => io ⟨fun _ => ⟨fun _ => ⟨fun _ => st, fun h9 => absurd h9 (by decide +kernel)⟩, fun h9 => absurd h9 (by decide +kernel)⟩, fun h9 => absurd h9 (by decide +kernel)⟩, fun h9 => absurd h9 (by decide +kernel)⟩⟩⟩⟩⟩⟩
set_option maxRecDepth 20000 in
theorem e_land_6 {tp B rd td : Nat → Int32} {n r : Nat} {va wr fa pl fh fs : Int32} {wd : Int64} {post : Int32 → Int32 → Int32 → Int32 → Int32 → Int64 → Int32 → Int32 → Int32 → (Nat → Int32) → (Nat → Int32) → Int32 → Int32 → Int32 → Prop} (hn : n ≤ 600) (hr : r ≤ n) (hB : ∀ j, j < n → tp j = B j) (hb : ∀ j, iv (-128) 127 (B j)) (hlp : ¬ fa = 0 → pl < (nI (tF B n r))) (hK0 : ¬ tK B n r = 0) (hC : CB 0 td)
    (hF : ∀ j, 1 ≤ j → j ≤ 2 → ¬ tK B n (ps B n r j) = 2 → (∀ i, 1 ≤ i → i < j → tK B n (ps B n r i) = 2) → ∀ (re be so va : Int32) (wd : Int64) (lf lp : Int32) (td rd : Nat → Int32) (fh fs : Int32) (gd : Int32), post 0 re be so va wd (nI (tF B n (ps B n r j))) lf lp td rd fh fs gd)
    (hT : (∀ j, 1 ≤ j → j ≤ 2 → tK B n (ps B n r j) = 2) → ∀ (va' : Int32) (wd' : Int64) (rd' : Nat → Int32) (gd' : Int32), (¬ mkF B n r 6 td fa 2 = 0 → mkP B n r 6 td fa pl 2 < (nI (tF B n (ps B n r 3)))) → post 1 (nI (tN B n (ps B n r 3))) (nI (tF B n (ps B n r 3))) (sI (tK B n (ps B n r 3))) va' wd' wr (mkF B n r 6 td fa 2) (mkP B n r 6 td fa pl 2) (lD 6 (gd B n r 6 2) (tV B n (ps B n r 1)) (tV B n (ps B n r 2)) (tV B n (ps B n r 3)) td) rd' (lH 6 (tV B n (ps B n r 1)) (tV B n (ps B n r 2)) fh) (lS 6 (tV B n (ps B n r 1)) fs) gd') : q_m_landLine_0 tp (nI (tN B n r)) (nI n) (nI (tF B n r)) (sI (tK B n r)) va wd wr fa pl td rd fh fs 1 (lN 1701013615) (nI (tF B n r)) post := by
  have hF1 := tF_nx hr hK0
  have htk := tk_le (B := B) hr
  have hl1 : ¬ mkF B n r 6 td fa 0 = 0 → mkP B n r 6 td fa pl 0 < nI (tF B n (tN B n r)) := LP_n hlp hF1.1 (by omega)
  have st : q_m_landLine_60 tp (nI (tN B n r)) (nI n) (nI (tF B n r)) (sI (tK B n r)) va wd wr (mkF B n r 6 td fa 0) (mkP B n r 6 td fa pl 0) td rd fh fs 1 (lN 1701013615) post := by
    refine e_tok (r := tN B n r) hn htk.2.1 hB hb (fun v1 w1 hv1 _ => ?_)
    refine ⟨fun _ => ⟨fun h9 => absurd h9 (by decide +kernel), fun _ => ⟨fun _ => ⟨fun _ => ⟨fun _ => ⟨fun _ => ⟨fun h9 => absurd h9 (by decide +kernel), fun _ => ?_⟩, fun h9 => absurd h9 (by decide +kernel)⟩, fun h9 => absurd h9 (by decide +kernel)⟩, fun h9 => absurd h9 (by decide +kernel)⟩, fun h9 => absurd h9 (by decide +kernel)⟩⟩, fun h9 => absurd h9 (by decide +kernel)⟩
    exact e_echoLine hn hr hB hb hv1 hl1 (hC.2 rfl).2 (fun j a b c d re be so va wd lf lp td rd fh gd => ⟨rfl, hF j a b c d re be so va wd lf lp td rd fh fs gd⟩) (fun hk va2 wd2 rd2 gd2 hl => ⟨rfl, hT hk va2 wd2 rd2 gd2 hl⟩)
  exact ⟨fun h9 => absurd h9 (by decide +kernel), fun _ => ⟨fun h9 => absurd h9 (by decide +kernel), fun _ => ⟨fun h9 => absurd h9 (by decide +kernel), fun _ => ⟨fun h9 => absurd h9 (by decide +kernel), fun _ => ⟨fun h9 => absurd h9 (by decide +kernel), fun _ => ⟨fun h9 => absurd h9 (by decide +kernel), fun _ => ⟨fun _ => io ⟨fun _ => ⟨fun h9 => absurd h9 (by decide +kernel), fun _ => e_full (c := 4) (b := fu 6 td) (by omega) (by simp [fu]) hlp ⟨fun _ => st, fun h9 => absurd h9 (by decide +kernel)⟩⟩, fun h9 => absurd h9 (by decide +kernel)⟩, fun h9 => absurd h9 (by decide +kernel)⟩⟩⟩⟩⟩⟩⟩
set_option maxRecDepth 20000 in
theorem e_land_7 {tp B rd td : Nat → Int32} {n r : Nat} {va wr fa pl fh fs : Int32} {wd : Int64} {post : Int32 → Int32 → Int32 → Int32 → Int32 → Int64 → Int32 → Int32 → Int32 → (Nat → Int32) → (Nat → Int32) → Int32 → Int32 → Int32 → Prop} (hn : n ≤ 600) (hr : r ≤ n) (hB : ∀ j, j < n → tp j = B j) (hb : ∀ j, iv (-128) 127 (B j)) (hlp : ¬ fa = 0 → pl < (nI (tF B n r))) (hK0 : ¬ tK B n r = 0) (hC : CB 0 td)
    (hF : ∀ j, 1 ≤ j → j ≤ 2 → ¬ tK B n (ps B n r j) = 2 → (∀ i, 1 ≤ i → i < j → tK B n (ps B n r i) = 2) → ∀ (re be so va : Int32) (wd : Int64) (lf lp : Int32) (td rd : Nat → Int32) (fh fs : Int32) (gd : Int32), post 0 re be so va wd (nI (tF B n (ps B n r j))) lf lp td rd fh fs gd)
    (hT : (∀ j, 1 ≤ j → j ≤ 2 → tK B n (ps B n r j) = 2) → ∀ (va' : Int32) (wd' : Int64) (rd' : Nat → Int32) (gd' : Int32), (¬ mkF B n r 7 td fa 2 = 0 → mkP B n r 7 td fa pl 2 < (nI (tF B n (ps B n r 3)))) → post 1 (nI (tN B n (ps B n r 3))) (nI (tF B n (ps B n r 3))) (sI (tK B n (ps B n r 3))) va' wd' wr (mkF B n r 7 td fa 2) (mkP B n r 7 td fa pl 2) (lD 7 (gd B n r 7 2) (tV B n (ps B n r 1)) (tV B n (ps B n r 2)) (tV B n (ps B n r 3)) td) rd' (lH 7 (tV B n (ps B n r 1)) (tV B n (ps B n r 2)) fh) (lS 7 (tV B n (ps B n r 1)) fs) gd') : q_m_landLine_0 tp (nI (tN B n r)) (nI n) (nI (tF B n r)) (sI (tK B n r)) va wd wr fa pl td rd fh fs 1 (lN 119165551928690) (nI (tF B n r)) post := by
  have hF1 := tF_nx hr hK0
  have htk := tk_le (B := B) hr
  have hl1 : ¬ mkF B n r 7 td fa 0 = 0 → mkP B n r 7 td fa pl 0 < nI (tF B n (tN B n r)) := LP_n hlp hF1.1 (by omega)
  have st : q_m_landLine_60 tp (nI (tN B n r)) (nI n) (nI (tF B n r)) (sI (tK B n r)) va wd wr (mkF B n r 7 td fa 0) (mkP B n r 7 td fa pl 0) td rd fh fs 1 (lN 119165551928690) post := by
    refine e_tok (r := tN B n r) hn htk.2.1 hB hb (fun v1 w1 hv1 _ => ?_)
    refine ⟨fun _ => ⟨fun h9 => absurd h9 (by decide +kernel), fun _ => ⟨fun _ => ⟨fun _ => ⟨fun _ => ⟨fun _ => ⟨fun _ => ⟨fun h9 => absurd h9 (by decide +kernel), fun _ => ?_⟩, fun h9 => absurd h9 (by decide +kernel)⟩, fun h9 => absurd h9 (by decide +kernel)⟩, fun h9 => absurd h9 (by decide +kernel)⟩, fun h9 => absurd h9 (by decide +kernel)⟩, fun h9 => absurd h9 (by decide +kernel)⟩⟩, fun h9 => absurd h9 (by decide +kernel)⟩
    exact e_ladderLine hn hr hB hb hv1 hl1 (fun j a b c d re be so va wd lf lp td rd fh gd => ⟨rfl, hF j a b c d re be so va wd lf lp td rd fh fs gd⟩) (fun hk va2 wd2 rd2 gd2 hl => ⟨rfl, hT hk va2 wd2 rd2 gd2 hl⟩)
  have hfu : fu 7 td = false := by simp [fu]
  have e1 : mkF B n r 7 td fa 0 = fa := by show mF (!fu 7 td) fa 3 = fa; rw [hfu]; rfl
  have e2 : mkP B n r 7 td fa pl 0 = pl := by show mP (!fu 7 td) fa pl _ = pl; rw [hfu]; rfl
  rw [e1, e2] at st
  exact ⟨fun h9 => absurd h9 (by decide +kernel), fun _ => ⟨fun h9 => absurd h9 (by decide +kernel), fun _ => ⟨fun h9 => absurd h9 (by decide +kernel), fun _ => ⟨fun h9 => absurd h9 (by decide +kernel), fun _ => ⟨fun h9 => absurd h9 (by decide +kernel), fun _ => ⟨fun h9 => absurd h9 (by decide +kernel), fun _ => ⟨fun h9 => absurd h9 (by decide +kernel), fun _ => ⟨fun _ => io ⟨fun _ => ⟨fun _ => ⟨fun _ => st, fun h9 => absurd h9 (by decide +kernel)⟩, fun h9 => absurd h9 (by decide +kernel)⟩, fun h9 => absurd h9 (by decide +kernel)⟩, fun h9 => absurd h9 (by decide +kernel)⟩⟩⟩⟩⟩⟩⟩⟩
set_option maxRecDepth 20000 in
theorem e_land_8 {tp B rd td : Nat → Int32} {n r : Nat} {va wr fa pl fh fs : Int32} {wd : Int64} {post : Int32 → Int32 → Int32 → Int32 → Int32 → Int64 → Int32 → Int32 → Int32 → (Nat → Int32) → (Nat → Int32) → Int32 → Int32 → Int32 → Prop} (hn : n ≤ 600) (hr : r ≤ n) (hB : ∀ j, j < n → tp j = B j) (hb : ∀ j, iv (-128) 127 (B j)) (hlp : ¬ fa = 0 → pl < (nI (tF B n r))) (hK0 : ¬ tK B n r = 0) (hC : CB 0 td)
    (hF : ∀ j, 1 ≤ j → j ≤ 2 → ¬ tK B n (ps B n r j) = 2 → (∀ i, 1 ≤ i → i < j → tK B n (ps B n r i) = 2) → ∀ (re be so va : Int32) (wd : Int64) (lf lp : Int32) (td rd : Nat → Int32) (fh fs : Int32) (gd : Int32), post 0 re be so va wd (nI (tF B n (ps B n r j))) lf lp td rd fh fs gd)
    (hT : (∀ j, 1 ≤ j → j ≤ 2 → tK B n (ps B n r j) = 2) → ∀ (va' : Int32) (wd' : Int64) (rd' : Nat → Int32) (gd' : Int32), (¬ mkF B n r 8 td fa 2 = 0 → mkP B n r 8 td fa pl 2 < (nI (tF B n (ps B n r 3)))) → post 1 (nI (tN B n (ps B n r 3))) (nI (tF B n (ps B n r 3))) (sI (tK B n (ps B n r 3))) va' wd' wr (mkF B n r 8 td fa 2) (mkP B n r 8 td fa pl 2) (lD 8 (gd B n r 8 2) (tV B n (ps B n r 1)) (tV B n (ps B n r 2)) (tV B n (ps B n r 3)) td) rd' (lH 8 (tV B n (ps B n r 1)) (tV B n (ps B n r 2)) fh) (lS 8 (tV B n (ps B n r 1)) fs) gd') : q_m_landLine_0 tp (nI (tN B n r)) (nI n) (nI (tF B n r)) (sI (tK B n r)) va wd wr fa pl td rd fh fs 1 (lN 126896661030258) (nI (tF B n r)) post := by
  have hF1 := tF_nx hr hK0
  have htk := tk_le (B := B) hr
  have hl1 : ¬ mkF B n r 8 td fa 0 = 0 → mkP B n r 8 td fa pl 0 < nI (tF B n (tN B n r)) := LP_n hlp hF1.1 (by omega)
  have st : q_m_landLine_60 tp (nI (tN B n r)) (nI n) (nI (tF B n r)) (sI (tK B n r)) va wd wr (mkF B n r 8 td fa 0) (mkP B n r 8 td fa pl 0) td rd fh fs 1 (lN 126896661030258) post := by
    refine e_tok (r := tN B n r) hn htk.2.1 hB hb (fun v1 w1 hv1 _ => ?_)
    refine ⟨fun _ => ⟨fun h9 => absurd h9 (by decide +kernel), fun _ => ⟨fun _ => ⟨fun _ => ⟨fun _ => ⟨fun _ => ⟨fun _ => ⟨fun _ => ⟨fun h9 => absurd h9 (by decide +kernel), fun _ => ?_⟩, fun h9 => absurd h9 (by decide +kernel)⟩, fun h9 => absurd h9 (by decide +kernel)⟩, fun h9 => absurd h9 (by decide +kernel)⟩, fun h9 => absurd h9 (by decide +kernel)⟩, fun h9 => absurd h9 (by decide +kernel)⟩, fun h9 => absurd h9 (by decide +kernel)⟩⟩, fun h9 => absurd h9 (by decide +kernel)⟩
    exact e_singerLine hn hr hB hb hv1 hl1 (hC.2 rfl).1 (fun j a b c d re be so va wd lf lp td rd fh gd => ⟨rfl, hF j a b c d re be so va wd lf lp td rd fh fs gd⟩) (fun hk va2 wd2 rd2 gd2 hl => ⟨rfl, hT hk va2 wd2 rd2 gd2 hl⟩)
  exact ⟨fun h9 => absurd h9 (by decide +kernel), fun _ => ⟨fun h9 => absurd h9 (by decide +kernel), fun _ => ⟨fun h9 => absurd h9 (by decide +kernel), fun _ => ⟨fun h9 => absurd h9 (by decide +kernel), fun _ => ⟨fun h9 => absurd h9 (by decide +kernel), fun _ => ⟨fun h9 => absurd h9 (by decide +kernel), fun _ => ⟨fun h9 => absurd h9 (by decide +kernel), fun _ => ⟨fun h9 => absurd h9 (by decide +kernel), fun _ => ⟨fun _ => io ⟨fun _ => ⟨fun _ => ⟨fun h9 => absurd h9 (by decide +kernel), fun _ => e_full (c := 1) (b := fu 8 td) (by omega) (by simp [fu]) hlp st⟩, fun h9 => absurd h9 (by decide +kernel)⟩, fun h9 => absurd h9 (by decide +kernel)⟩, fun h9 => absurd h9 (by decide +kernel)⟩⟩⟩⟩⟩⟩⟩⟩⟩
set_option maxRecDepth 20000 in
theorem e_land_9 {tp B rd td : Nat → Int32} {n r : Nat} {va wr fa pl fh fs : Int32} {wd : Int64} {post : Int32 → Int32 → Int32 → Int32 → Int32 → Int64 → Int32 → Int32 → Int32 → (Nat → Int32) → (Nat → Int32) → Int32 → Int32 → Int32 → Prop} (hn : n ≤ 600) (hr : r ≤ n) (hB : ∀ j, j < n → tp j = B j) (hb : ∀ j, iv (-128) 127 (B j)) (hlp : ¬ fa = 0 → pl < (nI (tF B n r))) (hK0 : ¬ tK B n r = 0) (hC : CB 0 td)
    (hF : ∀ j, 1 ≤ j → j ≤ 2 → ¬ tK B n (ps B n r j) = 2 → (∀ i, 1 ≤ i → i < j → tK B n (ps B n r i) = 2) → ∀ (re be so va : Int32) (wd : Int64) (lf lp : Int32) (td rd : Nat → Int32) (fh fs : Int32) (gd : Int32), post 0 re be so va wd (nI (tF B n (ps B n r j))) lf lp td rd fh fs gd)
    (hT : (∀ j, 1 ≤ j → j ≤ 2 → tK B n (ps B n r j) = 2) → ∀ (va' : Int32) (wd' : Int64) (rd' : Nat → Int32) (gd' : Int32), (¬ mkF B n r 9 td fa 2 = 0 → mkP B n r 9 td fa pl 2 < (nI (tF B n (ps B n r 3)))) → post 1 (nI (tN B n (ps B n r 3))) (nI (tF B n (ps B n r 3))) (sI (tK B n (ps B n r 3))) va' wd' wr (mkF B n r 9 td fa 2) (mkP B n r 9 td fa pl 2) (lD 9 (gd B n r 9 2) (tV B n (ps B n r 1)) (tV B n (ps B n r 2)) (tV B n (ps B n r 3)) td) rd' (lH 9 (tV B n (ps B n r 1)) (tV B n (ps B n r 2)) fh) (lS 9 (tV B n (ps B n r 1)) fs) gd') : q_m_landLine_0 tp (nI (tN B n r)) (nI n) (nI (tF B n r)) (sI (tK B n r)) va wd wr fa pl td rd fh fs 1 (lN 461414299507) (nI (tF B n r)) post := by
  have hF1 := tF_nx hr hK0
  have htk := tk_le (B := B) hr
  have hl1 : ¬ mkF B n r 9 td fa 0 = 0 → mkP B n r 9 td fa pl 0 < nI (tF B n (tN B n r)) := LP_n hlp hF1.1 (by omega)
  have st : q_m_landLine_60 tp (nI (tN B n r)) (nI n) (nI (tF B n r)) (sI (tK B n r)) va wd wr (mkF B n r 9 td fa 0) (mkP B n r 9 td fa pl 0) td rd fh fs 1 (lN 461414299507) post := by
    refine e_tok (r := tN B n r) hn htk.2.1 hB hb (fun v1 w1 hv1 _ => ?_)
    refine ⟨fun _ => ⟨fun h9 => absurd h9 (by decide +kernel), fun _ => ⟨fun _ => ⟨fun _ => ⟨fun _ => ⟨fun _ => ⟨fun _ => ⟨fun _ => ⟨fun _ => ?_, fun h9 => absurd h9 (by decide +kernel)⟩, fun h9 => absurd h9 (by decide +kernel)⟩, fun h9 => absurd h9 (by decide +kernel)⟩, fun h9 => absurd h9 (by decide +kernel)⟩, fun h9 => absurd h9 (by decide +kernel)⟩, fun h9 => absurd h9 (by decide +kernel)⟩, fun h9 => absurd h9 (by decide +kernel)⟩⟩, fun h9 => absurd h9 (by decide +kernel)⟩
    exact e_knowsLine hn hr hB hb hv1 hl1 (fun j a b c d re be so va wd lf lp td rd fs gd => ⟨rfl, hF j a b c d re be so va wd lf lp td rd fh fs gd⟩) (fun hk va2 wd2 rd2 gd2 hl => ⟨rfl, hT hk va2 wd2 rd2 gd2 hl⟩)
  have hfu : fu 9 td = false := by simp [fu]
  have e1 : mkF B n r 9 td fa 0 = fa := by show mF (!fu 9 td) fa 3 = fa; rw [hfu]; rfl
  have e2 : mkP B n r 9 td fa pl 0 = pl := by show mP (!fu 9 td) fa pl _ = pl; rw [hfu]; rfl
  rw [e1, e2] at st
  exact ⟨fun h9 => absurd h9 (by decide +kernel), fun _ => ⟨fun h9 => absurd h9 (by decide +kernel), fun _ => ⟨fun h9 => absurd h9 (by decide +kernel), fun _ => ⟨fun h9 => absurd h9 (by decide +kernel), fun _ => ⟨fun h9 => absurd h9 (by decide +kernel), fun _ => ⟨fun h9 => absurd h9 (by decide +kernel), fun _ => ⟨fun h9 => absurd h9 (by decide +kernel), fun _ => ⟨fun h9 => absurd h9 (by decide +kernel), fun _ => ⟨fun h9 => absurd h9 (by decide +kernel), fun _ => ⟨fun h9 => absurd h9 (by decide +kernel), fun _ => io ⟨fun _ => ⟨fun _ => ⟨fun _ => st, fun h9 => absurd h9 (by decide +kernel)⟩, fun h9 => absurd h9 (by decide +kernel)⟩, fun h9 => absurd h9 (by decide +kernel)⟩⟩⟩⟩⟩⟩⟩⟩⟩⟩⟩
theorem e_landNo {tp td rd : Nat → Int32} {re n be so va wr lf lp fh fs gd a : Int32} {x wd : Int64} {post : Int32 → Int32 → Int32 → Int32 → Int32 → Int64 → Int32 → Int32 → Int32 → (Nat → Int32) → (Nat → Int32) → Int32 → Int32 → Int32 → Prop} (hx : ∀ j, 0 ≤ j → j < 10 → ¬ x = lN (wC.getD j 0)) (hp : post 0 re be so va wd be lf lp td rd fh fs gd) : q_m_landLine_0 tp re n be so va wd wr lf lp td rd fh fs gd x a post :=
  ⟨fun h9 => absurd ((lg_cmp_eq _ _).mp h9) (hx 0 (by omega) (by omega)), fun _ => ⟨fun h9 => absurd ((lg_cmp_eq _ _).mp h9) (hx 1 (by omega) (by omega)), fun _ => ⟨fun h9 => absurd ((lg_cmp_eq _ _).mp h9) (hx 2 (by omega) (by omega)), fun _ => ⟨fun h9 => absurd ((lg_cmp_eq _ _).mp h9) (hx 3 (by omega) (by omega)), fun _ => ⟨fun h9 => absurd ((lg_cmp_eq _ _).mp h9) (hx 4 (by omega) (by omega)), fun _ => ⟨fun h9 => absurd ((lg_cmp_eq _ _).mp h9) (hx 5 (by omega) (by omega)), fun _ => ⟨fun h9 => absurd ((lg_cmp_eq _ _).mp h9) (hx 6 (by omega) (by omega)), fun _ => ⟨fun h9 => absurd ((lg_cmp_eq _ _).mp h9) (hx 7 (by omega) (by omega)), fun _ => ⟨fun h9 => absurd ((lg_cmp_eq _ _).mp h9) (hx 8 (by omega) (by omega)), fun _ => ⟨fun _ => zi ⟨rfl, hp⟩, fun h9 => absurd ((lg_cmp_eq _ _).mp h9) (hx 9 (by omega) (by omega))⟩⟩⟩⟩⟩⟩⟩⟩⟩⟩
theorem e_eveNo {tp td rd : Nat → Int32} {re n be so va wr lf lp gd a : Int32} {x wd : Int64} {post : Int32 → Int32 → Int32 → Int32 → Int32 → Int64 → Int32 → Int32 → Int32 → (Nat → Int32) → (Nat → Int32) → Int32 → Prop} (hx : ∀ j, 10 ≤ j → j < 16 → ¬ x = lN (wC.getD j 0)) (hp : post 0 re be so va wd be lf lp td rd gd) : q_m_eveningLine_0 tp re n be so va wd wr lf lp td rd gd x a post :=
  ⟨fun _ => ⟨fun _ => ⟨fun _ => ⟨fun _ => ⟨fun _ => ⟨fun _ => ⟨fun h9 => absurd rfl h9, fun _ => ⟨rfl, hp⟩⟩, fun h9 => absurd ((lg_cmp_eq _ _).mp h9) (hx 15 (by omega) (by omega))⟩, fun h9 => absurd ((lg_cmp_eq _ _).mp h9) (hx 14 (by omega) (by omega))⟩, fun h9 => absurd ((lg_cmp_eq _ _).mp h9) (hx 13 (by omega) (by omega))⟩, fun h9 => absurd ((lg_cmp_eq _ _).mp h9) (hx 12 (by omega) (by omega))⟩, fun h9 => absurd ((lg_cmp_eq _ _).mp h9) (hx 11 (by omega) (by omega))⟩, fun h9 => absurd ((lg_cmp_eq _ _).mp h9) (hx 10 (by omega) (by omega))⟩
theorem e_sigNo {tp td rd : Nat → Int32} {re n be so va wr lf lp gd a : Int32} {x wd : Int64} {post : Int32 → Int32 → Int32 → Int32 → Int32 → Int64 → Int32 → Int32 → Int32 → (Nat → Int32) → (Nat → Int32) → Int32 → Prop} (hx : ∀ j, 16 ≤ j → j < 18 → ¬ x = lN (wC.getD j 0)) (hp : post 0 re be so va wd be lf lp td rd gd) : q_m_sightLine_0 tp re n be so va wd wr lf lp td rd gd x a post :=
  ⟨fun h9 => absurd ((lg_cmp_eq _ _).mp h9) (hx 16 (by omega) (by omega)), fun _ => ⟨fun h9 => absurd ((lg_cmp_eq _ _).mp h9) (hx 17 (by omega) (by omega)), fun _ => ⟨rfl, hp⟩⟩⟩
theorem e_choNo {tp td rd : Nat → Int32} {re n be so va wr lf lp gd a : Int32} {x wd : Int64} {post : Int32 → Int32 → Int32 → Int32 → Int32 → Int64 → Int32 → Int32 → Int32 → (Nat → Int32) → (Nat → Int32) → Int32 → Prop} (hx : ∀ j, 18 ≤ j → j < 20 → ¬ x = lN (wC.getD j 0)) (hp : post 0 re be so va wd be lf lp td rd gd) : q_m_choirLine_0 tp re n be so va wd wr lf lp td rd gd x a post :=
  ⟨fun h9 => absurd ((lg_cmp_eq _ _).mp h9) (hx 18 (by omega) (by omega)), fun _ => ⟨fun h9 => absurd ((lg_cmp_eq _ _).mp h9) (hx 19 (by omega) (by omega)), fun _ => ⟨rfl, hp⟩⟩⟩
set_option maxRecDepth 20000 in
theorem e_eve_10 {tp B rd td : Nat → Int32} {n r : Nat} {va wr fa pl : Int32} {wd : Int64} {post : Int32 → Int32 → Int32 → Int32 → Int32 → Int64 → Int32 → Int32 → Int32 → (Nat → Int32) → (Nat → Int32) → Int32 → Prop} (hn : n ≤ 600) (hr : r ≤ n) (hB : ∀ j, j < n → tp j = B j) (hb : ∀ j, iv (-128) 127 (B j)) (hlp : ¬ fa = 0 → pl < (nI (tF B n r))) (hK0 : ¬ tK B n r = 0) (hC : CB 1 td)
    (hF : ∀ j, 1 ≤ j → j ≤ 2 → ¬ tK B n (ps B n r j) = 2 → (∀ i, 1 ≤ i → i < j → tK B n (ps B n r i) = 2) → ∀ (re be so va : Int32) (wd : Int64) (lf lp : Int32) (td rd : Nat → Int32) (gd : Int32), post 0 re be so va wd (nI (tF B n (ps B n r j))) lf lp td rd gd)
    (hT : (∀ j, 1 ≤ j → j ≤ 2 → tK B n (ps B n r j) = 2) → ∀ (va' : Int32) (wd' : Int64) (rd' : Nat → Int32) (gd' : Int32), (¬ mkF B n r 10 td fa 2 = 0 → mkP B n r 10 td fa pl 2 < (nI (tF B n (ps B n r 3)))) → post 1 (nI (tN B n (ps B n r 3))) (nI (tF B n (ps B n r 3))) (sI (tK B n (ps B n r 3))) va' wd' wr (mkF B n r 10 td fa 2) (mkP B n r 10 td fa pl 2) (lD 10 (gd B n r 10 2) (tV B n (ps B n r 1)) (tV B n (ps B n r 2)) (tV B n (ps B n r 3)) td) rd' gd') : q_m_eveningLine_0 tp (nI (tN B n r)) (nI n) (nI (tF B n r)) (sI (tK B n r)) va wd wr fa pl td rd 1 (lN 422608071022) (nI (tF B n r)) post := by
  have hF1 := tF_nx hr hK0
  have htk := tk_le (B := B) hr
  have hl1 : ¬ mkF B n r 10 td fa 0 = 0 → mkP B n r 10 td fa pl 0 < nI (tF B n (tN B n r)) := LP_n hlp hF1.1 (by omega)
  refine ⟨fun h9 => absurd h9 (by decide +kernel), fun _ => ⟨fun _ => e_full (c := 0) (b := fu 10 td) (by omega) (by simp [fu]) hlp (e_tok (r := tN B n r) hn htk.2.1 hB hb (fun v1 w1 hv1 _ => ?_)), fun h9 => absurd h9 (by decide +kernel)⟩⟩
  intro rd1 e1
  rw [c_2] at e1
  refine e_take (k := 1) (i := 1) (c := cW 10 0 (tV B n (ps B n r 1)) (tV B n (ps B n r 1))) (rd := rd1) (g := gd B n r 10 0) hn hr hB hb hv1 hl1 (by omega) rfl (fun hk => iz (hF 1 (by omega) (by omega) hk (be1 (P := fun j => tK B n (ps B n r j) = 2)) _ _ _ _ _ _ _ _ _ _)) (fun k1 va1 wd1 hv2 hl2 => oi ?_)
  refine ⟨fun h9 => absurd h9 (by decide +kernel), fun _ => ⟨fun _ => ?_, fun h9 => absurd h9 (by decide +kernel)⟩⟩
  refine e_take (k := 2) (i := 2) (c := cW 10 1 (tV B n (ps B n r 1)) (tV B n (ps B n r 2))) (g := gd B n r 10 1) hn hr hB hb hv2 hl2 (by omega) rfl (fun hk => zi (hF 2 (by omega) (by omega) hk (be2 (P := fun j => tK B n (ps B n r j) = 2) k1) _ _ _ _ _ _ _ _ _ _)) (fun k2 va2 wd2 hv3 hl3 => io ?_)
  intro rd3 e3
  rw [c_0, e1] at e3
  have g := hT (al2 (P := fun j => tK B n (ps B n r j) = 2) k1 k2) va2 wd2 rd3 (gI (gd B n r 10 2)) hl3
  rw [show lD 10 (gd B n r 10 2) (tV B n (ps B n r 1)) (tV B n (ps B n r 2)) (tV B n (ps B n r 3)) td = (if td 0 = 40 then td else upd (upd (upd (upd td 0 (td 0 + 1)) (Int32.toNatClampNeg ((1 + 3 * td 0) + 0)) 0) (Int32.toNatClampNeg ((1 + 3 * td 0) + 1)) (tV B n (ps B n r 1))) (Int32.toNatClampNeg ((1 + 3 * td 0) + 2)) (tV B n (ps B n r 2))) from rfl] at g
  have r0 : rd3 0 = 0 := by rw [e3]; exact up_s
  have r1 : rd3 1 = (tV B n (ps B n r 1)) := by rw [e3, up_n (by omega), up_n (by omega), up_s]
  have r2 : rd3 2 = (tV B n (ps B n r 2)) := by rw [e3, up_n (by omega), up_s]
  refine e_keep (W := 3) (by omega) hC.1 (fun h => ?_) (fun h => ?_)
  · rw [if_pos h] at g; exact g
  · rw [if_neg h] at g
    have e : kp td rd3 3 3 = upd (upd (upd (upd td 0 (td 0 + 1)) (Int32.toNatClampNeg ((1 + 3 * td 0) + 0)) (rd3 0)) (Int32.toNatClampNeg ((1 + 3 * td 0) + 1)) (rd3 1)) (Int32.toNatClampNeg ((1 + 3 * td 0) + 2)) (rd3 2) := rfl
    rw [e, r0, r1, r2]
    exact g
set_option maxRecDepth 20000 in
theorem e_eve_11 {tp B rd td : Nat → Int32} {n r : Nat} {va wr fa pl : Int32} {wd : Int64} {post : Int32 → Int32 → Int32 → Int32 → Int32 → Int64 → Int32 → Int32 → Int32 → (Nat → Int32) → (Nat → Int32) → Int32 → Prop} (hn : n ≤ 600) (hr : r ≤ n) (hB : ∀ j, j < n → tp j = B j) (hb : ∀ j, iv (-128) 127 (B j)) (hlp : ¬ fa = 0 → pl < (nI (tF B n r))) (hK0 : ¬ tK B n r = 0) (hC : CB 1 td)
    (hF : ∀ j, 1 ≤ j → j ≤ 2 → ¬ tK B n (ps B n r j) = 2 → (∀ i, 1 ≤ i → i < j → tK B n (ps B n r i) = 2) → ∀ (re be so va : Int32) (wd : Int64) (lf lp : Int32) (td rd : Nat → Int32) (gd : Int32), post 0 re be so va wd (nI (tF B n (ps B n r j))) lf lp td rd gd)
    (hT : (∀ j, 1 ≤ j → j ≤ 2 → tK B n (ps B n r j) = 2) → ∀ (va' : Int32) (wd' : Int64) (rd' : Nat → Int32) (gd' : Int32), (¬ mkF B n r 11 td fa 2 = 0 → mkP B n r 11 td fa pl 2 < (nI (tF B n (ps B n r 3)))) → post 1 (nI (tN B n (ps B n r 3))) (nI (tF B n (ps B n r 3))) (sI (tK B n (ps B n r 3))) va' wd' wr (mkF B n r 11 td fa 2) (mkP B n r 11 td fa pl 2) (lD 11 (gd B n r 11 2) (tV B n (ps B n r 1)) (tV B n (ps B n r 2)) (tV B n (ps B n r 3)) td) rd' gd') : q_m_eveningLine_0 tp (nI (tN B n r)) (nI n) (nI (tF B n r)) (sI (tK B n r)) va wd wr fa pl td rd 1 (lN 1936289383) (nI (tF B n r)) post := by
  have hF1 := tF_nx hr hK0
  have htk := tk_le (B := B) hr
  have hl1 : ¬ mkF B n r 11 td fa 0 = 0 → mkP B n r 11 td fa pl 0 < nI (tF B n (tN B n r)) := LP_n hlp hF1.1 (by omega)
  refine ⟨fun _ => ⟨fun h9 => absurd h9 (by decide +kernel), fun _ => ⟨fun _ => e_full (c := 0) (b := fu 11 td) (by omega) (by simp [fu]) hlp (e_tok (r := tN B n r) hn htk.2.1 hB hb (fun v1 w1 hv1 _ => ?_)), fun h9 => absurd h9 (by decide +kernel)⟩⟩, fun h9 => absurd h9 (by decide +kernel)⟩
  intro rd1 e1
  rw [c_2] at e1
  refine e_take (k := 1) (i := 1) (c := cW 11 0 (tV B n (ps B n r 1)) (tV B n (ps B n r 1))) (rd := rd1) (g := gd B n r 11 0) hn hr hB hb hv1 hl1 (by omega) rfl (fun hk => iz (hF 1 (by omega) (by omega) hk (be1 (P := fun j => tK B n (ps B n r j) = 2)) _ _ _ _ _ _ _ _ _ _)) (fun k1 va1 wd1 hv2 hl2 => oi ?_)
  refine ⟨fun h9 => absurd h9 (by decide +kernel), fun _ => ⟨fun _ => ?_, fun h9 => absurd h9 (by decide +kernel)⟩⟩
  refine e_take (k := 2) (i := 2) (c := cW 11 1 (tV B n (ps B n r 1)) (tV B n (ps B n r 2))) (g := gd B n r 11 1) hn hr hB hb hv2 hl2 (by omega) rfl (fun hk => zi (hF 2 (by omega) (by omega) hk (be2 (P := fun j => tK B n (ps B n r j) = 2) k1) _ _ _ _ _ _ _ _ _ _)) (fun k2 va2 wd2 hv3 hl3 => io ?_)
  intro rd3 e3
  rw [c_0, e1] at e3
  have g := hT (al2 (P := fun j => tK B n (ps B n r j) = 2) k1 k2) va2 wd2 rd3 (gI (gd B n r 11 2)) hl3
  rw [show lD 11 (gd B n r 11 2) (tV B n (ps B n r 1)) (tV B n (ps B n r 2)) (tV B n (ps B n r 3)) td = (if td 0 = 40 then td else upd (upd (upd (upd td 0 (td 0 + 1)) (Int32.toNatClampNeg ((1 + 3 * td 0) + 0)) 1) (Int32.toNatClampNeg ((1 + 3 * td 0) + 1)) (tV B n (ps B n r 1))) (Int32.toNatClampNeg ((1 + 3 * td 0) + 2)) (tV B n (ps B n r 2))) from rfl] at g
  have r0 : rd3 0 = 1 := by rw [e3]; exact up_s
  have r1 : rd3 1 = (tV B n (ps B n r 1)) := by rw [e3, up_n (by omega), up_n (by omega), up_s]
  have r2 : rd3 2 = (tV B n (ps B n r 2)) := by rw [e3, up_n (by omega), up_s]
  refine e_keep (W := 3) (by omega) hC.1 (fun h => ?_) (fun h => ?_)
  · rw [if_pos h] at g; exact g
  · rw [if_neg h] at g
    have e : kp td rd3 3 3 = upd (upd (upd (upd td 0 (td 0 + 1)) (Int32.toNatClampNeg ((1 + 3 * td 0) + 0)) (rd3 0)) (Int32.toNatClampNeg ((1 + 3 * td 0) + 1)) (rd3 1)) (Int32.toNatClampNeg ((1 + 3 * td 0) + 2)) (rd3 2) := rfl
    rw [e, r0, r1, r2]
    exact g
set_option maxRecDepth 20000 in
theorem e_eve_12 {tp B rd td : Nat → Int32} {n r : Nat} {va wr fa pl : Int32} {wd : Int64} {post : Int32 → Int32 → Int32 → Int32 → Int32 → Int64 → Int32 → Int32 → Int32 → (Nat → Int32) → (Nat → Int32) → Int32 → Prop} (hn : n ≤ 600) (hr : r ≤ n) (hB : ∀ j, j < n → tp j = B j) (hb : ∀ j, iv (-128) 127 (B j)) (hlp : ¬ fa = 0 → pl < (nI (tF B n r))) (hK0 : ¬ tK B n r = 0) (hC : CB 1 td)
    (hF : ∀ j, 1 ≤ j → j ≤ 2 → ¬ tK B n (ps B n r j) = 2 → (∀ i, 1 ≤ i → i < j → tK B n (ps B n r i) = 2) → ∀ (re be so va : Int32) (wd : Int64) (lf lp : Int32) (td rd : Nat → Int32) (gd : Int32), post 0 re be so va wd (nI (tF B n (ps B n r j))) lf lp td rd gd)
    (hT : (∀ j, 1 ≤ j → j ≤ 2 → tK B n (ps B n r j) = 2) → ∀ (va' : Int32) (wd' : Int64) (rd' : Nat → Int32) (gd' : Int32), (¬ mkF B n r 12 td fa 2 = 0 → mkP B n r 12 td fa pl 2 < (nI (tF B n (ps B n r 3)))) → post 1 (nI (tN B n (ps B n r 3))) (nI (tF B n (ps B n r 3))) (sI (tK B n (ps B n r 3))) va' wd' wr (mkF B n r 12 td fa 2) (mkP B n r 12 td fa pl 2) (lD 12 (gd B n r 12 2) (tV B n (ps B n r 1)) (tV B n (ps B n r 2)) (tV B n (ps B n r 3)) td) rd' gd') : q_m_eveningLine_0 tp (nI (tN B n r)) (nI n) (nI (tF B n r)) (sI (tK B n r)) va wd wr fa pl td rd 1 (lN 33610324346432613) (nI (tF B n r)) post := by
  have hF1 := tF_nx hr hK0
  have htk := tk_le (B := B) hr
  have hl1 : ¬ mkF B n r 12 td fa 0 = 0 → mkP B n r 12 td fa pl 0 < nI (tF B n (tN B n r)) := LP_n hlp hF1.1 (by omega)
  refine ⟨fun _ => ⟨fun _ => ⟨fun h9 => absurd h9 (by decide +kernel), fun _ => ⟨fun _ => e_full (c := 0) (b := fu 12 td) (by omega) (by simp [fu]) hlp (e_tok (r := tN B n r) hn htk.2.1 hB hb (fun v1 w1 hv1 _ => ?_)), fun h9 => absurd h9 (by decide +kernel)⟩⟩, fun h9 => absurd h9 (by decide +kernel)⟩, fun h9 => absurd h9 (by decide +kernel)⟩
  intro rd1 e1
  rw [c_2] at e1
  refine e_take (k := 1) (i := 1) (c := cW 12 0 (tV B n (ps B n r 1)) (tV B n (ps B n r 1))) (rd := rd1) (g := gd B n r 12 0) hn hr hB hb hv1 hl1 (by omega) rfl (fun hk => iz (hF 1 (by omega) (by omega) hk (be1 (P := fun j => tK B n (ps B n r j) = 2)) _ _ _ _ _ _ _ _ _ _)) (fun k1 va1 wd1 hv2 hl2 => oi ?_)
  refine ⟨fun h9 => absurd h9 (by decide +kernel), fun _ => ⟨fun _ => ?_, fun h9 => absurd h9 (by decide +kernel)⟩⟩
  refine e_take (k := 2) (i := 2) (c := cW 12 1 (tV B n (ps B n r 1)) (tV B n (ps B n r 2))) (g := gd B n r 12 1) hn hr hB hb hv2 hl2 (by omega) rfl (fun hk => zi (hF 2 (by omega) (by omega) hk (be2 (P := fun j => tK B n (ps B n r j) = 2) k1) _ _ _ _ _ _ _ _ _ _)) (fun k2 va2 wd2 hv3 hl3 => io ?_)
  intro rd3 e3
  rw [c_0, e1] at e3
  have g := hT (al2 (P := fun j => tK B n (ps B n r j) = 2) k1 k2) va2 wd2 rd3 (gI (gd B n r 12 2)) hl3
  rw [show lD 12 (gd B n r 12 2) (tV B n (ps B n r 1)) (tV B n (ps B n r 2)) (tV B n (ps B n r 3)) td = (if td 0 = 40 then td else upd (upd (upd (upd td 0 (td 0 + 1)) (Int32.toNatClampNeg ((1 + 3 * td 0) + 0)) 2) (Int32.toNatClampNeg ((1 + 3 * td 0) + 1)) (tV B n (ps B n r 1))) (Int32.toNatClampNeg ((1 + 3 * td 0) + 2)) (tV B n (ps B n r 2))) from rfl] at g
  have r0 : rd3 0 = 2 := by rw [e3]; exact up_s
  have r1 : rd3 1 = (tV B n (ps B n r 1)) := by rw [e3, up_n (by omega), up_n (by omega), up_s]
  have r2 : rd3 2 = (tV B n (ps B n r 2)) := by rw [e3, up_n (by omega), up_s]
  refine e_keep (W := 3) (by omega) hC.1 (fun h => ?_) (fun h => ?_)
  · rw [if_pos h] at g; exact g
  · rw [if_neg h] at g
    have e : kp td rd3 3 3 = upd (upd (upd (upd td 0 (td 0 + 1)) (Int32.toNatClampNeg ((1 + 3 * td 0) + 0)) (rd3 0)) (Int32.toNatClampNeg ((1 + 3 * td 0) + 1)) (rd3 1)) (Int32.toNatClampNeg ((1 + 3 * td 0) + 2)) (rd3 2) := rfl
    rw [e, r0, r1, r2]
    exact g
set_option maxRecDepth 20000 in
theorem e_eve_13 {tp B rd td : Nat → Int32} {n r : Nat} {va wr fa pl : Int32} {wd : Int64} {post : Int32 → Int32 → Int32 → Int32 → Int32 → Int64 → Int32 → Int32 → Int32 → (Nat → Int32) → (Nat → Int32) → Int32 → Prop} (hn : n ≤ 600) (hr : r ≤ n) (hB : ∀ j, j < n → tp j = B j) (hb : ∀ j, iv (-128) 127 (B j)) (hlp : ¬ fa = 0 → pl < (nI (tF B n r))) (hK0 : ¬ tK B n r = 0) (hC : CB 1 td)
    (hF : ∀ j, 1 ≤ j → j ≤ 2 → ¬ tK B n (ps B n r j) = 2 → (∀ i, 1 ≤ i → i < j → tK B n (ps B n r i) = 2) → ∀ (re be so va : Int32) (wd : Int64) (lf lp : Int32) (td rd : Nat → Int32) (gd : Int32), post 0 re be so va wd (nI (tF B n (ps B n r j))) lf lp td rd gd)
    (hT : (∀ j, 1 ≤ j → j ≤ 2 → tK B n (ps B n r j) = 2) → ∀ (va' : Int32) (wd' : Int64) (rd' : Nat → Int32) (gd' : Int32), (¬ mkF B n r 13 td fa 2 = 0 → mkP B n r 13 td fa pl 2 < (nI (tF B n (ps B n r 3)))) → post 1 (nI (tN B n (ps B n r 3))) (nI (tF B n (ps B n r 3))) (sI (tK B n (ps B n r 3))) va' wd' wr (mkF B n r 13 td fa 2) (mkP B n r 13 td fa pl 2) (lD 13 (gd B n r 13 2) (tV B n (ps B n r 1)) (tV B n (ps B n r 2)) (tV B n (ps B n r 3)) td) rd' gd') : q_m_eveningLine_0 tp (nI (tN B n r)) (nI n) (nI (tF B n r)) (sI (tK B n r)) va wd wr fa pl td rd 1 (lN 2002873451) (nI (tF B n r)) post := by
  have hF1 := tF_nx hr hK0
  have htk := tk_le (B := B) hr
  have hl1 : ¬ mkF B n r 13 td fa 0 = 0 → mkP B n r 13 td fa pl 0 < nI (tF B n (tN B n r)) := LP_n hlp hF1.1 (by omega)
  refine ⟨fun _ => ⟨fun _ => ⟨fun _ => ⟨fun h9 => absurd h9 (by decide +kernel), fun _ => ⟨fun _ => e_full (c := 0) (b := fu 13 td) (by omega) (by simp [fu]) hlp (e_tok (r := tN B n r) hn htk.2.1 hB hb (fun v1 w1 hv1 _ => ?_)), fun h9 => absurd h9 (by decide +kernel)⟩⟩, fun h9 => absurd h9 (by decide +kernel)⟩, fun h9 => absurd h9 (by decide +kernel)⟩, fun h9 => absurd h9 (by decide +kernel)⟩
  intro rd1 e1
  rw [c_2] at e1
  refine e_take (k := 1) (i := 1) (c := cW 13 0 (tV B n (ps B n r 1)) (tV B n (ps B n r 1))) (rd := rd1) (g := gd B n r 13 0) hn hr hB hb hv1 hl1 (by omega) rfl (fun hk => iz (hF 1 (by omega) (by omega) hk (be1 (P := fun j => tK B n (ps B n r j) = 2)) _ _ _ _ _ _ _ _ _ _)) (fun k1 va1 wd1 hv2 hl2 => oi ?_)
  refine ⟨fun h9 => absurd h9 (by decide +kernel), fun _ => ⟨fun h9 => absurd h9 (by decide +kernel), fun _ => ?_⟩⟩
  refine e_take (k := 2) (i := 2) (c := cW 13 1 (tV B n (ps B n r 1)) (tV B n (ps B n r 2))) (g := gd B n r 13 1) hn hr hB hb hv2 hl2 (by omega) rfl (fun hk => zi (hF 2 (by omega) (by omega) hk (be2 (P := fun j => tK B n (ps B n r j) = 2) k1) _ _ _ _ _ _ _ _ _ _)) (fun k2 va2 wd2 hv3 hl3 => io ?_)
  intro rd3 e3
  rw [c_0, e1] at e3
  have g := hT (al2 (P := fun j => tK B n (ps B n r j) = 2) k1 k2) va2 wd2 rd3 (gI (gd B n r 13 2)) hl3
  rw [show lD 13 (gd B n r 13 2) (tV B n (ps B n r 1)) (tV B n (ps B n r 2)) (tV B n (ps B n r 3)) td = (if td 0 = 40 then td else upd (upd (upd (upd td 0 (td 0 + 1)) (Int32.toNatClampNeg ((1 + 3 * td 0) + 0)) 3) (Int32.toNatClampNeg ((1 + 3 * td 0) + 1)) (tV B n (ps B n r 1))) (Int32.toNatClampNeg ((1 + 3 * td 0) + 2)) (tV B n (ps B n r 2))) from rfl] at g
  have r0 : rd3 0 = 3 := by rw [e3]; exact up_s
  have r1 : rd3 1 = (tV B n (ps B n r 1)) := by rw [e3, up_n (by omega), up_n (by omega), up_s]
  have r2 : rd3 2 = (tV B n (ps B n r 2)) := by rw [e3, up_n (by omega), up_s]
  refine e_keep (W := 3) (by omega) hC.1 (fun h => ?_) (fun h => ?_)
  · rw [if_pos h] at g; exact g
  · rw [if_neg h] at g
    have e : kp td rd3 3 3 = upd (upd (upd (upd td 0 (td 0 + 1)) (Int32.toNatClampNeg ((1 + 3 * td 0) + 0)) (rd3 0)) (Int32.toNatClampNeg ((1 + 3 * td 0) + 1)) (rd3 1)) (Int32.toNatClampNeg ((1 + 3 * td 0) + 2)) (rd3 2) := rfl
    rw [e, r0, r1, r2]
    exact g
set_option maxRecDepth 20000 in
theorem e_eve_14 {tp B rd td : Nat → Int32} {n r : Nat} {va wr fa pl : Int32} {wd : Int64} {post : Int32 → Int32 → Int32 → Int32 → Int32 → Int64 → Int32 → Int32 → Int32 → (Nat → Int32) → (Nat → Int32) → Int32 → Prop} (hn : n ≤ 600) (hr : r ≤ n) (hB : ∀ j, j < n → tp j = B j) (hb : ∀ j, iv (-128) 127 (B j)) (hlp : ¬ fa = 0 → pl < (nI (tF B n r))) (hK0 : ¬ tK B n r = 0) (hC : CB 1 td)
    (hF : ∀ j, 1 ≤ j → j ≤ 1 → ¬ tK B n (ps B n r j) = 2 → (∀ i, 1 ≤ i → i < j → tK B n (ps B n r i) = 2) → ∀ (re be so va : Int32) (wd : Int64) (lf lp : Int32) (td rd : Nat → Int32) (gd : Int32), post 0 re be so va wd (nI (tF B n (ps B n r j))) lf lp td rd gd)
    (hT : (∀ j, 1 ≤ j → j ≤ 1 → tK B n (ps B n r j) = 2) → ∀ (va' : Int32) (wd' : Int64) (rd' : Nat → Int32) (gd' : Int32), (¬ mkF B n r 14 td fa 1 = 0 → mkP B n r 14 td fa pl 1 < (nI (tF B n (ps B n r 2)))) → post 1 (nI (tN B n (ps B n r 2))) (nI (tF B n (ps B n r 2))) (sI (tK B n (ps B n r 2))) va' wd' wr (mkF B n r 14 td fa 1) (mkP B n r 14 td fa pl 1) (lD 14 (gd B n r 14 1) (tV B n (ps B n r 1)) (tV B n (ps B n r 2)) (tV B n (ps B n r 3)) td) rd' gd') : q_m_eveningLine_0 tp (nI (tN B n r)) (nI n) (nI (tF B n r)) (sI (tK B n r)) va wd wr fa pl td rd 1 (lN 427020610914) (nI (tF B n r)) post := by
  have hF1 := tF_nx hr hK0
  have htk := tk_le (B := B) hr
  have hl1 : ¬ mkF B n r 14 td fa 0 = 0 → mkP B n r 14 td fa pl 0 < nI (tF B n (tN B n r)) := LP_n hlp hF1.1 (by omega)
  refine ⟨fun _ => ⟨fun _ => ⟨fun _ => ⟨fun _ => ⟨fun h9 => absurd h9 (by decide +kernel), fun _ => ⟨fun _ => e_full (c := 0) (b := fu 14 td) (by omega) (by simp [fu]) hlp (e_tok (r := tN B n r) hn htk.2.1 hB hb (fun v1 w1 hv1 _ => ?_)), fun h9 => absurd h9 (by decide +kernel)⟩⟩, fun h9 => absurd h9 (by decide +kernel)⟩, fun h9 => absurd h9 (by decide +kernel)⟩, fun h9 => absurd h9 (by decide +kernel)⟩, fun h9 => absurd h9 (by decide +kernel)⟩
  intro rd1 e1
  rw [c_2] at e1
  refine e_take (k := 1) (i := 1) (c := cW 14 0 (tV B n (ps B n r 1)) (tV B n (ps B n r 1))) (rd := rd1) (g := gd B n r 14 0) hn hr hB hb hv1 hl1 (by omega) rfl (fun hk => iz (hF 1 (by omega) (by omega) hk (be1 (P := fun j => tK B n (ps B n r j) = 2)) _ _ _ _ _ _ _ _ _ _)) (fun k1 va1 wd1 hv2 hl2 => oi ?_)
  refine ⟨fun _ => ?_, fun h9 => absurd h9 (by decide +kernel)⟩
  intro rd3 e3
  rw [c_0, e1] at e3
  have g := hT (al1 (P := fun j => tK B n (ps B n r j) = 2) k1) va1 wd1 rd3 (gI (gd B n r 14 1)) hl2
  rw [show lD 14 (gd B n r 14 1) (tV B n (ps B n r 1)) (tV B n (ps B n r 2)) (tV B n (ps B n r 3)) td = (if td 0 = 40 then td else upd (upd (upd (upd td 0 (td 0 + 1)) (Int32.toNatClampNeg ((1 + 3 * td 0) + 0)) 4) (Int32.toNatClampNeg ((1 + 3 * td 0) + 1)) (tV B n (ps B n r 1))) (Int32.toNatClampNeg ((1 + 3 * td 0) + 2)) (-1)) from rfl] at g
  have r0 : rd3 0 = 4 := by rw [e3]; exact up_s
  have r1 : rd3 1 = (tV B n (ps B n r 1)) := by rw [e3, up_n (by omega), up_s]
  have r2 : rd3 2 = (-1) := by rw [e3, up_n (by omega), up_n (by omega), up_s]
  refine e_keep (W := 3) (by omega) hC.1 (fun h => ?_) (fun h => ?_)
  · rw [if_pos h] at g; exact g
  · rw [if_neg h] at g
    have e : kp td rd3 3 3 = upd (upd (upd (upd td 0 (td 0 + 1)) (Int32.toNatClampNeg ((1 + 3 * td 0) + 0)) (rd3 0)) (Int32.toNatClampNeg ((1 + 3 * td 0) + 1)) (rd3 1)) (Int32.toNatClampNeg ((1 + 3 * td 0) + 2)) (rd3 2) := rfl
    rw [e, r0, r1, r2]
    exact g
set_option maxRecDepth 20000 in
theorem e_eve_15 {tp B rd td : Nat → Int32} {n r : Nat} {va wr fa pl : Int32} {wd : Int64} {post : Int32 → Int32 → Int32 → Int32 → Int32 → Int64 → Int32 → Int32 → Int32 → (Nat → Int32) → (Nat → Int32) → Int32 → Prop} (hn : n ≤ 600) (hr : r ≤ n) (hB : ∀ j, j < n → tp j = B j) (hb : ∀ j, iv (-128) 127 (B j)) (hlp : ¬ fa = 0 → pl < (nI (tF B n r))) (hK0 : ¬ tK B n r = 0) (hC : CB 1 td)
    (hF : ∀ j, 1 ≤ j → j ≤ 1 → ¬ tK B n (ps B n r j) = 2 → (∀ i, 1 ≤ i → i < j → tK B n (ps B n r i) = 2) → ∀ (re be so va : Int32) (wd : Int64) (lf lp : Int32) (td rd : Nat → Int32) (gd : Int32), post 0 re be so va wd (nI (tF B n (ps B n r j))) lf lp td rd gd)
    (hT : (∀ j, 1 ≤ j → j ≤ 1 → tK B n (ps B n r j) = 2) → ∀ (va' : Int32) (wd' : Int64) (rd' : Nat → Int32) (gd' : Int32), (¬ mkF B n r 15 td fa 1 = 0 → mkP B n r 15 td fa pl 1 < (nI (tF B n (ps B n r 2)))) → post 1 (nI (tN B n (ps B n r 2))) (nI (tF B n (ps B n r 2))) (sI (tK B n (ps B n r 2))) va' wd' wr (mkF B n r 15 td fa 1) (mkP B n r 15 td fa pl 1) (lD 15 (gd B n r 15 1) (tV B n (ps B n r 1)) (tV B n (ps B n r 2)) (tV B n (ps B n r 3)) td) rd' gd') : q_m_eveningLine_0 tp (nI (tN B n r)) (nI n) (nI (tF B n r)) (sI (tK B n r)) va wd wr fa pl td rd 1 (lN 28259043934301796) (nI (tF B n r)) post := by
  have hF1 := tF_nx hr hK0
  have htk := tk_le (B := B) hr
  have hl1 : ¬ mkF B n r 15 td fa 0 = 0 → mkP B n r 15 td fa pl 0 < nI (tF B n (tN B n r)) := LP_n hlp hF1.1 (by omega)
  refine ⟨fun _ => ⟨fun _ => ⟨fun _ => ⟨fun _ => ⟨fun _ => ⟨fun h9 => absurd h9 (by decide +kernel), fun _ => ⟨fun _ => e_full (c := 0) (b := fu 15 td) (by omega) (by simp [fu]) hlp (e_tok (r := tN B n r) hn htk.2.1 hB hb (fun v1 w1 hv1 _ => ?_)), fun h9 => absurd h9 (by decide +kernel)⟩⟩, fun h9 => absurd h9 (by decide +kernel)⟩, fun h9 => absurd h9 (by decide +kernel)⟩, fun h9 => absurd h9 (by decide +kernel)⟩, fun h9 => absurd h9 (by decide +kernel)⟩, fun h9 => absurd h9 (by decide +kernel)⟩
  intro rd1 e1
  rw [c_2] at e1
  refine e_take (k := 1) (i := 1) (c := cW 15 0 (tV B n (ps B n r 1)) (tV B n (ps B n r 1))) (rd := rd1) (g := gd B n r 15 0) hn hr hB hb hv1 hl1 (by omega) rfl (fun hk => iz (hF 1 (by omega) (by omega) hk (be1 (P := fun j => tK B n (ps B n r j) = 2)) _ _ _ _ _ _ _ _ _ _)) (fun k1 va1 wd1 hv2 hl2 => oi ?_)
  refine ⟨fun _ => ?_, fun h9 => absurd h9 (by decide +kernel)⟩
  intro rd3 e3
  rw [c_0, e1] at e3
  have g := hT (al1 (P := fun j => tK B n (ps B n r j) = 2) k1) va1 wd1 rd3 (gI (gd B n r 15 1)) hl2
  rw [show lD 15 (gd B n r 15 1) (tV B n (ps B n r 1)) (tV B n (ps B n r 2)) (tV B n (ps B n r 3)) td = (if td 0 = 40 then td else upd (upd (upd (upd td 0 (td 0 + 1)) (Int32.toNatClampNeg ((1 + 3 * td 0) + 0)) 5) (Int32.toNatClampNeg ((1 + 3 * td 0) + 1)) (tV B n (ps B n r 1))) (Int32.toNatClampNeg ((1 + 3 * td 0) + 2)) (-1)) from rfl] at g
  have r0 : rd3 0 = 5 := by rw [e3]; exact up_s
  have r1 : rd3 1 = (tV B n (ps B n r 1)) := by rw [e3, up_n (by omega), up_s]
  have r2 : rd3 2 = (-1) := by rw [e3, up_n (by omega), up_n (by omega), up_s]
  refine e_keep (W := 3) (by omega) hC.1 (fun h => ?_) (fun h => ?_)
  · rw [if_pos h] at g; exact g
  · rw [if_neg h] at g
    have e : kp td rd3 3 3 = upd (upd (upd (upd td 0 (td 0 + 1)) (Int32.toNatClampNeg ((1 + 3 * td 0) + 0)) (rd3 0)) (Int32.toNatClampNeg ((1 + 3 * td 0) + 1)) (rd3 1)) (Int32.toNatClampNeg ((1 + 3 * td 0) + 2)) (rd3 2) := rfl
    rw [e, r0, r1, r2]
    exact g
set_option maxRecDepth 20000 in
theorem e_sig_16 {tp B rd td : Nat → Int32} {n r : Nat} {va wr fa pl : Int32} {wd : Int64} {post : Int32 → Int32 → Int32 → Int32 → Int32 → Int64 → Int32 → Int32 → Int32 → (Nat → Int32) → (Nat → Int32) → Int32 → Prop} (hn : n ≤ 600) (hr : r ≤ n) (hB : ∀ j, j < n → tp j = B j) (hb : ∀ j, iv (-128) 127 (B j)) (hlp : ¬ fa = 0 → pl < (nI (tF B n r))) (hK0 : ¬ tK B n r = 0) (hC : CB 2 td)
    (hF : ∀ j, 1 ≤ j → j ≤ 2 → ¬ tK B n (ps B n r j) = 2 → (∀ i, 1 ≤ i → i < j → tK B n (ps B n r i) = 2) → ∀ (re be so va : Int32) (wd : Int64) (lf lp : Int32) (td rd : Nat → Int32) (gd : Int32), post 0 re be so va wd (nI (tF B n (ps B n r j))) lf lp td rd gd)
    (hT : (∀ j, 1 ≤ j → j ≤ 2 → tK B n (ps B n r j) = 2) → ∀ (va' : Int32) (wd' : Int64) (rd' : Nat → Int32) (gd' : Int32), (¬ mkF B n r 16 td fa 2 = 0 → mkP B n r 16 td fa pl 2 < (nI (tF B n (ps B n r 3)))) → post 1 (nI (tN B n (ps B n r 3))) (nI (tF B n (ps B n r 3))) (sI (tK B n (ps B n r 3))) va' wd' wr (mkF B n r 16 td fa 2) (mkP B n r 16 td fa pl 2) (lD 16 (gd B n r 16 2) (tV B n (ps B n r 1)) (tV B n (ps B n r 2)) (tV B n (ps B n r 3)) td) rd' gd') : q_m_sightLine_0 tp (nI (tN B n r)) (nI n) (nI (tF B n r)) (sI (tK B n r)) va wd wr fa pl td rd 1 (lN 448377483876) (nI (tF B n r)) post := by
  have hF1 := tF_nx hr hK0
  have htk := tk_le (B := B) hr
  have hl1 : ¬ mkF B n r 16 td fa 0 = 0 → mkP B n r 16 td fa pl 0 < nI (tF B n (tN B n r)) := LP_n hlp hF1.1 (by omega)
  refine ⟨fun _ => e_full (c := 0) (b := fu 16 td) (by omega) (by simp [fu]) hlp (e_tok (r := tN B n r) hn htk.2.1 hB hb (fun v1 w1 hv1 _ => ?_)), fun h9 => absurd h9 (by decide +kernel)⟩
  refine e_take (k := 1) (i := 1) (c := cW 16 0 (tV B n (ps B n r 1)) (tV B n (ps B n r 1))) (g := gd B n r 16 0) hn hr hB hb hv1 hl1 (by omega) rfl (fun hk => iz (hF 1 (by omega) (by omega) hk (be1 (P := fun j => tK B n (ps B n r j) = 2)) _ _ _ _ _ _ _ _ _ _)) (fun k1 va1 wd1 hv2 hl2 => oi ?_)
  refine e_take (k := 2) (i := 2) (c := cW 16 1 (tV B n (ps B n r 1)) (tV B n (ps B n r 2))) (g := gd B n r 16 1) hn hr hB hb hv2 hl2 (by omega) rfl (fun hk => zi (hF 2 (by omega) (by omega) hk (be2 (P := fun j => tK B n (ps B n r j) = 2) k1) _ _ _ _ _ _ _ _ _ _)) (fun k2 va2 wd2 hv3 hl3 => io ?_)
  refine ⟨fun h9 => absurd h9 (by decide +kernel), fun _ => ⟨vp_in_nI (n := 0) (by decide) (by decide), fun rd3 e3 => ?_⟩⟩
  rw [c_0] at e3
  have g := hT (al2 (P := fun j => tK B n (ps B n r j) = 2) k1 k2) va2 wd2 rd3 (gI (gd B n r 16 2)) hl3
  rw [show lD 16 (gd B n r 16 2) (tV B n (ps B n r 1)) (tV B n (ps B n r 2)) (tV B n (ps B n r 3)) td = (if td 0 = 10 then td else upd (upd (upd (upd td 0 (td 0 + 1)) (Int32.toNatClampNeg ((1 + 3 * td 0) + 0)) 1) (Int32.toNatClampNeg ((1 + 3 * td 0) + 1)) (tV B n (ps B n r 1))) (Int32.toNatClampNeg ((1 + 3 * td 0) + 2)) (tV B n (ps B n r 2))) from rfl] at g
  have r0 : rd3 0 = 1 := by rw [e3]; exact up_s
  have r1 : rd3 1 = (tV B n (ps B n r 1)) := by rw [e3, up_n (by omega), up_n (by omega), up_s]
  have r2 : rd3 2 = (tV B n (ps B n r 2)) := by rw [e3, up_n (by omega), up_s]
  refine e_keep (W := 3) (by omega) (iv_w hC.1 (by decide)) (fun h => ?_) (fun h => ?_)
  · rw [if_pos h] at g; exact g
  · rw [if_neg h] at g
    have e : kp td rd3 3 3 = upd (upd (upd (upd td 0 (td 0 + 1)) (Int32.toNatClampNeg ((1 + 3 * td 0) + 0)) (rd3 0)) (Int32.toNatClampNeg ((1 + 3 * td 0) + 1)) (rd3 1)) (Int32.toNatClampNeg ((1 + 3 * td 0) + 2)) (rd3 2) := rfl
    rw [e, r0, r1, r2]
    exact g
set_option maxRecDepth 20000 in
theorem e_sig_17 {tp B rd td : Nat → Int32} {n r : Nat} {va wr fa pl : Int32} {wd : Int64} {post : Int32 → Int32 → Int32 → Int32 → Int32 → Int64 → Int32 → Int32 → Int32 → (Nat → Int32) → (Nat → Int32) → Int32 → Prop} (hn : n ≤ 600) (hr : r ≤ n) (hB : ∀ j, j < n → tp j = B j) (hb : ∀ j, iv (-128) 127 (B j)) (hlp : ¬ fa = 0 → pl < (nI (tF B n r))) (hK0 : ¬ tK B n r = 0) (hC : CB 2 td)
    (hF : ∀ j, 1 ≤ j → j ≤ 2 → ¬ tK B n (ps B n r j) = 2 → (∀ i, 1 ≤ i → i < j → tK B n (ps B n r i) = 2) → ∀ (re be so va : Int32) (wd : Int64) (lf lp : Int32) (td rd : Nat → Int32) (gd : Int32), post 0 re be so va wd (nI (tF B n (ps B n r j))) lf lp td rd gd)
    (hT : (∀ j, 1 ≤ j → j ≤ 2 → tK B n (ps B n r j) = 2) → ∀ (va' : Int32) (wd' : Int64) (rd' : Nat → Int32) (gd' : Int32), (¬ mkF B n r 17 td fa 2 = 0 → mkP B n r 17 td fa pl 2 < (nI (tF B n (ps B n r 3)))) → post 1 (nI (tN B n (ps B n r 3))) (nI (tF B n (ps B n r 3))) (sI (tK B n (ps B n r 3))) va' wd' wr (mkF B n r 17 td fa 2) (mkP B n r 17 td fa pl 2) (lD 17 (gd B n r 17 2) (tV B n (ps B n r 1)) (tV B n (ps B n r 2)) (tV B n (ps B n r 3)) td) rd' gd') : q_m_sightLine_0 tp (nI (tN B n r)) (nI n) (nI (tF B n r)) (sI (tK B n r)) va wd wr fa pl td rd 1 (lN 1836414053) (nI (tF B n r)) post := by
  have hF1 := tF_nx hr hK0
  have htk := tk_le (B := B) hr
  have hl1 : ¬ mkF B n r 17 td fa 0 = 0 → mkP B n r 17 td fa pl 0 < nI (tF B n (tN B n r)) := LP_n hlp hF1.1 (by omega)
  refine ⟨fun h9 => absurd h9 (by decide +kernel), fun _ => ⟨fun _ => e_full (c := 0) (b := fu 17 td) (by omega) (by simp [fu]) hlp (e_tok (r := tN B n r) hn htk.2.1 hB hb (fun v1 w1 hv1 _ => ?_)), fun h9 => absurd h9 (by decide +kernel)⟩⟩
  refine e_take (k := 1) (i := 1) (c := cW 17 0 (tV B n (ps B n r 1)) (tV B n (ps B n r 1))) (g := gd B n r 17 0) hn hr hB hb hv1 hl1 (by omega) rfl (fun hk => iz (hF 1 (by omega) (by omega) hk (be1 (P := fun j => tK B n (ps B n r j) = 2)) _ _ _ _ _ _ _ _ _ _)) (fun k1 va1 wd1 hv2 hl2 => oi ?_)
  refine e_take (k := 2) (i := 2) (c := cW 17 1 (tV B n (ps B n r 1)) (tV B n (ps B n r 2))) (g := gd B n r 17 1) hn hr hB hb hv2 hl2 (by omega) rfl (fun hk => zi (hF 2 (by omega) (by omega) hk (be2 (P := fun j => tK B n (ps B n r j) = 2) k1) _ _ _ _ _ _ _ _ _ _)) (fun k2 va2 wd2 hv3 hl3 => io ?_)
  refine ⟨fun _ => ⟨vp_in_nI (n := 0) (by decide) (by decide), fun rd3 e3 => ?_⟩, fun h9 => absurd h9 (by decide +kernel)⟩
  rw [c_0] at e3
  have g := hT (al2 (P := fun j => tK B n (ps B n r j) = 2) k1 k2) va2 wd2 rd3 (gI (gd B n r 17 2)) hl3
  rw [show lD 17 (gd B n r 17 2) (tV B n (ps B n r 1)) (tV B n (ps B n r 2)) (tV B n (ps B n r 3)) td = (if td 0 = 10 then td else upd (upd (upd (upd td 0 (td 0 + 1)) (Int32.toNatClampNeg ((1 + 3 * td 0) + 0)) 0) (Int32.toNatClampNeg ((1 + 3 * td 0) + 1)) (tV B n (ps B n r 1))) (Int32.toNatClampNeg ((1 + 3 * td 0) + 2)) (tV B n (ps B n r 2))) from rfl] at g
  have r0 : rd3 0 = 0 := by rw [e3]; exact up_s
  have r1 : rd3 1 = (tV B n (ps B n r 1)) := by rw [e3, up_n (by omega), up_n (by omega), up_s]
  have r2 : rd3 2 = (tV B n (ps B n r 2)) := by rw [e3, up_n (by omega), up_s]
  refine e_keep (W := 3) (by omega) (iv_w hC.1 (by decide)) (fun h => ?_) (fun h => ?_)
  · rw [if_pos h] at g; exact g
  · rw [if_neg h] at g
    have e : kp td rd3 3 3 = upd (upd (upd (upd td 0 (td 0 + 1)) (Int32.toNatClampNeg ((1 + 3 * td 0) + 0)) (rd3 0)) (Int32.toNatClampNeg ((1 + 3 * td 0) + 1)) (rd3 1)) (Int32.toNatClampNeg ((1 + 3 * td 0) + 2)) (rd3 2) := rfl
    rw [e, r0, r1, r2]
    exact g
set_option maxRecDepth 20000 in
theorem e_cho_18 {tp B rd td : Nat → Int32} {n r : Nat} {va wr fa pl : Int32} {wd : Int64} {post : Int32 → Int32 → Int32 → Int32 → Int32 → Int64 → Int32 → Int32 → Int32 → (Nat → Int32) → (Nat → Int32) → Int32 → Prop} (hn : n ≤ 600) (hr : r ≤ n) (hB : ∀ j, j < n → tp j = B j) (hb : ∀ j, iv (-128) 127 (B j)) (hlp : ¬ fa = 0 → pl < (nI (tF B n r))) (hK0 : ¬ tK B n r = 0) (hC : CB 3 td)
    (hF : ∀ j, 1 ≤ j → j ≤ 2 → ¬ tK B n (ps B n r j) = 2 → (∀ i, 1 ≤ i → i < j → tK B n (ps B n r i) = 2) → ∀ (re be so va : Int32) (wd : Int64) (lf lp : Int32) (td rd : Nat → Int32) (gd : Int32), post 0 re be so va wd (nI (tF B n (ps B n r j))) lf lp td rd gd)
    (hT : (∀ j, 1 ≤ j → j ≤ 2 → tK B n (ps B n r j) = 2) → ∀ (va' : Int32) (wd' : Int64) (rd' : Nat → Int32) (gd' : Int32), (¬ mkF B n r 18 td fa 2 = 0 → mkP B n r 18 td fa pl 2 < (nI (tF B n (ps B n r 3)))) → post 1 (nI (tN B n (ps B n r 3))) (nI (tF B n (ps B n r 3))) (sI (tK B n (ps B n r 3))) va' wd' wr (mkF B n r 18 td fa 2) (mkP B n r 18 td fa pl 2) (lD 18 (gd B n r 18 2) (tV B n (ps B n r 1)) (tV B n (ps B n r 2)) (tV B n (ps B n r 3)) td) rd' gd') : q_m_choirLine_0 tp (nI (tN B n r)) (nI n) (nI (tF B n r)) (sI (tK B n r)) va wd wr fa pl td rd 1 (lN 508675318629) (nI (tF B n r)) post := by
  have hF1 := tF_nx hr hK0
  have htk := tk_le (B := B) hr
  have hl1 : ¬ mkF B n r 18 td fa 0 = 0 → mkP B n r 18 td fa pl 0 < nI (tF B n (tN B n r)) := LP_n hlp hF1.1 (by omega)
  refine ⟨fun _ => ⟨fun h9 => absurd h9 (by decide +kernel), fun _ => e_full (c := 0) (b := fu 18 td) (by omega) (by simp [fu]) hlp (e_tok (r := tN B n r) hn htk.2.1 hB hb (fun v1 w1 hv1 _ => ⟨fun _ => ?_, fun h9 => absurd h9 (by decide +kernel)⟩))⟩, fun h9 => absurd h9 (by decide +kernel)⟩
  refine e_take (k := 1) (i := 0) (c := cW 18 0 (tV B n (ps B n r 1)) (tV B n (ps B n r 1))) (g := gd B n r 18 0) hn hr hB hb hv1 hl1 (by omega) rfl (fun hk => iz (hF 1 (by omega) (by omega) hk (be1 (P := fun j => tK B n (ps B n r j) = 2)) _ _ _ _ _ _ _ _ _ _)) (fun k1 va1 wd1 hv2 hl2 => oi ?_)
  refine e_take (k := 2) (i := 1) (c := cW 18 1 (tV B n (ps B n r 1)) (tV B n (ps B n r 2))) (g := gd B n r 18 1) hn hr hB hb hv2 hl2 (by omega) rfl (fun hk => zi (hF 2 (by omega) (by omega) hk (be2 (P := fun j => tK B n (ps B n r j) = 2) k1) _ _ _ _ _ _ _ _ _ _)) (fun k2 va2 wd2 hv3 hl3 => io ?_)
  have r0 : (upd (upd rd 0 (tV B n (ps B n r 1))) 1 (tV B n (ps B n r 2))) 0 = (tV B n (ps B n r 1)) := by rw [up_n (by omega), up_s]
  have r1 : (upd (upd rd 0 (tV B n (ps B n r 1))) 1 (tV B n (ps B n r 2))) 1 = (tV B n (ps B n r 2)) := up_s
  have g := hT (al2 (P := fun j => tK B n (ps B n r j) = 2) k1 k2) va2 wd2 (upd (upd rd 0 (tV B n (ps B n r 1))) 1 (tV B n (ps B n r 2))) (gI (gd B n r 18 2)) hl3
  rw [show lD 18 (gd B n r 18 2) (tV B n (ps B n r 1)) (tV B n (ps B n r 2)) (tV B n (ps B n r 3)) td = (if td 0 = 9 then td else upd (upd (upd td 0 (td 0 + 1)) (Int32.toNatClampNeg ((1 + 2 * td 0) + 0)) (tV B n (ps B n r 1))) (Int32.toNatClampNeg ((1 + 2 * td 0) + 1)) (tV B n (ps B n r 2))) from rfl] at g
  refine e_keep (W := 2) (by omega) (iv_w hC.1 (by decide)) (fun h => ?_) (fun h => ?_)
  · rw [if_pos h] at g; exact g
  · rw [if_neg h] at g
    have e : kp td (upd (upd rd 0 (tV B n (ps B n r 1))) 1 (tV B n (ps B n r 2))) 2 2 = upd (upd (upd td 0 (td 0 + 1)) (Int32.toNatClampNeg ((1 + 2 * td 0) + 0)) ((upd (upd rd 0 (tV B n (ps B n r 1))) 1 (tV B n (ps B n r 2))) 0)) (Int32.toNatClampNeg ((1 + 2 * td 0) + 1)) ((upd (upd rd 0 (tV B n (ps B n r 1))) 1 (tV B n (ps B n r 2))) 1) := rfl
    rw [e, r0, r1]
    exact g
set_option maxRecDepth 20000 in
theorem e_cho_19 {tp B rd td : Nat → Int32} {n r : Nat} {va wr fa pl : Int32} {wd : Int64} {post : Int32 → Int32 → Int32 → Int32 → Int32 → Int64 → Int32 → Int32 → Int32 → (Nat → Int32) → (Nat → Int32) → Int32 → Prop} (hn : n ≤ 600) (hr : r ≤ n) (hB : ∀ j, j < n → tp j = B j) (hb : ∀ j, iv (-128) 127 (B j)) (hlp : ¬ fa = 0 → pl < (nI (tF B n r))) (hK0 : ¬ tK B n r = 0) 
    (hF : ∀ j, 1 ≤ j → j ≤ 1 → ¬ tK B n (ps B n r j) = 2 → (∀ i, 1 ≤ i → i < j → tK B n (ps B n r i) = 2) → ∀ (re be so va : Int32) (wd : Int64) (lf lp : Int32) (td rd : Nat → Int32) (gd : Int32), post 0 re be so va wd (nI (tF B n (ps B n r j))) lf lp td rd gd)
    (hT : (∀ j, 1 ≤ j → j ≤ 1 → tK B n (ps B n r j) = 2) → ∀ (va' : Int32) (wd' : Int64) (rd' : Nat → Int32) (gd' : Int32), (¬ mkF B n r 19 td fa 1 = 0 → mkP B n r 19 td fa pl 1 < (nI (tF B n (ps B n r 2)))) → post 1 (nI (tN B n (ps B n r 2))) (nI (tF B n (ps B n r 2))) (sI (tK B n (ps B n r 2))) va' wd' wr (mkF B n r 19 td fa 1) (mkP B n r 19 td fa pl 1) (lD 19 (gd B n r 19 1) (tV B n (ps B n r 1)) (tV B n (ps B n r 2)) (tV B n (ps B n r 3)) td) rd' gd') : q_m_choirLine_0 tp (nI (tN B n r)) (nI n) (nI (tF B n r)) (sI (tK B n r)) va wd wr fa pl td rd 1 (lN 1937007984) (nI (tF B n r)) post := by
  have hF1 := tF_nx hr hK0
  have htk := tk_le (B := B) hr
  have hl1 : ¬ mkF B n r 19 td fa 0 = 0 → mkP B n r 19 td fa pl 0 < nI (tF B n (tN B n r)) := LP_n hlp hF1.1 (by omega)
  have hfu : fu 19 td = false := by simp [fu]
  have e1 : mkF B n r 19 td fa 0 = fa := by show mF (!fu 19 td) fa 3 = fa; rw [hfu]; rfl
  have e2 : mkP B n r 19 td fa pl 0 = pl := by show mP (!fu 19 td) fa pl _ = pl; rw [hfu]; rfl
  have st : q_m_choirLine_37 tp (nI (tN B n r)) (nI n) (nI (tF B n r)) (sI (tK B n r)) va wd wr (mkF B n r 19 td fa 0) (mkP B n r 19 td fa pl 0) td rd 1 (lN 1937007984) post := by
    refine e_tok (r := tN B n r) hn htk.2.1 hB hb (fun v1 w1 hv1 _ => ⟨fun h9 => absurd h9 (by decide +kernel), fun _ => ?_⟩)
    exact e_plainLine_19 hn hr hB hb hv1 hl1 (fun j a b c d re be so va wd lf lp td rd gd => ⟨rfl, hF j a b c d re be so va wd lf lp td rd gd⟩) (fun hk va2 wd2 rd2 gd2 hl => ⟨rfl, hT hk va2 wd2 rd2 gd2 hl⟩)
  rw [e1, e2] at st
  exact ⟨fun h9 => absurd h9 (by decide +kernel), fun _ => ⟨fun _ => ⟨fun _ => st, fun h9 => absurd h9 (by decide +kernel)⟩, fun h9 => absurd h9 (by decide +kernel)⟩⟩
set_option maxRecDepth 20000 in
theorem e_lineOf {tp B rd td : Nat → Int32} {n r o : Nat} {va wr fa pl fh fs : Int32} {wd x : Int64} {post : Int32 → Int32 → Int32 → Int32 → Int32 → Int64 → Int32 → Int32 → Int32 → (Nat → Int32) → (Nat → Int32) → Int32 → Int32 → Int32 → Prop} (hn : n ≤ 600) (hr : r ≤ n) (hB : ∀ j, j < n → tp j = B j) (hb : ∀ j, iv (-128) 127 (B j)) (hlp : ¬ fa = 0 → pl < (nI (tF B n r))) (hK0 : ¬ tK B n r = 0) (ho : o ≤ 3) (hC : CB o td) (hw : tK B n r = 1 → x = tW B n r) (hw0 : ¬ tK B n r = 1 → x = 0)
    (hN : wOf B n r o = 20 → ∀ (re be so va : Int32) (wd : Int64) (lf lp : Int32) (td rd : Nat → Int32) (fh fs : Int32) (gd : Int32), post 0 re be so va wd (nI (tF B n r)) lf lp td rd fh fs gd)
    (hF : wOf B n r o < 20 → ∀ j, 1 ≤ j → j ≤ (nW (wOf B n r o)) → ¬ tK B n (ps B n r j) = 2 → (∀ i, 1 ≤ i → i < j → tK B n (ps B n r i) = 2) → ∀ (re be so va : Int32) (wd : Int64) (lf lp : Int32) (td rd : Nat → Int32) (fh fs : Int32) (gd : Int32), post 0 re be so va wd (nI (tF B n (ps B n r j))) lf lp td rd fh fs gd)
    (hT : wOf B n r o < 20 → (∀ j, 1 ≤ j → j ≤ (nW (wOf B n r o)) → tK B n (ps B n r j) = 2) → ∀ (va' : Int32) (wd' : Int64) (rd' : Nat → Int32) (gd' : Int32), (¬ mkF B n r (wOf B n r o) td fa (nW (wOf B n r o)) = 0 → mkP B n r (wOf B n r o) td fa pl (nW (wOf B n r o)) < (nI (tF B n (ps B n r ((nW (wOf B n r o)) + 1))))) → post 1 (nI (tN B n (ps B n r ((nW (wOf B n r o)) + 1)))) (nI (tF B n (ps B n r ((nW (wOf B n r o)) + 1)))) (sI (tK B n (ps B n r ((nW (wOf B n r o)) + 1)))) va' wd' wr (mkF B n r (wOf B n r o) td fa (nW (wOf B n r o))) (mkP B n r (wOf B n r o) td fa pl (nW (wOf B n r o))) (lD (wOf B n r o) (gd B n r (wOf B n r o) (nW (wOf B n r o))) (tV B n (ps B n r 1)) (tV B n (ps B n r 2)) (tV B n (ps B n r 3)) td) rd' (lH (wOf B n r o) (tV B n (ps B n r 1)) (tV B n (ps B n r 2)) fh) (lS (wOf B n r o) (tV B n (ps B n r 1)) fs) gd') : q_m_lineOf_0 tp (nI (tN B n r)) (nI n) (nI (tF B n r)) (sI (tK B n r)) va wd wr fa pl td rd fh fs 1 (nI o) x (nI (tF B n r)) post := by
  have hxz : ∀ j, j < 20 → (x = lN (wC.getD j 0) ↔ (tK B n r = 1 ∧ spl B (tF B n r) (tN B n r) j)) := by
    intro j hj
    by_cases hk : tK B n r = 1
    · rw [hw hk, tW_iff hr hb hj hk]
      exact ⟨fun h => ⟨hk, h⟩, fun h => h.2⟩
    · rw [hw0 hk]
      refine ⟨fun h => absurd h ?_, fun h => absurd h.1 hk⟩
      have : ∀ j, j < 20 → ¬ (0 : Int64) = lN (wC.getD j 0) := by decide +kernel
      exact this j hj
  have hoc : o = 0 ∨ o = 1 ∨ o = 2 ∨ o = 3 := by omega
  rcases wd_cases (B := B) (n := n) (r := r) ho with ⟨h20, hno⟩ | ⟨hlt, hP⟩
  · have hx : ∀ j, wlo o ≤ j → j < wlo (o + 1) → ¬ x = lN (wC.getD j 0) := by
      intro j h1 h2 h3
      have hj : j < 20 := Nat.lt_of_lt_of_le h2 (wlo_lt o ho).1
      have h4 := (hxz j hj).mp h3
      exact hno j ⟨h1, h2, h4.1, h4.2⟩
    have hp := hN h20
    rcases hoc with rfl | rfl | rfl | rfl
    · exact ⟨fun h9 => absurd h9 (by decide +kernel), fun _ => e_landNo hx ⟨rfl, hp _ _ _ _ _ _ _ _ _ _ _ _⟩, fun h9 => absurd h9 (by decide +kernel), fun h9 => absurd h9 (by decide +kernel)⟩
    · exact ⟨fun h9 => absurd h9 (by decide +kernel), fun h9 => absurd h9 (by decide +kernel), fun _ => e_eveNo hx ⟨rfl, hp _ _ _ _ _ _ _ _ _ _ _ _⟩, fun h9 => absurd h9 (by decide +kernel)⟩
    · exact ⟨fun h9 => absurd h9 (by decide +kernel), fun h9 => absurd h9 (by decide +kernel), fun h9 => absurd h9 (by decide +kernel), fun _ => e_sigNo hx ⟨rfl, hp _ _ _ _ _ _ _ _ _ _ _ _⟩⟩
    · exact ⟨fun _ => e_choNo hx ⟨rfl, hp _ _ _ _ _ _ _ _ _ _ _ _⟩, fun h9 => absurd h9 (by decide +kernel), fun h9 => absurd h9 (by decide +kernel), fun h9 => absurd h9 (by decide +kernel)⟩
  · have hF := hF hlt
    have hT := hT hlt
    have hx := (hxz _ hlt).mpr ⟨hP.2.2.1, hP.2.2.2⟩
    have h1 := hP.1
    have h2 := hP.2.1
    generalize wOf B n r o = w at hF hT hx h1 h2 hlt
    rcases hoc with rfl | rfl | rfl | rfl
    · have h3 : w < 10 := h2
      have h4 : 0 ≤ w := h1
      have hc : w = 0 ∨ w = 1 ∨ w = 2 ∨ w = 3 ∨ w = 4 ∨ w = 5 ∨ w = 6 ∨ w = 7 ∨ w = 8 ∨ w = 9 := by omega
      rcases hc with rfl | rfl | rfl | rfl | rfl | rfl | rfl | rfl | rfl | rfl
      · rw [hx]
        exact ⟨fun h9 => absurd h9 (by decide +kernel), fun _ => e_land_0 hn hr hB hb hlp hK0 hC (fun j a b c d re be so va wd lf lp td rd fh fs gd => ⟨rfl, hF j a b c d re be so va wd lf lp td rd fh fs gd⟩) (fun hk va2 wd2 rd2 gd2 hl => ⟨rfl, hT hk va2 wd2 rd2 gd2 hl⟩), fun h9 => absurd h9 (by decide +kernel), fun h9 => absurd h9 (by decide +kernel)⟩
      · rw [hx]
        exact ⟨fun h9 => absurd h9 (by decide +kernel), fun _ => e_land_1 hn hr hB hb hlp hK0 hC (fun j a b c d re be so va wd lf lp td rd fh fs gd => ⟨rfl, hF j a b c d re be so va wd lf lp td rd fh fs gd⟩) (fun hk va2 wd2 rd2 gd2 hl => ⟨rfl, hT hk va2 wd2 rd2 gd2 hl⟩), fun h9 => absurd h9 (by decide +kernel), fun h9 => absurd h9 (by decide +kernel)⟩
      · rw [hx]
        exact ⟨fun h9 => absurd h9 (by decide +kernel), fun _ => e_land_2 hn hr hB hb hlp hK0 hC (fun j a b c d re be so va wd lf lp td rd fh fs gd => ⟨rfl, hF j a b c d re be so va wd lf lp td rd fh fs gd⟩) (fun hk va2 wd2 rd2 gd2 hl => ⟨rfl, hT hk va2 wd2 rd2 gd2 hl⟩), fun h9 => absurd h9 (by decide +kernel), fun h9 => absurd h9 (by decide +kernel)⟩
      · rw [hx]
        exact ⟨fun h9 => absurd h9 (by decide +kernel), fun _ => e_land_3 hn hr hB hb hlp hK0 hC (fun j a b c d re be so va wd lf lp td rd fh fs gd => ⟨rfl, hF j a b c d re be so va wd lf lp td rd fh fs gd⟩) (fun hk va2 wd2 rd2 gd2 hl => ⟨rfl, hT hk va2 wd2 rd2 gd2 hl⟩), fun h9 => absurd h9 (by decide +kernel), fun h9 => absurd h9 (by decide +kernel)⟩
      · rw [hx]
        exact ⟨fun h9 => absurd h9 (by decide +kernel), fun _ => e_land_4 hn hr hB hb hlp hK0 hC (fun j a b c d re be so va wd lf lp td rd fh fs gd => ⟨rfl, hF j a b c d re be so va wd lf lp td rd fh fs gd⟩) (fun hk va2 wd2 rd2 gd2 hl => ⟨rfl, hT hk va2 wd2 rd2 gd2 hl⟩), fun h9 => absurd h9 (by decide +kernel), fun h9 => absurd h9 (by decide +kernel)⟩
      · rw [hx]
        exact ⟨fun h9 => absurd h9 (by decide +kernel), fun _ => e_land_5 hn hr hB hb hlp hK0 hC (fun j a b c d re be so va wd lf lp td rd fh fs gd => ⟨rfl, hF j a b c d re be so va wd lf lp td rd fh fs gd⟩) (fun hk va2 wd2 rd2 gd2 hl => ⟨rfl, hT hk va2 wd2 rd2 gd2 hl⟩), fun h9 => absurd h9 (by decide +kernel), fun h9 => absurd h9 (by decide +kernel)⟩
      · rw [hx]
        exact ⟨fun h9 => absurd h9 (by decide +kernel), fun _ => e_land_6 hn hr hB hb hlp hK0 hC (fun j a b c d re be so va wd lf lp td rd fh fs gd => ⟨rfl, hF j a b c d re be so va wd lf lp td rd fh fs gd⟩) (fun hk va2 wd2 rd2 gd2 hl => ⟨rfl, hT hk va2 wd2 rd2 gd2 hl⟩), fun h9 => absurd h9 (by decide +kernel), fun h9 => absurd h9 (by decide +kernel)⟩
      · rw [hx]
        exact ⟨fun h9 => absurd h9 (by decide +kernel), fun _ => e_land_7 hn hr hB hb hlp hK0 hC (fun j a b c d re be so va wd lf lp td rd fh fs gd => ⟨rfl, hF j a b c d re be so va wd lf lp td rd fh fs gd⟩) (fun hk va2 wd2 rd2 gd2 hl => ⟨rfl, hT hk va2 wd2 rd2 gd2 hl⟩), fun h9 => absurd h9 (by decide +kernel), fun h9 => absurd h9 (by decide +kernel)⟩
      · rw [hx]
        exact ⟨fun h9 => absurd h9 (by decide +kernel), fun _ => e_land_8 hn hr hB hb hlp hK0 hC (fun j a b c d re be so va wd lf lp td rd fh fs gd => ⟨rfl, hF j a b c d re be so va wd lf lp td rd fh fs gd⟩) (fun hk va2 wd2 rd2 gd2 hl => ⟨rfl, hT hk va2 wd2 rd2 gd2 hl⟩), fun h9 => absurd h9 (by decide +kernel), fun h9 => absurd h9 (by decide +kernel)⟩
      · rw [hx]
        exact ⟨fun h9 => absurd h9 (by decide +kernel), fun _ => e_land_9 hn hr hB hb hlp hK0 hC (fun j a b c d re be so va wd lf lp td rd fh fs gd => ⟨rfl, hF j a b c d re be so va wd lf lp td rd fh fs gd⟩) (fun hk va2 wd2 rd2 gd2 hl => ⟨rfl, hT hk va2 wd2 rd2 gd2 hl⟩), fun h9 => absurd h9 (by decide +kernel), fun h9 => absurd h9 (by decide +kernel)⟩
    · have h3 : w < 16 := h2
      have h4 : 10 ≤ w := h1
      have hc : w = 10 ∨ w = 11 ∨ w = 12 ∨ w = 13 ∨ w = 14 ∨ w = 15 := by omega
      rcases hc with rfl | rfl | rfl | rfl | rfl | rfl
      · rw [hx]
        exact ⟨fun h9 => absurd h9 (by decide +kernel), fun h9 => absurd h9 (by decide +kernel), fun _ => e_eve_10 hn hr hB hb hlp hK0 hC (fun j a b c d re be so va wd lf lp td rd gd => ⟨rfl, hF j a b c d re be so va wd lf lp td rd fh fs gd⟩) (fun hk va2 wd2 rd2 gd2 hl => ⟨rfl, hT hk va2 wd2 rd2 gd2 hl⟩), fun h9 => absurd h9 (by decide +kernel)⟩
      · rw [hx]
        exact ⟨fun h9 => absurd h9 (by decide +kernel), fun h9 => absurd h9 (by decide +kernel), fun _ => e_eve_11 hn hr hB hb hlp hK0 hC (fun j a b c d re be so va wd lf lp td rd gd => ⟨rfl, hF j a b c d re be so va wd lf lp td rd fh fs gd⟩) (fun hk va2 wd2 rd2 gd2 hl => ⟨rfl, hT hk va2 wd2 rd2 gd2 hl⟩), fun h9 => absurd h9 (by decide +kernel)⟩
      · rw [hx]
        exact ⟨fun h9 => absurd h9 (by decide +kernel), fun h9 => absurd h9 (by decide +kernel), fun _ => e_eve_12 hn hr hB hb hlp hK0 hC (fun j a b c d re be so va wd lf lp td rd gd => ⟨rfl, hF j a b c d re be so va wd lf lp td rd fh fs gd⟩) (fun hk va2 wd2 rd2 gd2 hl => ⟨rfl, hT hk va2 wd2 rd2 gd2 hl⟩), fun h9 => absurd h9 (by decide +kernel)⟩
      · rw [hx]
        exact ⟨fun h9 => absurd h9 (by decide +kernel), fun h9 => absurd h9 (by decide +kernel), fun _ => e_eve_13 hn hr hB hb hlp hK0 hC (fun j a b c d re be so va wd lf lp td rd gd => ⟨rfl, hF j a b c d re be so va wd lf lp td rd fh fs gd⟩) (fun hk va2 wd2 rd2 gd2 hl => ⟨rfl, hT hk va2 wd2 rd2 gd2 hl⟩), fun h9 => absurd h9 (by decide +kernel)⟩
      · rw [hx]
        exact ⟨fun h9 => absurd h9 (by decide +kernel), fun h9 => absurd h9 (by decide +kernel), fun _ => e_eve_14 hn hr hB hb hlp hK0 hC (fun j a b c d re be so va wd lf lp td rd gd => ⟨rfl, hF j a b c d re be so va wd lf lp td rd fh fs gd⟩) (fun hk va2 wd2 rd2 gd2 hl => ⟨rfl, hT hk va2 wd2 rd2 gd2 hl⟩), fun h9 => absurd h9 (by decide +kernel)⟩
      · rw [hx]
        exact ⟨fun h9 => absurd h9 (by decide +kernel), fun h9 => absurd h9 (by decide +kernel), fun _ => e_eve_15 hn hr hB hb hlp hK0 hC (fun j a b c d re be so va wd lf lp td rd gd => ⟨rfl, hF j a b c d re be so va wd lf lp td rd fh fs gd⟩) (fun hk va2 wd2 rd2 gd2 hl => ⟨rfl, hT hk va2 wd2 rd2 gd2 hl⟩), fun h9 => absurd h9 (by decide +kernel)⟩
    · have h3 : w < 18 := h2
      have h4 : 16 ≤ w := h1
      have hc : w = 16 ∨ w = 17 := by omega
      rcases hc with rfl | rfl
      · rw [hx]
        exact ⟨fun h9 => absurd h9 (by decide +kernel), fun h9 => absurd h9 (by decide +kernel), fun h9 => absurd h9 (by decide +kernel), fun _ => e_sig_16 hn hr hB hb hlp hK0 hC (fun j a b c d re be so va wd lf lp td rd gd => ⟨rfl, hF j a b c d re be so va wd lf lp td rd fh fs gd⟩) (fun hk va2 wd2 rd2 gd2 hl => ⟨rfl, hT hk va2 wd2 rd2 gd2 hl⟩)⟩
      · rw [hx]
        exact ⟨fun h9 => absurd h9 (by decide +kernel), fun h9 => absurd h9 (by decide +kernel), fun h9 => absurd h9 (by decide +kernel), fun _ => e_sig_17 hn hr hB hb hlp hK0 hC (fun j a b c d re be so va wd lf lp td rd gd => ⟨rfl, hF j a b c d re be so va wd lf lp td rd fh fs gd⟩) (fun hk va2 wd2 rd2 gd2 hl => ⟨rfl, hT hk va2 wd2 rd2 gd2 hl⟩)⟩
    · have h3 : w < 20 := h2
      have h4 : 18 ≤ w := h1
      have hc : w = 18 ∨ w = 19 := by omega
      rcases hc with rfl | rfl
      · rw [hx]
        exact ⟨fun _ => e_cho_18 hn hr hB hb hlp hK0 hC (fun j a b c d re be so va wd lf lp td rd gd => ⟨rfl, hF j a b c d re be so va wd lf lp td rd fh fs gd⟩) (fun hk va2 wd2 rd2 gd2 hl => ⟨rfl, hT hk va2 wd2 rd2 gd2 hl⟩), fun h9 => absurd h9 (by decide +kernel), fun h9 => absurd h9 (by decide +kernel), fun h9 => absurd h9 (by decide +kernel)⟩
      · rw [hx]
        exact ⟨fun _ => e_cho_19 hn hr hB hb hlp hK0 (fun j a b c d re be so va wd lf lp td rd gd => ⟨rfl, hF j a b c d re be so va wd lf lp td rd fh fs gd⟩) (fun hk va2 wd2 rd2 gd2 hl => ⟨rfl, hT hk va2 wd2 rd2 gd2 hl⟩), fun h9 => absurd h9 (by decide +kernel), fun h9 => absurd h9 (by decide +kernel), fun h9 => absurd h9 (by decide +kernel)⟩
end
section
/-- pure facts of a line -/
theorem lbr_f {B : Nat → Int32} {n r j : Nat} : ∀ d k, k < j → j ≤ k + d → ¬ tK B n (ps B n r j) = 2 → (∀ i, k < i → i < j → tK B n (ps B n r i) = 2) → lbr B n r d k = j
  | 0, k => fun h1 h2 _ _ => absurd h2 (by omega)
  | d + 1, k => fun h1 h2 h3 h4 => by
    unfold lbr
    by_cases hj : j = k + 1
    · subst hj
      rw [if_neg h3]
    · rw [if_pos (h4 (k + 1) (by omega) (by omega))]
      exact lbr_f d (k + 1) (by omega) (by omega) h3 (fun i a b => h4 i (by omega) b)
theorem lbr_t {B : Nat → Int32} {n r : Nat} : ∀ d k, (∀ j, k < j → j ≤ k + d → tK B n (ps B n r j) = 2) → lbr B n r d k = if tK B n (ps B n r (k + d + 1)) = 3 then 9 else k + d + 1
  | 0, k => fun _ => rfl
  | d + 1, k => fun h => by
    unfold lbr
    rw [if_pos (h (k + 1) (by omega) (by omega)), lbr_t d (k + 1) (fun j a b => h j (by omega) (by omega))]
    rw [show k + 1 + d + 1 = k + (d + 1) + 1 by omega]
theorem fu_ext {w : Nat} {td td' : Nat → Int32} (h : ∀ j, j < 132 → td j = td' j) : fu w td = fu w td' := by
  unfold fu
  rw [h 0 (by omega), h 1 (by omega), h 4 (by omega)]
theorem mkF_ext {B : Nat → Int32} {n r w : Nat} {td td' : Nat → Int32} {fa : Int32} (h : fu w td = fu w td') : ∀ k, mkF B n r w td fa k = mkF B n r w td' fa k
  | 0 => by unfold mkF; rw [h]
  | k + 1 => by unfold mkF; rw [mkF_ext h k]
theorem mkP_ext {B : Nat → Int32} {n r w : Nat} {td td' : Nat → Int32} {fa pl : Int32} (h : fu w td = fu w td') : ∀ k, mkP B n r w td fa pl k = mkP B n r w td' fa pl k
  | 0 => by unfold mkP; rw [h]
  | k + 1 => by unfold mkP; rw [mkF_ext h k, mkP_ext h k]
theorem mkP_ir {B : Nat → Int32} {n r w : Nat} {td : Nat → Int32} {fa lp pl : Int32} (h : ¬ fa = 0 → lp = pl) : ∀ k, ¬ mkF B n r w td fa k = 0 → mkP B n r w td fa lp k = mkP B n r w td fa pl k
  | 0 => fun hm => by
    unfold mkF mF at hm
    unfold mkP mP
    by_cases hc : (!fu w td) = true
    · rw [if_pos hc] at hm ⊢
      rw [if_pos hc]
      exact h hm
    · rw [if_neg hc, if_neg hc]
      by_cases hf : fa = 0
      · rw [if_pos hf, if_pos hf]
      · rw [if_neg hf, if_neg hf]; exact h hf
  | k + 1 => fun hm => by
    unfold mkF mF at hm
    unfold mkP mP
    by_cases hc : cW w k (tV B n (ps B n r 1)) (tV B n (ps B n r (k + 1))) = true
    · rw [if_pos hc] at hm ⊢
      rw [if_pos hc]
      exact mkP_ir h k hm
    · rw [if_neg hc, if_neg hc]
      by_cases hf : mkF B n r w td fa k = 0
      · rw [if_pos hf, if_pos hf]
      · rw [if_neg hf, if_neg hf]; exact mkP_ir h k hf
theorem upd_ext {f g : Nat → Int32} {k : Nat} {v v' : Int32} (h : ∀ j, j < 132 → f j = g j) (hv : k < 132 → v = v') : ∀ j, j < 132 → upd f k v j = upd g k v' j := by
  intro j hj
  by_cases hjk : j = k
  · subst hjk; rw [up_s, up_s]; exact hv hj
  · rw [up_n hjk, up_n hjk]; exact h j hj
theorem lD_ext {w : Nat} {g : Bool} {a b c : Int32} {td td' : Nat → Int32} (h : ∀ j, j < 132 → td j = td' j) : ∀ j, j < 132 → lD w g a b c td j = lD w g a b c td' j := by
  have h0 := h 0 (by omega)
  have h1 := h 1 (by omega)
  have h4 := h 4 (by omega)
  have ite_ext : ∀ (P : Prop) [Decidable P] (f g f' g' : Nat → Int32), (∀ j, j < 132 → f j = f' j) → (∀ j, j < 132 → g j = g' j) → ∀ j, j < 132 → (if P then f else g) j = (if P then f' else g') j := by
    intro P _ f g f' g' ha hb j hj
    by_cases hP : P
    · rw [if_pos hP, if_pos hP]; exact ha j hj
    · rw [if_neg hP, if_neg hP]; exact hb j hj
  unfold lD
  rw [h0, h1, h4, h 2 (by omega), h 3 (by omega)]
  refine ite_ext _ _ _ _ _ (ite_ext _ _ _ _ _ h (upd_ext (upd_ext h (fun _ => rfl)) (fun _ => rfl))) ?_
  refine ite_ext _ _ _ _ _ (upd_ext h (fun _ => rfl)) ?_
  refine ite_ext _ _ _ _ _ (upd_ext h (fun _ => rfl)) ?_
  refine ite_ext _ _ _ _ _ (upd_ext h (fun _ => rfl)) ?_
  refine ite_ext _ _ _ _ _ (upd_ext h (fun _ => rfl)) ?_
  refine ite_ext _ _ _ _ _ (ite_ext _ _ _ _ _ (upd_ext (upd_ext h (fun _ => rfl)) (fun _ => rfl)) h) ?_
  refine ite_ext _ _ _ _ _ (ite_ext _ _ _ _ _ h (upd_ext (upd_ext (upd_ext h (fun _ => rfl)) (fun _ => rfl)) (fun _ => rfl))) ?_
  refine ite_ext _ _ _ _ _ (ite_ext _ _ _ _ _ (upd_ext h (fun _ => rfl)) h) ?_
  refine ite_ext _ _ _ _ _ (ite_ext _ _ _ _ _ h (upd_ext (upd_ext (upd_ext h (fun _ => rfl)) (fun _ => rfl)) (fun _ => rfl))) ?_
  refine ite_ext _ _ _ _ _ (ite_ext _ _ _ _ _ (upd_ext h (fun hk => by rw [h _ hk])) h) ?_
  refine ite_ext _ _ _ _ _ (ite_ext _ _ _ _ _ h (upd_ext (upd_ext (upd_ext (upd_ext h (fun _ => rfl)) (fun _ => rfl)) (fun _ => rfl)) (fun _ => rfl))) ?_
  refine ite_ext _ _ _ _ _ (ite_ext _ _ _ _ _ h (upd_ext (upd_ext (upd_ext (upd_ext h (fun _ => rfl)) (fun _ => rfl)) (fun _ => rfl)) (fun _ => rfl))) ?_
  refine ite_ext _ _ _ _ _ (ite_ext _ _ _ _ _ h (upd_ext (upd_ext (upd_ext h (fun _ => rfl)) (fun _ => rfl)) (fun _ => rfl))) ?_
  exact upd_ext h (fun _ => rfl)
theorem iv_inc {x : Int32} {h : Nat} {m : Int32} (hx : iv 0 h x) (hm : m = nI h) (hh : h < 1000) (hne : ¬ x = m) : iv 0 h (x + 1) := by
  obtain ⟨k, rfl, -, hk, -⟩ := iv_nI hx (by decide)
  have : k ≠ h := fun e => hne (by rw [hm, e])
  rw [nI_1]
  exact iv_ofN (by omega) (by omega) (by omega)
theorem cl_ge {x : Int32} {l h : Int} {m : Nat} (hx : iv l h x) (hl : (m : Int) ≤ l) : m ≤ x.toNatClampNeg := by
  have e : x.toNatClampNeg = x.toInt.toNat := rfl
  have := hx.1
  omega
theorem iv_offs {c : Nat} {x : Int32} {h : Nat} (hx : iv 0 h x) (hc : c + h < 1000) : iv c (c + h : Nat) (nI c + x) := by
  obtain ⟨k, rfl, -, hk, -⟩ := iv_nI hx (by decide)
  rw [nI_add]
  exact iv_ofN (by omega) (by omega) (by omega)
/-- the counts stay in their bounds -/
theorem CB_lD {o w : Nat} {g : Bool} {a b c : Int32} {td : Nat → Int32} (ho : o ≤ 3) (hw : wlo o ≤ w ∧ w < wlo (o + 1)) (hC : CB o td) (h5 : g = true → iv 0 8 a ∧ (w = 5 → iv 0 8 b)) : CB o (lD w g a b c td) := by
  have far : ∀ (t : Nat → Int32) (i : Nat) (v : Int32), 5 ≤ i → ∀ j, j ≤ 4 → upd t i v j = t j := fun t i v hi j hj => up_n (by omega)
  have keep : ∀ t : Nat → Int32, (∀ j, j ≤ 4 → t j = td j) → CB o t := by
    intro t ht
    unfold CB
    rw [ht 0 (by omega), ht 1 (by omega), ht 4 (by omega)]
    exact hC
  have hoc : o = 0 ∨ o = 1 ∨ o = 2 ∨ o = 3 := by omega
  rcases hoc with rfl | rfl | rfl | rfl
  · have h1 : w < 10 := hw.2
    obtain ⟨c0, c14⟩ := hC
    obtain ⟨c1, c4⟩ := c14 rfl
    have c0' : iv 0 (9 : Nat) (td 0) := c0
    have c1' : iv 0 (6 : Nat) (td 1) := c1
    have c4' : iv 0 (4 : Nat) (td 4) := c4
    have hc : w = 0 ∨ w = 1 ∨ w = 2 ∨ w = 3 ∨ w = 4 ∨ w = 5 ∨ w = 6 ∨ w = 7 ∨ w = 8 ∨ w = 9 := by omega
    rcases hc with rfl | rfl | rfl | rfl | rfl | rfl | rfl | rfl | rfl | rfl
    · show CB 0 (if td 0 = 9 then td else upd (upd td 0 (td 0 + 1)) (Int32.toNatClampNeg (7 + td 0)) a)
      by_cases h9 : td 0 = 9
      · rw [if_pos h9]; exact keep td (fun _ _ => rfl)
      · rw [if_neg h9]
        have hi : 7 ≤ Int32.toNatClampNeg (7 + td 0) := cl_ge (iv_offs (c := 7) c0' (by omega)) (by omega)
        refine ⟨?_, fun _ => ⟨?_, ?_⟩⟩
        · rw [far _ _ _ (by omega) 0 (by omega), up_s]; exact iv_inc (h := 9) c0' rfl (by omega) h9
        · rw [far _ _ _ (by omega) 1 (by omega), up_n (by omega)]; exact c1
        · rw [far _ _ _ (by omega) 4 (by omega), up_n (by omega)]; exact c4
    · refine ⟨?_, fun _ => ⟨?_, ?_⟩⟩
      · exact c0
      · exact c1
      · exact c4
    · refine ⟨?_, fun _ => ⟨?_, ?_⟩⟩
      · exact c0
      · exact c1
      · exact c4
    · exact keep _ (far _ _ _ (by omega))
    · exact keep _ (far _ _ _ (by omega))
    · show CB 0 (if g = true then upd (upd td (Int32.toNatClampNeg ((51 + 9 * a) + b)) c) (Int32.toNatClampNeg ((51 + 9 * b) + a)) c else td)
      by_cases hg : g = true
      · rw [if_pos hg]
        obtain ⟨ha, hb⟩ := h5 hg
        have hb := hb rfl
        obtain ⟨p, rfl, -, hp, -⟩ := iv_nI ha (by decide)
        obtain ⟨q, rfl, -, hq, -⟩ := iv_nI hb (by decide)
        rw [ix9, ix9, nI_clamp (by omega), nI_clamp (by omega)]
        exact keep _ (fun j hj => by rw [far _ _ _ (by omega) j hj, far _ _ _ (by omega) j hj])
      · rw [if_neg hg]; exact keep td (fun _ _ => rfl)
    · show CB 0 (if td 4 = 4 then td else upd (upd (upd td 4 (td 4 + 1)) (Int32.toNatClampNeg (43 + 2 * td 4)) a) (Int32.toNatClampNeg (43 + 2 * td 4 + 1)) b)
      by_cases h9 : td 4 = 4
      · rw [if_pos h9]; exact keep td (fun _ _ => rfl)
      · rw [if_neg h9]
        have hinc := iv_inc c4' (m := 4) rfl (by omega) h9
        obtain ⟨k, hk, -, hk4, -⟩ := iv_nI c4' (by decide)
        have i1 : Int32.toNatClampNeg (43 + 2 * td 4) = 43 + 2 * k := by rw [hk, show (43 : Int32) = nI 43 from rfl, show (2 : Int32) = nI 2 from rfl, pk_mul, nI_add, nI_clamp (by omega)]
        have i2 : Int32.toNatClampNeg (43 + 2 * td 4 + 1) = 43 + 2 * k + 1 := by rw [hk, show (43 : Int32) = nI 43 from rfl, show (2 : Int32) = nI 2 from rfl, pk_mul, nI_add, nI_1, nI_clamp (by omega)]
        rw [i1, i2]
        refine ⟨?_, fun _ => ⟨?_, ?_⟩⟩
        · rw [far _ _ _ (by omega) 0 (by omega), far _ _ _ (by omega) 0 (by omega), up_n (by omega)]; exact c0
        · rw [far _ _ _ (by omega) 1 (by omega), far _ _ _ (by omega) 1 (by omega), up_n (by omega)]; exact c1
        · rw [far _ _ _ (by omega) 4 (by omega), far _ _ _ (by omega) 4 (by omega), up_s]; exact hinc
    · show CB 0 (if g = true then upd td (Int32.toNatClampNeg (16 + a)) b else td)
      by_cases hg : g = true
      · rw [if_pos hg]
        have hi : 16 ≤ Int32.toNatClampNeg (16 + a) := cl_ge (iv_offs (c := 16) (h := 8) (h5 hg).1 (by omega)) (by omega)
        exact keep _ (far _ _ _ (by omega))
      · rw [if_neg hg]; exact keep td (fun _ _ => rfl)
    · show CB 0 (if td 1 = 6 then td else upd (upd (upd td 1 (td 1 + 1)) (Int32.toNatClampNeg (25 + td 1)) a) (Int32.toNatClampNeg (31 + td 1)) b)
      by_cases h9 : td 1 = 6
      · rw [if_pos h9]; exact keep td (fun _ _ => rfl)
      · rw [if_neg h9]
        have hi : 25 ≤ Int32.toNatClampNeg (25 + td 1) := cl_ge (iv_offs (c := 25) c1' (by omega)) (by omega)
        have hi2 : 31 ≤ Int32.toNatClampNeg (31 + td 1) := cl_ge (iv_offs (c := 31) c1' (by omega)) (by omega)
        refine ⟨?_, fun _ => ⟨?_, ?_⟩⟩
        · rw [far _ _ _ (by omega) 0 (by omega), far _ _ _ (by omega) 0 (by omega), up_n (by omega)]; exact c0
        · rw [far _ _ _ (by omega) 1 (by omega), far _ _ _ (by omega) 1 (by omega), up_s]; exact iv_inc (h := 6) c1' rfl (by omega) h9
        · rw [far _ _ _ (by omega) 4 (by omega), far _ _ _ (by omega) 4 (by omega), up_n (by omega)]; exact c4
    · show CB 0 (if g = true then upd td (Int32.toNatClampNeg (37 + a)) (td (Int32.toNatClampNeg (37 + a)) ||| 1 <<< (b &&& 31)) else td)
      by_cases hg : g = true
      · rw [if_pos hg]
        have hi : 37 ≤ Int32.toNatClampNeg (37 + a) := cl_ge (iv_offs (c := 37) (h := 8) (h5 hg).1 (by omega)) (by omega)
        exact keep _ (far _ _ _ (by omega))
      · rw [if_neg hg]; exact keep td (fun _ _ => rfl)
  · have h1 : w < 16 := hw.2
    have h2 : 10 ≤ w := hw.1
    have c0' : iv 0 (40 : Nat) (td 0) := hC.1
    have e : lD w g a b c td = (if td 0 = 40 then td else upd (upd (upd (upd td 0 (td 0 + 1)) (Int32.toNatClampNeg ((1 + 3 * td 0) + 0)) (nI (w - 10))) (Int32.toNatClampNeg ((1 + 3 * td 0) + 1)) a) (Int32.toNatClampNeg ((1 + 3 * td 0) + 2)) (if w < 14 then b else -1)) := by
      unfold lD
      rw [if_neg (by omega), if_neg (by omega), if_neg (by omega), if_neg (by omega), if_neg (by omega), if_neg (by omega), if_neg (by omega), if_neg (by omega), if_neg (by omega), if_neg (by omega), if_pos (by omega)]
    rw [e]
    by_cases h9 : td 0 = 40
    · rw [if_pos h9]; exact hC
    · rw [if_neg h9]
      obtain ⟨k, hk, -, hk4, -⟩ := iv_nI c0' (by decide)
      have i0 : ∀ i : Nat, i ≤ 2 → Int32.toNatClampNeg ((1 + 3 * td 0) + nI i) = 1 + 3 * k + i := fun i hi => by rw [hk, show (1 : Int32) = nI 1 from rfl, show (3 : Int32) = nI 3 from rfl, jx2, nI_clamp (by omega)]
      refine ⟨?_, fun h => absurd h (by decide)⟩
      rw [show (2 : Int32) = nI 2 from rfl, i0 2 (by omega), up_n (by omega)]
      rw [show Int32.toNatClampNeg ((1 + 3 * td 0) + 1) = 1 + 3 * k + 1 from i0 1 (by omega), up_n (by omega)]
      rw [show Int32.toNatClampNeg ((1 + 3 * td 0) + 0) = 1 + 3 * k + 0 from i0 0 (by omega), up_n (by omega), up_s]
      exact iv_inc (h := 40) c0' rfl (by omega) h9
  · have h1 : w < 18 := hw.2
    have h2 : 16 ≤ w := hw.1
    have c0' : iv 0 (10 : Nat) (td 0) := hC.1
    have e : lD w g a b c td = (if td 0 = 10 then td else upd (upd (upd (upd td 0 (td 0 + 1)) (Int32.toNatClampNeg ((1 + 3 * td 0) + 0)) (if w = 16 then 1 else 0)) (Int32.toNatClampNeg ((1 + 3 * td 0) + 1)) a) (Int32.toNatClampNeg ((1 + 3 * td 0) + 2)) b) := by
      unfold lD
      rw [if_neg (by omega), if_neg (by omega), if_neg (by omega), if_neg (by omega), if_neg (by omega), if_neg (by omega), if_neg (by omega), if_neg (by omega), if_neg (by omega), if_neg (by omega), if_neg (by omega), if_pos (by omega)]
    rw [e]
    by_cases h9 : td 0 = 10
    · rw [if_pos h9]; exact hC
    · rw [if_neg h9]
      obtain ⟨k, hk, -, hk4, -⟩ := iv_nI c0' (by decide)
      have i0 : ∀ i : Nat, i ≤ 2 → Int32.toNatClampNeg ((1 + 3 * td 0) + nI i) = 1 + 3 * k + i := fun i hi => by rw [hk, show (1 : Int32) = nI 1 from rfl, show (3 : Int32) = nI 3 from rfl, jx2, nI_clamp (by omega)]
      refine ⟨?_, fun h => absurd h (by decide)⟩
      rw [show (2 : Int32) = nI 2 from rfl, i0 2 (by omega), up_n (by omega)]
      rw [show Int32.toNatClampNeg ((1 + 3 * td 0) + 1) = 1 + 3 * k + 1 from i0 1 (by omega), up_n (by omega)]
      rw [show Int32.toNatClampNeg ((1 + 3 * td 0) + 0) = 1 + 3 * k + 0 from i0 0 (by omega), up_n (by omega), up_s]
      exact iv_inc (h := 10) c0' rfl (by omega) h9
  · have h1 : w < 20 := hw.2
    have h2 : 18 ≤ w := hw.1
    have c0' : iv 0 (9 : Nat) (td 0) := hC.1
    have hc : w = 18 ∨ w = 19 := by omega
    rcases hc with rfl | rfl
    · show CB 3 (if td 0 = 9 then td else upd (upd (upd td 0 (td 0 + 1)) (Int32.toNatClampNeg ((1 + 2 * td 0) + 0)) a) (Int32.toNatClampNeg ((1 + 2 * td 0) + 1)) b)
      by_cases h9 : td 0 = 9
      · rw [if_pos h9]; exact hC
      · rw [if_neg h9]
        obtain ⟨k, hk, -, hk4, -⟩ := iv_nI c0' (by decide)
        have i0 : ∀ i : Nat, i ≤ 2 → Int32.toNatClampNeg ((1 + 2 * td 0) + nI i) = 1 + 2 * k + i := fun i hi => by rw [hk, show (1 : Int32) = nI 1 from rfl, show (2 : Int32) = nI 2 from rfl, jx2, nI_clamp (by omega)]
        refine ⟨?_, fun h => absurd h (by decide)⟩
        rw [show Int32.toNatClampNeg ((1 + 2 * td 0) + 1) = 1 + 2 * k + 1 from i0 1 (by omega), up_n (by omega)]
        rw [show Int32.toNatClampNeg ((1 + 2 * td 0) + 0) = 1 + 2 * k + 0 from i0 0 (by omega), up_n (by omega), up_s]
        exact iv_inc (h := 9) c0' rfl (by omega) h9
    · exact ⟨by show iv 0 _ (upd td 19 a 0); rw [up_n (by omega)]; exact hC.1, fun h => absurd h (by decide)⟩
end
section
theorem ps_lt {B : Nat → Int32} {n r : Nat} (hr : r ≤ n) (hK : ¬ tK B n r = 0) : ∀ k, r + 1 ≤ ps B n r (k + 1)
  | 0 => by
    have h := tk_le (B := B) hr
    have h1 := tF_le (B := B) hr
    have h2 := h.2.2.1 hK
    show r + 1 ≤ tN B n r
    omega
  | k + 1 => by
    have h := ps_lt hr hK k
    have h0 := ps_le (B := B) hr (k + 1)
    have h1 := tk_le (B := B) h0.2
    have h2 := tF_le (B := B) h0.2
    show r + 1 ≤ tN B n (ps B n r (k + 1))
    omega
theorem iv_hut {w : Nat} {a v : Int32} {k : Nat} (h : cW w k a v = true) (hs : 0 ≤ (tbf_2 (w * 3 + k)).toInt ∧ (tbf_3 (w * 3 + k)).toInt ≤ 8) : iv 0 8 v := iv_w (cW_iv h) hs
theorem hutw : ∀ w, w < 20 → (w = 5 ∨ w = 7 ∨ w = 9) → 0 ≤ (tbf_2 (w * 3 + 0)).toInt ∧ (tbf_3 (w * 3 + 0)).toInt ≤ 8 := by decide +kernel
/-- as CB_lD, of a line -/
theorem CB_ln {B : Nat → Int32} {n r o w : Nat} {td : Nat → Int32} (ho : o ≤ 3) (hw : wlo o ≤ w ∧ w < wlo (o + 1)) (hC : CB o td) : CB o (lD w (gd B n r w (nW w)) (tV B n (ps B n r 1)) (tV B n (ps B n r 2)) (tV B n (ps B n r 3)) td) := by
  by_cases hq : w = 5 ∨ w = 7 ∨ w = 9
  · refine CB_lD ho hw hC (fun hg => ?_)
    have h20 : w < 20 := Nat.lt_of_lt_of_le hw.2 (wlo_lt o ho).1
    have hn := nW_tb w h20
    refine ⟨iv_hut (gd_c _ hg 0 (by omega)) (hutw w h20 hq), fun h5 => ?_⟩
    subst h5
    exact iv_hut (gd_c _ hg 1 (by decide)) (by decide +kernel)
  · have e : ∀ g g' : Bool, CB o (lD w g (tV B n (ps B n r 1)) (tV B n (ps B n r 2)) (tV B n (ps B n r 3)) td) → CB o (lD w g' (tV B n (ps B n r 1)) (tV B n (ps B n r 2)) (tV B n (ps B n r 3)) td) := by
      intro g g' h
      have h5 : ¬ w = 5 := fun h => hq (Or.inl h)
      have h7 : ¬ w = 7 := fun h => hq (Or.inr (Or.inl h))
      have h9 : ¬ w = 9 := fun h => hq (Or.inr (Or.inr h))
      by_cases h1 : w = 1
      · subst h1; exact h
      by_cases h2 : w = 2
      · subst h2; exact h
      have e2 : lD w g' (tV B n (ps B n r 1)) (tV B n (ps B n r 2)) (tV B n (ps B n r 3)) td = lD w g (tV B n (ps B n r 1)) (tV B n (ps B n r 2)) (tV B n (ps B n r 3)) td := by
        unfold lD
        simp only [if_neg h1, if_neg h2, if_neg h5, if_neg h7, if_neg h9]
      rw [e2]; exact h
    exact e false _ (CB_lD ho hw hC (fun h => absurd h (by decide)))
def FP (fa pl : Int32) : Prop := (fa = 0 → pl = -1) ∧ (¬ fa = 0 → 0 < fa.toInt)
theorem FP_m {c : Bool} {lf lp f p : Int32} (h : FP lf lp) (hf : 0 < f.toInt) : FP (mF c lf f) (mP c lf lp p) := by
  unfold mF mP
  by_cases hc : c = true
  · rw [if_pos hc, if_pos hc]; exact h
  · rw [if_neg hc, if_neg hc]
    by_cases hl : lf = 0
    · rw [if_pos hl, if_pos hl]
      exact ⟨fun h9 => by rw [h9] at hf; exact absurd hf (by decide), fun _ => hf⟩
    · rw [if_neg hl, if_neg hl]; exact h
theorem FP_k {B : Nat → Int32} {n r w : Nat} {td : Nat → Int32} {fa pl : Int32} (h : FP fa pl) : ∀ k, FP (mkF B n r w td fa k) (mkP B n r w td fa pl k)
  | 0 => FP_m h (by decide)
  | k + 1 => FP_m (FP_k h k) (by decide)
set_option maxRecDepth 20000 in
theorem e_lines {tp B : Nat → Int32} {n o : Nat} {post : Int32 → Int32 → Int32 → Int32 → Int32 → Int64 → Int32 → Int32 → Int32 → (Nat → Int32) → (Nat → Int32) → Int32 → Int32 → Int32 → Prop} (hn : n ≤ 600) (hB : ∀ j, j < n → tp j = B j) (hb : ∀ j, iv (-128) 127 (B j)) (ho : o ≤ 3) {R : Int32 × Int32 × (Nat → Int32)}
    (hX : ∀ (p : Int32) (td' : Nat → Int32), R = (1, p, td') → ∀ (re be so va : Int32) (wd : Int64) (lf lp : Int32) (td rd : Nat → Int32) (fh fs gd : Int32), post 0 re be so va wd p lf lp td rd fh fs gd)
    (hE : ∀ (fa pl lp : Int32) (td told : Nat → Int32) (fh fs : Int32), CB o told → (∀ j, j < 132 → told j = td j) → (¬ fa = 0 → lp = pl) → FP fa pl → R = fin4 o n fa pl td fh fs → ∀ (re va : Int32) (wd : Int64) (wr : Int32) (rd : Nat → Int32) (gd : Int32), post 1 re (nI n) 0 va wd wr fa lp told rd fh fs gd)
    {r : Nat} {va wr fa pl lp fh fs gd : Int32} {wd : Int64} {td told rd : Nat → Int32} (hr : r ≤ n) (hw : tK B n r = 1 → wd = tW B n r) (hlp : ¬ fa = 0 → lp < nI (tF B n r)) (hC : CB o told) (ht : ∀ j, j < 132 → told j = td j) (hpl : ¬ fa = 0 → lp = pl) (hFP : FP fa pl) (hR : R = go B n o (n + 1) r fa pl td fh fs) : q_m_lines_0 tp (nI (tN B n r)) (nI n) (nI (tF B n r)) (sI (tK B n r)) va wd wr fa lp told rd fh fs gd (nI o) post := by
  intro P hP
  have nb : narrow .boolean (.int (0 : Int32)) = .int 0 := rfl
  have nb1 : narrow .boolean (.int (1 : Int32)) = .int 1 := rfl
  have loop : ∀ m r (va wr fa pl lp fh fs gd : Int32) (wd : Int64) (td told rd : Nat → Int32), n + 1 ≤ m + r → r ≤ n → (tK B n r = 1 → wd = tW B n r) → (¬ fa = 0 → lp < nI (tF B n r)) → CB o told → (∀ j, j < 132 → told j = td j) → (¬ fa = 0 → lp = pl) → FP fa pl → R = go B n o m r fa pl td fh fs → P 1 (nI (tN B n r)) (nI (tF B n r)) (sI (tK B n r)) va wd wr fa lp told rd fh fs gd := by
    intro m
    induction m with
    | zero => intro r va wr fa pl lp fh fs gd wd td told rd h1 h2; omega
    | succ m ih =>
      intro r va wr fa pl lp fh fs gd wd td told rd h1 hr hw hlp hC ht hpl hFP hR
      have htk := tk_le (B := B) hr
      apply hP
      refine ⟨fun h9 => absurd h9 (by decide), fun _ => ?_⟩
      by_cases hK0 : tK B n r = 0
      · rw [go, if_pos hK0] at hR
        have e1 : tF B n r = n := htk.2.2.2.1 hK0
        rw [hK0, e1]
        refine ⟨fun _ => ⟨nb1, hE fa pl lp td told fh fs hC ht hpl hFP hR _ _ _ _ _ _⟩, fun h9 => absurd rfl h9⟩
      rw [go, if_neg hK0] at hR
      refine ⟨fun h9 => absurd ((sI_0 _ htk.2.2.2.2).mp h9) hK0, fun _ => ?_⟩
      -- a line
      have fail : ¬ lb B n r o = 9 → ∀ (re be so va : Int32) (wd : Int64) (lf lp : Int32) (td rd : Nat → Int32) (fh fs gd : Int32), P 0 re be so va wd (nI (tF B n (ps B n r (lb B n r o)))) lf lp td rd fh fs gd := by
        intro h9 re be so va wd lf lp td rd fh fs gd
        rw [if_neg h9] at hR
        apply hP
        exact ⟨fun _ => ⟨nb, hX _ _ hR _ _ _ _ _ _ _ _ _ _ _ _⟩, fun h8 => absurd rfl h8⟩
      have fl : ∀ j, j = lb B n r o → ¬ j = 9 → ∀ (re be so va : Int32) (wd : Int64) (lf lp : Int32) (td rd : Nat → Int32) (fh fs gd : Int32), P 0 re be so va wd (nI (tF B n (ps B n r j))) lf lp td rd fh fs gd := by
        intro j hj h9
        rw [hj]
        exact fail (by rw [← hj]; exact h9)
      have line : ∀ x : Int64, (tK B n r = 1 → x = tW B n r) → (¬ tK B n r = 1 → x = 0) → q_m_lines_41 P tp (nI (tN B n r)) (nI n) (nI (tF B n r)) (sI (tK B n r)) va wd wr fa lp told rd fh fs 1 (nI o) (nI (tF B n r)) (nI o) x post := by
        intro x hx1 hx0
        refine e_lineOf hn hr hB hb hlp hK0 ho hC hx1 hx0 (fun h20 re be so va wd lf lp td rd fh fs gd => ?_) (fun hlt j a b c d re be so va wd lf lp td rd fh fs gd => ?_) (fun hlt hk va2 wd2 rd2 gd2 hl => ?_)
        · refine iz (iz ?_)
          exact fl 0 (by unfold lb; rw [if_pos h20]) (by omega) _ _ _ _ _ _ _ _ _ _ _ _
        · have h3 := nW_tb _ hlt
          have e : lb B n r o = j := by
            unfold lb
            rw [if_neg (by omega)]
            exact lbr_f _ 0 (by omega) (by omega) c (fun i q1 q2 => d i (by omega) q2)
          exact iz (iz (fl j e.symm (by omega) _ _ _ _ _ _ _ _ _ _ _ _))
        · have h3 := nW_tb _ hlt
          have e : lb B n r o = if tK B n (ps B n r (0 + nW (wOf B n r o) + 1)) = 3 then 9 else 0 + nW (wOf B n r o) + 1 := by
            unfold lb
            rw [if_neg (by omega)]
            exact lbr_t _ 0 (fun j q1 q2 => hk j (by omega) (by omega))
          rw [Nat.zero_add] at e
          have hps := ps_le (B := B) hr
          have htk2 := tk_le (B := B) (hps (nW (wOf B n r o) + 1)).2
          refine oi ⟨fun h4 => ?_, fun h4 => ?_⟩
          · have hK3 := (sI_4 _ htk2.2.2.2.2).mp h4
            rw [if_pos hK3] at e
            rw [if_pos e] at hR
            have hP2 := (wd_cases (B := B) (n := n) (r := r) ho).resolve_left (fun h => by omega)
            refine oi ?_
            refine e_tok (r := ps B n r (nW (wOf B n r o) + 2)) hn (hps _).2 hB hb (fun v w2 _ hw2 => ?_)
            have hfu := fu_ext (w := wOf B n r o) ht
            rw [mkF_ext hfu] at hl ⊢
            refine ih _ _ _ _ _ _ _ _ _ _ _ _ _ (by have h9 : r + 1 ≤ ps B n r (nW (wOf B n r o) + 2) := ps_lt hr hK0 (nW (wOf B n r o) + 1); omega) (hps _).2 hw2 (LP_s hl ?_ ?_) (CB_ln ho ⟨hP2.2.1, hP2.2.2.1⟩ hC) (lD_ext ht) ?_ (FP_k hFP _) hR
            · have := tF_le (B := B) (hps (nW (wOf B n r o) + 2)).2
              have h9 : ps B n r (nW (wOf B n r o) + 2) = tN B n (ps B n r (nW (wOf B n r o) + 1)) := rfl
              omega
            · have := tF_le (B := B) (hps (nW (wOf B n r o) + 2)).2
              omega
            · intro hm
              rw [mkP_ext hfu]
              exact mkP_ir hpl _ hm
          · have hK3 : ¬ tK B n (ps B n r (nW (wOf B n r o) + 1)) = 3 := fun h => h4 ((sI_4 _ htk2.2.2.2.2).mpr h)
            rw [if_neg hK3] at e
            exact iz (fl _ e.symm (by omega) _ _ _ _ _ _ _ _ _ _ _ _)
      refine ⟨fun h2 => line 0 (fun h => absurd ((sI_2 _ htk.2.2.2.2).mpr h) h2) (fun _ => rfl), fun h2 => line wd hw (fun h => absurd ((sI_2 _ htk.2.2.2.2).mp h2) h)⟩
  exact loop (n + 1) r _ _ _ _ _ _ _ _ _ _ _ _ (by omega) hr hw hlp hC ht hpl hFP hR
/-- a text's row at its beginning -/
def ini (o j : Nat) : Int32 := if o = 0 then (if j = 5 then 2 else if j = 6 then 5 else 0) else 0
noncomputable def tx (B : Nat → Int32) (n o : Nat) : Int32 × Int32 × (Nat → Int32) := go B n o (n + 1) 0 0 (-1) (ini o) (-1) (-1)
theorem CB_ini {o : Nat} {t : Nat → Int32} (ho : o ≤ 3) (h : ∀ j, j < 132 → t j = ini o j) : CB o t := by
  unfold CB
  rw [h 0 (by omega), h 1 (by omega), h 4 (by omega)]
  have hoc : o = 0 ∨ o = 1 ∨ o = 2 ∨ o = 3 := by omega
  rcases hoc with rfl | rfl | rfl | rfl
  · exact ⟨iv_lit (by decide), fun _ => ⟨iv_lit (by decide), iv_lit (by decide)⟩⟩
  · exact ⟨iv_lit (by decide), fun h => absurd h (by decide)⟩
  · exact ⟨iv_lit (by decide), fun h => absurd h (by decide)⟩
  · exact ⟨iv_lit (by decide), fun h => absurd h (by decide)⟩
set_option maxRecDepth 20000 in
theorem e_readText {tp B fl fp : Nat → Int32} {n o : Nat} {re be so va wr lf lp fh fs gd : Int32} {wd : Int64} {told rd : Nat → Int32} {post : Int32 → (Nat → Int32) → (Nat → Int32) → Int32 → Int32 → Int32 → Int32 → Int64 → Int32 → Int32 → Int32 → (Nat → Int32) → (Nat → Int32) → Int32 → Int32 → Int32 → Prop} (hn : n ≤ 600) (hB : ∀ j, j < n → tp j = B j) (hb : ∀ j, iv (-128) 127 (B j)) (ho : o ≤ 3)
    (h0 : ¬ (tx B n o).1 = 0 → ∀ (re be so va : Int32) (wd : Int64) (wr lf lp : Int32) (td rd : Nat → Int32) (fh fs gd : Int32), post 0 (upd fl 0 (tx B n o).1) (upd fp 0 (tx B n o).2.1) re be so va wd wr lf lp td rd fh fs gd)
    (h1 : (tx B n o).1 = 0 → ∀ (re be so va : Int32) (wd : Int64) (wr lf lp : Int32) (td rd : Nat → Int32) (fh fs gd : Int32), (∀ j, j < 132 → td j = (tx B n o).2.2 j) → post 1 (upd fl 0 (tx B n o).1) (upd fp 0 (tx B n o).2.1) re be so va wd wr lf lp td rd fh fs gd) : q_m_readText_0 tp fl fp re (nI n) be so va wd wr lf lp told rd fh fs gd (nI o) post := by
  -- behind the row's clearing
  have mid : ∀ t : Nat → Int32, (∀ j, j < 132 → t j = ini o j) → q_m_readText_41 tp fl fp re (nI n) be so va wd wr lf lp t rd fh fs gd (nI o) post := by
    intro t ht
    refine e_tok (r := 0) hn (by omega) hB hb (fun v w _ hw => ?_)
    refine e_lines (R := tx B n o) (pl := -1) (td := ini o) hn hB hb ho (fun p td' hR re be so va wd lf lp td rd fh fs gd => ?_) (fun fa pl lp td told fh fs hC ht hpl hFP hR re va wd wr rd gd => ?_) (by omega) hw (fun h => absurd rfl h) (CB_ini ho ht) ht (fun h => absurd rfl h) ⟨fun _ => rfl, fun h => absurd rfl h⟩ rfl
    · have e1 : (tx B n o).1 = 1 := by rw [hR]
      have e2 : (tx B n o).2.1 = p := by rw [hR]
      have g := h0 (by rw [e1]; decide)
      rw [e1, e2] at g
      refine iz (iz ⟨vp_in_nI (n := 0) (by decide) (by decide), fun f1 ef => zi ⟨vp_in_nI (n := 0) (by decide) (by decide), fun f2 ef2 => ?_⟩⟩)
      rw [c_0] at ef ef2 ⊢
      rw [ef, ef2]
      exact ⟨fun _ => g _ _ _ _ _ _ _ _ _ _ _ _ _, fun h => absurd (by rw [← h]; exact up_s) (by decide : ¬ (0 : Int32) = 1)⟩
    · -- the end: the fault, the place
      have fin : ∀ lf' lp' : Int32, (tx B n o).1 = lf' → (¬ lf' = 0 → (tx B n o).2.1 = lp' ∧ 0 < lf'.toInt) → (lf' = 0 → (tx B n o).2.1 = -1 ∧ ∀ j, j < 132 → told j = (tx B n o).2.2 j) → q_m_readText_121 tp fl fp re (nI n) (nI n) 0 va wd wr lf' lp' told rd fh fs gd 1 post := by
        intro lf' lp' e1 e2 e3
        refine oi ⟨vp_in_nI (n := 0) (by decide) (by decide), fun f1 ef => io ?_⟩
        rw [c_0] at ef
        have e0 : (0 : Int32).toInt = 0 := rfl
        refine ⟨fun hle => ⟨vp_in_nI (n := 0) (by decide) (by decide), fun f2 ef2 => ?_⟩, fun hle => ⟨vp_in_nI (n := 0) (by decide) (by decide), fun f2 ef2 => ?_⟩⟩
        · have hz : lf' = 0 := by
            by_cases h : lf' = 0
            · exact h
            · have := (e2 h).2
              have := r_le hle
              omega
          rw [c_0] at ef2 ⊢
          have g := h1 (e1.trans hz)
          rw [(e3 hz).1, e1] at g
          rw [ef, ef2]
          exact ⟨fun h => absurd (by rw [up_s]; exact hz) h, fun _ => g _ _ _ _ _ _ _ _ _ _ _ _ _ (e3 hz).2⟩
        · have hz : ¬ lf' = 0 := fun h => hle (by rw [h]; decide)
          rw [c_0] at ef2 ⊢
          have g := h0 (by rw [e1]; exact hz)
          rw [(e2 hz).1, e1] at g
          rw [ef, ef2]
          exact ⟨fun _ => g _ _ _ _ _ _ _ _ _ _ _ _ _, fun h => absurd (by rw [up_s] at h; exact h) hz⟩
      have plain : ¬ (fa = 0 ∧ o = 0 ∧ (td 0 ≤ fh ∨ td 1 ≤ fs)) → q_m_readText_121 tp fl fp re (nI n) (nI n) 0 va wd wr fa lp told rd fh fs gd 1 post := by
        intro hc
        have e : tx B n o = (fa, pl, td) := by rw [hR]; unfold fin4; rw [if_neg hc]
        refine fin fa lp (by rw [e]) (fun hz => ⟨by rw [e]; exact (hpl hz).symm, hFP.2 hz⟩) (fun hz => ⟨by rw [e]; exact hFP.1 hz, fun j hj => by rw [e]; exact ht j hj⟩)
      have four : fa = 0 → (fa = 0 ∧ o = 0 ∧ (td 0 ≤ fh ∨ td 1 ≤ fs)) → q_m_readText_112 tp fl fp re (nI n) (nI n) 0 va wd wr fa lp told rd fh fs gd 1 post := by
        intro hz hc
        have e : tx B n o = (4, nI n, td) := by rw [hR]; unfold fin4; rw [if_pos hc]
        exact ⟨fun _ => fin 4 (nI n) (by rw [e]) (fun _ => ⟨by rw [e], by decide⟩) (fun h => absurd h (by decide)), fun h => absurd hz h⟩
      refine oi ⟨fun hx => plain (fun h => hx (by rw [h.2.1]; rfl)), fun hx => ?_⟩
      have ho0 : o = 0 := (nI_eq (a := o) (b := 0) (by omega) (by omega)).mp hx
      refine ⟨fun hz => plain (fun h => hz h.1), fun hz => ?_⟩
      rw [c_0, c_1, ht 0 (by omega), ht 1 (by omega)]
      refine ⟨fun h => four hz ⟨hz, ho0, Or.inl h⟩, fun h => ⟨fun h2 => plain (fun h3 => h3.2.2.elim h (fun h4 => absurd h2 (Int32.not_lt.mpr h4))), fun h2 => four hz ⟨hz, ho0, Or.inr (Int32.not_lt.mp h2)⟩⟩⟩
  intro P hP
  have loop : ∀ m k (t : Nat → Int32), m + k = 132 → (∀ j, j < k → t j = 0) → P (nI k) t := by
    intro m
    induction m with
    | zero =>
      intro k t hk ht
      apply hP
      refine pk_le 132 k (fun _ => ⟨fun hx => mid t (fun j hj => ?_), fun hx t1 e1 t2 e2 => mid t2 (fun j hj => ?_)⟩) (fun h => absurd h (by omega))
      · have ho0 : ¬ o = 0 := fun h => hx (by rw [h]; rfl)
        unfold ini
        rw [if_neg ho0]
        exact ht j (by omega)
      · have ho0 : o = 0 := (nI_eq (a := o) (b := 0) (by omega) (by omega)).mp hx
        unfold ini
        rw [if_pos ho0, e2, e1, show Int32.toNatClampNeg 6 = 6 from rfl, show Int32.toNatClampNeg 5 = 5 from rfl]
        by_cases h6 : j = 6
        · subst h6; rw [up_s]; rfl
        · rw [up_n h6]
          by_cases h5 : j = 5
          · subst h5; rw [up_s]; rfl
          · rw [up_n h5, if_neg h5, if_neg h6]
            exact ht j (by omega)
    | succ m ih =>
      intro k t hk ht
      apply hP
      refine pk_le 132 k (fun h => absurd h (by omega)) (fun _ => ⟨vp_in_nI (by omega) (by omega), fun t1 e1 v e2 => ?_⟩)
      rw [e2, nI_1, e1, nI_clamp (by omega)]
      refine ih (k + 1) _ (by omega) (fun j hj => ?_)
      by_cases hjk : j = k
      · subst hjk; exact up_s
      · rw [up_n hjk]; exact ht j (by omega)
  exact loop 132 0 told (by omega) (fun j hj => absurd hj (by omega))
end
section
theorem e_fill_3 {t : Nat → Int32} {v : Int32} {post : (Nat → Int32) → Prop} (h : ∀ t', (∀ j, j < 9 → t' j = v) → post t') : q_wr_J7_fill_53178_3_0 t v post := by
  intro P hP
  have loop : ∀ m k (t : Nat → Int32), m + k = 9 → (∀ j, j < k → t j = v) → P (nI k) t := by
    intro m
    induction m with
    | zero =>
      intro k t hk ht
      apply hP
      exact pk_le 9 k (fun _ => h t (fun j hj => ht j (by omega))) (fun h9 => absurd h9 (by omega))
    | succ m ih =>
      intro k t hk ht
      apply hP
      refine pk_le 9 k (fun h9 => absurd h9 (by omega)) (fun _ => ⟨vp_in_nI (by omega) (by omega), fun t1 e1 v2 e2 => ?_⟩)
      rw [e2, nI_1, e1, nI_clamp (by omega)]
      refine ih (k + 1) _ (by omega) (fun j hj => ?_)
      by_cases hjk : j = k
      · subst hjk; exact up_s
      · rw [up_n hjk]; exact ht j (by omega)
  exact loop 9 0 t (by omega) (fun j hj => absurd hj (by omega))
theorem e_fill_4 {t : Nat → Int32} {v : Int32} {post : (Nat → Int32) → Prop} (h : ∀ t', (∀ j, j < 81 → t' j = v) → post t') : q_wr_J7_fill_53178_4_0 t v post := by
  intro P hP
  have loop : ∀ m k (t : Nat → Int32), m + k = 81 → (∀ j, j < k → t j = v) → P (nI k) t := by
    intro m
    induction m with
    | zero =>
      intro k t hk ht
      apply hP
      exact pk_le 81 k (fun _ => h t (fun j hj => ht j (by omega))) (fun h9 => absurd h9 (by omega))
    | succ m ih =>
      intro k t hk ht
      apply hP
      refine pk_le 81 k (fun h9 => absurd h9 (by omega)) (fun _ => ⟨vp_in_nI (by omega) (by omega), fun t1 e1 v2 e2 => ?_⟩)
      rw [e2, nI_1, e1, nI_clamp (by omega)]
      refine ih (k + 1) _ (by omega) (fun j hj => ?_)
      by_cases hjk : j = k
      · subst hjk; exact up_s
      · rw [up_n hjk]; exact ht j (by omega)
  exact loop 81 0 t (by omega) (fun j hj => absurd hj (by omega))
theorem e_fill_9 {t : Nat → Int32} {v : Int32} {post : (Nat → Int32) → Prop} (h : ∀ t', (∀ j, j < 6 → t' j = v) → post t') : q_wr_J7_fill_53178_9_0 t v post := by
  intro P hP
  have loop : ∀ m k (t : Nat → Int32), m + k = 6 → (∀ j, j < k → t j = v) → P (nI k) t := by
    intro m
    induction m with
    | zero =>
      intro k t hk ht
      apply hP
      exact pk_le 6 k (fun _ => h t (fun j hj => ht j (by omega))) (fun h9 => absurd h9 (by omega))
    | succ m ih =>
      intro k t hk ht
      apply hP
      refine pk_le 6 k (fun h9 => absurd h9 (by omega)) (fun _ => ⟨vp_in_nI (by omega) (by omega), fun t1 e1 v2 e2 => ?_⟩)
      rw [e2, nI_1, e1, nI_clamp (by omega)]
      refine ih (k + 1) _ (by omega) (fun j hj => ?_)
      by_cases hjk : j = k
      · subst hjk; exact up_s
      · rw [up_n hjk]; exact ht j (by omega)
  exact loop 6 0 t (by omega) (fun j hj => absurd hj (by omega))
set_option maxRecDepth 20000 in
theorem e_clearDraft {lf_huts lf_singers lf_villages lf_dams lf_echoes lf_deep lf_slide vf_deeds sf_facts cf_voices cf_step : Int32} {la_heights la_ladders la_minutes la_echoFrom la_echoTo la_homes la_talls la_known va_kinds va_firsts va_seconds sa_heard sa_huts sa_minutes ca_parts ca_heights : Nat → Int32} {h s : Int32} {o : Nat} {post : (Int32) → (Int32) → (Int32) → (Int32) → (Int32) → (Int32) → (Int32) → (Nat → Int32) → (Nat → Int32) → (Nat → Int32) → (Int32) → (Int32) → (Int32) → (Int32) → Int32 → Int32 → Prop} (ho : o ≤ 3) (hp : ∀ (lf_huts' : Int32) (lf_singers' : Int32) (lf_villages' : Int32) (lf_dams' : Int32) (lf_echoes' : Int32) (lf_deep' : Int32) (lf_slide' : Int32) (la_ladders' : Nat → Int32) (la_minutes' : Nat → Int32) (la_known' : Nat → Int32) (vf_deeds' : Int32) (sf_facts' : Int32) (cf_voices' : Int32) (cf_step' : Int32) (h' s' : Int32), DR o lf_huts' lf_singers' lf_villages' lf_dams' lf_echoes' lf_deep' lf_slide' la_heights la_ladders' la_minutes' la_echoFrom la_echoTo la_homes la_talls la_known' vf_deeds' va_kinds va_firsts va_seconds sf_facts' sa_heard sa_huts sa_minutes cf_voices' cf_step' ca_parts ca_heights h' s' (ini o) (-1) (-1) → post lf_huts' lf_singers' lf_villages' lf_dams' lf_echoes' lf_deep' lf_slide' la_ladders' la_minutes' la_known' vf_deeds' sf_facts' cf_voices' cf_step' h' s') : q_wr_X4_clearDraft_0 lf_huts lf_singers lf_villages lf_dams lf_echoes lf_deep lf_slide la_ladders la_minutes la_known vf_deeds sf_facts cf_voices cf_step h s (nI o) post := by
  have hoc : o = 0 ∨ o = 1 ∨ o = 2 ∨ o = 3 := by omega
  have z0 : ¬ ∃ j, j < (ini 0 0).toNatClampNeg := fun ⟨j, hj⟩ => absurd hj (by decide +revert)
  rcases hoc with rfl | rfl | rfl | rfl
  · refine ⟨fun h9 => absurd rfl h9, fun _ => ?_⟩
    refine e_fill_3 (fun t1 h1 => e_fill_4 (fun t2 h2 => e_fill_9 (fun t3 h3 => ?_)))
    refine hp _ _ _ _ _ _ _ _ _ _ _ _ _ _ _ _ (DR0 ⟨rfl, rfl, rfl, rfl, rfl, rfl, rfl, fun j hj => absurd ⟨j, hj⟩ z0, fun j hj => ?_, fun j hj => ?_, fun j hj => absurd ⟨j, hj⟩ z0, fun j hj => absurd ⟨j, hj⟩ z0, fun j hj => ?_⟩ HB_0 HB_0)
    · rw [h1 j hj]
      show _ = ini 0 (16 + j)
      unfold ini
      rw [if_pos rfl, if_neg (by omega), if_neg (by omega)]
    · rw [h2 j hj]
      show _ = ini 0 (51 + j)
      unfold ini
      rw [if_pos rfl, if_neg (by omega), if_neg (by omega)]
    · rw [h3 j hj]
      show _ = ini 0 (37 + j)
      unfold ini
      rw [if_pos rfl, if_neg (by omega), if_neg (by omega)]
  · exact ⟨fun _ => ⟨fun h9 => absurd rfl h9, fun _ => hp _ _ _ _ _ _ _ _ _ _ _ _ _ _ _ _ (DR1 ⟨rfl, fun j hj => absurd ⟨j, hj⟩ z0⟩)⟩, fun h9 => absurd h9 (by decide)⟩
  · exact ⟨fun _ => ⟨fun _ => ⟨fun h9 => absurd rfl h9, fun _ => hp _ _ _ _ _ _ _ _ _ _ _ _ _ _ _ _ (DR2 ⟨rfl, fun j hj => absurd ⟨j, hj⟩ z0⟩)⟩, fun h9 => absurd h9 (by decide)⟩, fun h9 => absurd h9 (by decide)⟩
  · exact ⟨fun _ => ⟨fun _ => ⟨fun _ => hp _ _ _ _ _ _ _ _ _ _ _ _ _ _ _ _ (DR3 ⟨rfl, rfl, fun j hj => absurd ⟨j, hj⟩ z0⟩), fun h9 => absurd h9 (by decide)⟩, fun h9 => absurd h9 (by decide)⟩, fun h9 => absurd h9 (by decide)⟩
theorem FQ_m {c : Bool} {lf f : Int32} (h : ¬ lf = 1) (hf : ¬ f = 1) : ¬ mF c lf f = 1 := by
  unfold mF
  by_cases hc : c = true
  · rw [if_pos hc]; exact h
  · rw [if_neg hc]
    by_cases hl : lf = 0
    · rw [if_pos hl]; exact hf
    · rw [if_neg hl]; exact h
theorem FQ_k {B : Nat → Int32} {n r w : Nat} {td : Nat → Int32} {fa : Int32} (h : ¬ fa = 1) : ∀ k, ¬ mkF B n r w td fa k = 1
  | 0 => FQ_m h (by decide)
  | k + 1 => FQ_m (FQ_k h k) (by decide)
theorem gd_z {B : Nat → Int32} {n r w : Nat} {td : Nat → Int32} {fa : Int32} : ∀ k, mkF B n r w td fa k = 0 → gd B n r w k = true
  | 0 => fun _ => rfl
  | k + 1 => fun h => by
    have h1 := mF_0 (by decide) h
    show (gd B n r w k && cW w k _ _) = true
    rw [gd_z k h1.2, h1.1]
    rfl
/-- told of what is missing -/
theorem e_missing {huts singers h s : Int32} {td : Nat → Int32} {fh fs : Int32} {post : Int32 → Prop} (hC : CB 0 td) (e0 : huts = td 0) (e1 : singers = td 1) (hh : HB h fh) (hs : HB s fs) (h1 : (td 0 ≤ fh ∨ td 1 ≤ fs) → post 1) (h0 : ¬ (td 0 ≤ fh ∨ td 1 ≤ fs) → post 0) : q_wr_X4_tellsOfMissing_0 huts singers h s post := by
  obtain ⟨p, hp, -, hp2, -⟩ := iv_nI hC.1 (by decide)
  obtain ⟨q, hq, -, hq2, -⟩ := iv_nI (hC.2 rfl).1 (by decide)
  have hp9 : p ≤ 9 := by
    have : ((if 0 = 0 then 9 else if 0 = 1 then 40 else if 0 = 2 then 10 else 9 : Int)) = 9 := rfl
    omega
  have a := hh p hp9
  have b := hs q (by omega)
  rw [e0, e1]
  rw [hp] at h1 h0 ⊢
  rw [hq] at h1 h0 ⊢
  refine ⟨fun c => h1 (Or.inl (Int32.not_lt.mp (fun h9 => c (a.mpr h9)))), fun c => ⟨fun c2 => h0 (fun h9 => h9.elim (fun h8 => absurd (a.mp c) (Int32.not_lt.mpr h8)) (fun h8 => absurd (b.mp c2) (Int32.not_lt.mpr h8))), fun c2 => h1 (Or.inr (Int32.not_lt.mp (fun h9 => c2 (b.mpr h9))))⟩⟩
set_option maxRecDepth 20000 in
theorem e_read {zf B : Nat → Int32} {lf_huts lf_singers lf_villages lf_dams lf_echoes lf_deep lf_slide vf_deeds sf_facts cf_voices cf_step : Int32} {la_heights la_ladders la_minutes la_echoFrom la_echoTo la_homes la_talls la_known va_kinds va_firsts va_seconds sa_heard sa_huts sa_minutes ca_parts ca_heights : Nat → Int32} {fa0 pl0 : Int32} {nums tp0 : Nat → Int32} {ln bh ki fi va h s : Int32} {n o : Nat} {post : (Int32) → (Int32) → (Int32) → (Int32) → (Int32) → (Int32) → (Int32) → (Nat → Int32) → (Nat → Int32) → (Nat → Int32) → (Nat → Int32) → (Nat → Int32) → (Nat → Int32) → (Nat → Int32) → (Nat → Int32) → (Int32) → (Nat → Int32) → (Nat → Int32) → (Nat → Int32) → (Int32) → (Nat → Int32) → (Nat → Int32) → (Nat → Int32) → (Int32) → (Int32) → (Nat → Int32) → (Nat → Int32) → Int32 → Int32 → (Nat → Int32) → (Nat → Int32) → Int32 → Int32 → Int32 → Int32 → Int32 → Int32 → Int32 → Prop} (hn : n ≤ 600) (ho : o ≤ 3) (hz : ∀ j, iv (-128) 127 (zf j)) (hB : ∀ j, j < n → zf j = B j) (hp : ∀ (lf_huts' : Int32) (lf_singers' : Int32) (lf_villages' : Int32) (lf_dams' : Int32) (lf_echoes' : Int32) (lf_deep' : Int32) (lf_slide' : Int32) (la_heights' : Nat → Int32) (la_ladders' : Nat → Int32) (la_minutes' : Nat → Int32) (la_echoFrom' : Nat → Int32) (la_echoTo' : Nat → Int32) (la_homes' : Nat → Int32) (la_talls' : Nat → Int32) (la_known' : Nat → Int32) (vf_deeds' : Int32) (va_kinds' : Nat → Int32) (va_firsts' : Nat → Int32) (va_seconds' : Nat → Int32) (sf_facts' : Int32) (sa_heard' : Nat → Int32) (sa_huts' : Nat → Int32) (sa_minutes' : Nat → Int32) (cf_voices' : Int32) (cf_step' : Int32) (ca_parts' : Nat → Int32) (ca_heights' : Nat → Int32) (nums' tp' : Nat → Int32) (ln' bh' ki' fi' va' h' s' : Int32), ((tx B n o).1 = 0 → (∃ fh fs, DR o lf_huts' lf_singers' lf_villages' lf_dams' lf_echoes' lf_deep' lf_slide' la_heights' la_ladders' la_minutes' la_echoFrom' la_echoTo' la_homes' la_talls' la_known' vf_deeds' va_kinds' va_firsts' va_seconds' sf_facts' sa_heard' sa_huts' sa_minutes' cf_voices' cf_step' ca_parts' ca_heights' h' s' (tx B n o).2.2 fh fs) ∧ CB o (tx B n o).2.2) → post lf_huts' lf_singers' lf_villages' lf_dams' lf_echoes' lf_deep' lf_slide' la_heights' la_ladders' la_minutes' la_echoFrom' la_echoTo' la_homes' la_talls' la_known' vf_deeds' va_kinds' va_firsts' va_seconds' sf_facts' sa_heard' sa_huts' sa_minutes' cf_voices' cf_step' ca_parts' ca_heights' (tx B n o).1 (tx B n o).2.1 nums' tp' ln' bh' ki' fi' va' h' s') : q_wr_X4_read_23_0 lf_huts lf_singers lf_villages lf_dams lf_echoes lf_deep lf_slide la_heights la_ladders la_minutes la_echoFrom la_echoTo la_homes la_talls la_known vf_deeds va_kinds va_firsts va_seconds sf_facts sa_heard sa_huts sa_minutes cf_voices cf_step ca_parts ca_heights fa0 pl0 nums tp0 ln bh ki fi va h s zf (nI n) (nI o) post := by
  have c0 : Int32.toNatClampNeg (0 : Int32) + Int32.toNatClampNeg (nI n) ≤ 600 := by rw [c_0, nI_clamp (by omega)]; omega
  refine ⟨nI_pos (by omega), c0, c0, fun i _ => iv_fitB (hz _), fun tp et => ?_⟩
  have hT : ∀ j, j < n → tp j = B j := by
    intro j hj
    rw [et, c_0, nI_clamp (by omega), pk_cpy_in (by omega) (by omega), Nat.zero_add, Nat.sub_zero]
    exact hB j hj
  refine e_clearDraft (la_heights := la_heights) (la_echoFrom := la_echoFrom) (la_echoTo := la_echoTo) (la_homes := la_homes) (la_talls := la_talls) (va_kinds := va_kinds) (va_firsts := va_firsts) (va_seconds := va_seconds) (sa_heard := sa_heard) (sa_huts := sa_huts) (sa_minutes := sa_minutes) (ca_parts := ca_parts) (ca_heights := ca_heights) ho (fun lf_huts' lf_singers' lf_villages' lf_dams' lf_echoes' lf_deep' lf_slide' la_ladders' la_minutes' la_known' vf_deeds' sf_facts' cf_voices' cf_step' h1 s1 hD => ?_)
  refine e_adv (r := 0) hn (by omega) hT (fun v1 hv1 => ?_)
  -- the end
  have fin : ∀ (lf_huts' : Int32) (lf_singers' : Int32) (lf_villages' : Int32) (lf_dams' : Int32) (lf_echoes' : Int32) (lf_deep' : Int32) (lf_slide' : Int32) (la_heights' : Nat → Int32) (la_ladders' : Nat → Int32) (la_minutes' : Nat → Int32) (la_echoFrom' : Nat → Int32) (la_echoTo' : Nat → Int32) (la_homes' : Nat → Int32) (la_talls' : Nat → Int32) (la_known' : Nat → Int32) (vf_deeds' : Int32) (va_kinds' : Nat → Int32) (va_firsts' : Nat → Int32) (va_seconds' : Nat → Int32) (sf_facts' : Int32) (sa_heard' : Nat → Int32) (sa_huts' : Nat → Int32) (sa_minutes' : Nat → Int32) (cf_voices' : Int32) (cf_step' : Int32) (ca_parts' : Nat → Int32) (ca_heights' : Nat → Int32) (fa pl : Int32) (nums' : Nat → Int32) (bh' ki' fi' va' h' s' : Int32), ((tx B n o = (1, pl, (tx B n o).2.2) ∧ fa = 1) ∨ ∃ td fh fs, CB o td ∧ (fa = 0 → DR o lf_huts' lf_singers' lf_villages' lf_dams' lf_echoes' lf_deep' lf_slide' la_heights' la_ladders' la_minutes' la_echoFrom' la_echoTo' la_homes' la_talls' la_known' vf_deeds' va_kinds' va_firsts' va_seconds' sf_facts' sa_heard' sa_huts' sa_minutes' cf_voices' cf_step' ca_parts' ca_heights' h' s' td fh fs) ∧ tx B n o = fin4 o n fa pl td fh fs) → q_wr_X4_read_23_78 lf_huts' lf_singers' lf_villages' lf_dams' lf_echoes' lf_deep' lf_slide' la_heights' la_ladders' la_minutes' la_echoFrom' la_echoTo' la_homes' la_talls' la_known' vf_deeds' va_kinds' va_firsts' va_seconds' sf_facts' sa_heard' sa_huts' sa_minutes' cf_voices' cf_step' ca_parts' ca_heights' fa pl nums' tp (nI n) bh' ki' fi' va' h' s' zf (nI o) post := by
    intro lf_huts' lf_singers' lf_villages' lf_dams' lf_echoes' lf_deep' lf_slide' la_heights' la_ladders' la_minutes' la_echoFrom' la_echoTo' la_homes' la_talls' la_known' vf_deeds' va_kinds' va_firsts' va_seconds' sf_facts' sa_heard' sa_huts' sa_minutes' cf_voices' cf_step' ca_parts' ca_heights' fa pl nums' bh' ki' fi' va' h' s' hc
    rcases hc with ⟨hR, hf⟩ | ⟨td, fh, fs, hC, hD, hR⟩
    · subst hf
      have e1 : (tx B n o).1 = 1 := by rw [hR]
      have e2 : (tx B n o).2.1 = pl := by rw [hR]
      have g := hp lf_huts' lf_singers' lf_villages' lf_dams' lf_echoes' lf_deep' lf_slide' la_heights' la_ladders' la_minutes' la_echoFrom' la_echoTo' la_homes' la_talls' la_known' vf_deeds' va_kinds' va_firsts' va_seconds' sf_facts' sa_heard' sa_huts' sa_minutes' cf_voices' cf_step' ca_parts' ca_heights' nums' tp (nI n) bh' ki' fi' va' h' s' (fun h9 => absurd (e1.symm.trans h9) (by decide))
      rw [e1, e2] at g
      exact ⟨fun _ => g, fun h9 => absurd h9 (by decide)⟩
    · have plain : ¬ (fa = 0 ∧ o = 0 ∧ (td 0 ≤ fh ∨ td 1 ≤ fs)) → post lf_huts' lf_singers' lf_villages' lf_dams' lf_echoes' lf_deep' lf_slide' la_heights' la_ladders' la_minutes' la_echoFrom' la_echoTo' la_homes' la_talls' la_known' vf_deeds' va_kinds' va_firsts' va_seconds' sf_facts' sa_heard' sa_huts' sa_minutes' cf_voices' cf_step' ca_parts' ca_heights' fa pl nums' tp (nI n) bh' ki' fi' va' h' s' := by
        intro hcc
        have e : tx B n o = (fa, pl, td) := by rw [hR]; unfold fin4; rw [if_neg hcc]
        have g := hp lf_huts' lf_singers' lf_villages' lf_dams' lf_echoes' lf_deep' lf_slide' la_heights' la_ladders' la_minutes' la_echoFrom' la_echoTo' la_homes' la_talls' la_known' vf_deeds' va_kinds' va_firsts' va_seconds' sf_facts' sa_heard' sa_huts' sa_minutes' cf_voices' cf_step' ca_parts' ca_heights' nums' tp (nI n) bh' ki' fi' va' h' s' (fun h9 => by
          rw [e] at h9 ⊢
          exact ⟨⟨fh, fs, hD h9⟩, hC⟩)
        rw [e] at g
        exact g
      refine ⟨fun hz => plain (fun h9 => hz h9.1), fun hz => ⟨fun hx => plain (fun h9 => hx (by rw [h9.2.1]; rfl)), fun hx => ?_⟩⟩
      have ho0 : o = 0 := (nI_eq (a := o) (b := 0) (by omega) (by omega)).mp hx
      subst ho0
      obtain ⟨hL, hh, hs⟩ := (hD hz).1 rfl
      refine e_missing hC hL.1 hL.2.1 hh hs (fun hm => oi ?_) (fun hm => iz (plain (fun h9 => hm h9.2.2)))
      have e : tx B n 0 = (4, nI n, td) := by rw [hR]; unfold fin4; rw [if_pos ⟨hz, rfl, hm⟩]
      have g := hp lf_huts' lf_singers' lf_villages' lf_dams' lf_echoes' lf_deep' lf_slide' la_heights' la_ladders' la_minutes' la_echoFrom' la_echoTo' la_homes' la_talls' la_known' vf_deeds' va_kinds' va_firsts' va_seconds' sf_facts' sa_heard' sa_huts' sa_minutes' cf_voices' cf_step' ca_parts' ca_heights' nums' tp (nI n) bh' ki' fi' va' h' s' (fun h9 => by
        rw [e] at h9
        exact absurd h9 (show ¬ (4 : Int32) = 0 by decide))
      rw [e] at g
      exact ⟨fun h9 => absurd hz h9, fun _ => g⟩
  intro P hP
  have bad : ∀ i (lf_huts' : Int32) (lf_singers' : Int32) (lf_villages' : Int32) (lf_dams' : Int32) (lf_echoes' : Int32) (lf_deep' : Int32) (lf_slide' : Int32) (la_heights' : Nat → Int32) (la_ladders' : Nat → Int32) (la_minutes' : Nat → Int32) (la_echoFrom' : Nat → Int32) (la_echoTo' : Nat → Int32) (la_homes' : Nat → Int32) (la_talls' : Nat → Int32) (la_known' : Nat → Int32) (vf_deeds' : Int32) (va_kinds' : Nat → Int32) (va_firsts' : Nat → Int32) (va_seconds' : Nat → Int32) (sf_facts' : Int32) (sa_heard' : Nat → Int32) (sa_huts' : Nat → Int32) (sa_minutes' : Nat → Int32) (cf_voices' : Int32) (cf_step' : Int32) (ca_parts' : Nat → Int32) (ca_heights' : Nat → Int32) (pl : Int32) (nums' : Nat → Int32) (bh' ki' fi' va' h' s' : Int32), tx B n o = (1, pl, (tx B n o).2.2) → P i lf_huts' lf_singers' lf_villages' lf_dams' lf_echoes' lf_deep' lf_slide' la_heights' la_ladders' la_minutes' la_echoFrom' la_echoTo' la_homes' la_talls' la_known' vf_deeds' va_kinds' va_firsts' va_seconds' sf_facts' sa_heard' sa_huts' sa_minutes' cf_voices' cf_step' ca_parts' ca_heights' 1 pl nums' bh' ki' fi' va' h' s' := by
    intro i lf_huts' lf_singers' lf_villages' lf_dams' lf_echoes' lf_deep' lf_slide' la_heights' la_ladders' la_minutes' la_echoFrom' la_echoTo' la_homes' la_talls' la_known' vf_deeds' va_kinds' va_firsts' va_seconds' sf_facts' sa_heard' sa_huts' sa_minutes' cf_voices' cf_step' ca_parts' ca_heights' pl nums' bh' ki' fi' va' h' s' hR
    apply hP
    have f := fin lf_huts' lf_singers' lf_villages' lf_dams' lf_echoes' lf_deep' lf_slide' la_heights' la_ladders' la_minutes' la_echoFrom' la_echoTo' la_homes' la_talls' la_known' vf_deeds' va_kinds' va_firsts' va_seconds' sf_facts' sa_heard' sa_huts' sa_minutes' cf_voices' cf_step' ca_parts' ca_heights' 1 pl nums' bh' ki' fi' va' h' s' (Or.inl ⟨hR, rfl⟩)
    exact ⟨fun _ => f, fun _ => ⟨fun _ => f, fun _ => ⟨fun _ => f, fun h9 => absurd rfl h9⟩⟩⟩
  have loop : ∀ m r i (lf_huts' : Int32) (lf_singers' : Int32) (lf_villages' : Int32) (lf_dams' : Int32) (lf_echoes' : Int32) (lf_deep' : Int32) (lf_slide' : Int32) (la_heights' : Nat → Int32) (la_ladders' : Nat → Int32) (la_minutes' : Nat → Int32) (la_echoFrom' : Nat → Int32) (la_echoTo' : Nat → Int32) (la_homes' : Nat → Int32) (la_talls' : Nat → Int32) (la_known' : Nat → Int32) (vf_deeds' : Int32) (va_kinds' : Nat → Int32) (va_firsts' : Nat → Int32) (va_seconds' : Nat → Int32) (sf_facts' : Int32) (sa_heard' : Nat → Int32) (sa_huts' : Nat → Int32) (sa_minutes' : Nat → Int32) (cf_voices' : Int32) (cf_step' : Int32) (ca_parts' : Nat → Int32) (ca_heights' : Nat → Int32) (fa pl : Int32) (nums' : Nat → Int32) (va' h' s' : Int32) (td : Nat → Int32) (fh fs : Int32), n + 1 ≤ m + r → r ≤ n → i ≤ r → ¬ fa = 1 → CB o td → (tK B n r = 2 → va' = tV B n r) → (fa = 0 → DR o lf_huts' lf_singers' lf_villages' lf_dams' lf_echoes' lf_deep' lf_slide' la_heights' la_ladders' la_minutes' la_echoFrom' la_echoTo' la_homes' la_talls' la_known' vf_deeds' va_kinds' va_firsts' va_seconds' sf_facts' sa_heard' sa_huts' sa_minutes' cf_voices' cf_step' ca_parts' ca_heights' h' s' td fh fs) → tx B n o = go B n o m r fa pl td fh fs → P (nI i) lf_huts' lf_singers' lf_villages' lf_dams' lf_echoes' lf_deep' lf_slide' la_heights' la_ladders' la_minutes' la_echoFrom' la_echoTo' la_homes' la_talls' la_known' vf_deeds' va_kinds' va_firsts' va_seconds' sf_facts' sa_heard' sa_huts' sa_minutes' cf_voices' cf_step' ca_parts' ca_heights' fa pl nums' (nI (tN B n r)) (nI (tK B n r)) (nI (tF B n r)) va' h' s' := by
    intro m
    induction m with
    | zero => intro r i lf_huts' lf_singers' lf_villages' lf_dams' lf_echoes' lf_deep' lf_slide' la_heights' la_ladders' la_minutes' la_echoFrom' la_echoTo' la_homes' la_talls' la_known' vf_deeds' va_kinds' va_firsts' va_seconds' sf_facts' sa_heard' sa_huts' sa_minutes' cf_voices' cf_step' ca_parts' ca_heights' fa pl nums' va' h' s' td fh fs h1 h2; omega
    | succ m ih =>
      intro r i lf_huts' lf_singers' lf_villages' lf_dams' lf_echoes' lf_deep' lf_slide' la_heights' la_ladders' la_minutes' la_echoFrom' la_echoTo' la_homes' la_talls' la_known' vf_deeds' va_kinds' va_firsts' va_seconds' sf_facts' sa_heard' sa_huts' sa_minutes' cf_voices' cf_step' ca_parts' ca_heights' fa pl nums' va' h' s' td fh fs hm hr hi hf1 hC hv hD hR
      have htk := tk_le (B := B) hr
      have htF := tF_le (B := B) hr
      apply hP
      have endd : tK B n r = 0 → q_wr_X4_read_23_78 lf_huts' lf_singers' lf_villages' lf_dams' lf_echoes' lf_deep' lf_slide' la_heights' la_ladders' la_minutes' la_echoFrom' la_echoTo' la_homes' la_talls' la_known' vf_deeds' va_kinds' va_firsts' va_seconds' sf_facts' sa_heard' sa_huts' sa_minutes' cf_voices' cf_step' ca_parts' ca_heights' fa pl nums' tp (nI n) (nI (tN B n r)) (nI (tK B n r)) (nI (tF B n r)) va' h' s' zf (nI o) post := by
        intro hk
        rw [go, if_pos hk] at hR
        exact fin _ _ _ _ _ _ _ _ _ _ _ _ _ _ _ _ _ _ _ _ _ _ _ _ _ _ _ fa pl _ _ _ _ _ _ _ (Or.inr ⟨td, fh, fs, hC, hD, hR⟩)
      refine pk_le n i (fun h9 => endd ?_) (fun _ => pk_eq (tK B n r) 0 endd (fun hk => ⟨fun h9 => absurd h9 hf1, fun _ => ?_⟩))
      · by_cases hk : tK B n r = 0
        · exact hk
        · have := htk.2.2.1 hk
          omega
      · rw [go, if_neg hk] at hR
        refine e_readLine hn hr ho hT hv hC hD (fun hl lf_huts2 lf_singers2 lf_villages2 lf_dams2 lf_echoes2 lf_deep2 lf_slide2 la_heights2 la_ladders2 la_minutes2 la_echoFrom2 la_echoTo2 la_homes2 la_talls2 la_known2 vf_deeds2 va_kinds2 va_firsts2 va_seconds2 sf_facts2 sa_heard2 sa_huts2 sa_minutes2 cf_voices2 cf_step2 ca_parts2 ca_heights2 nums2 b2 k2 f2 va2 h2 s2 v e => ?_) (fun hl lf_huts2 lf_singers2 lf_villages2 lf_dams2 lf_echoes2 lf_deep2 lf_slide2 la_heights2 la_ladders2 la_minutes2 la_echoFrom2 la_echoTo2 la_homes2 la_talls2 la_known2 vf_deeds2 va_kinds2 va_firsts2 va_seconds2 sf_facts2 sa_heard2 sa_huts2 sa_minutes2 cf_voices2 cf_step2 ca_parts2 ca_heights2 nums2 va2 h2 s2 hD2 hv2 v e => ?_)
        · rw [if_neg hl] at hR
          exact bad _ _ _ _ _ _ _ _ _ _ _ _ _ _ _ _ _ _ _ _ _ _ _ _ _ _ _ _ _ _ _ _ _ _ _ _ (by rw [hR])
        · rw [if_pos hl] at hR
          have hlt : wOf B n r o < 20 := by
            rcases wd_cases (B := B) (n := n) (r := r) ho with h20 | h20
            · exfalso
              unfold lb at hl
              rw [if_pos h20.1] at hl
              omega
            · exact h20.1
          have hP2 := (wd_cases (B := B) (n := n) (r := r) ho).resolve_left (fun h => by omega)
          have hps := ps_le (B := B) hr (nW (wOf B n r o) + 2)
          have hpl : r + 1 ≤ ps B n r (nW (wOf B n r o) + 2) := ps_lt hr hk (nW (wOf B n r o) + 1)
          rw [e, nI_1]
          refine ih _ (i + 1) _ _ _ _ _ _ _ _ _ _ _ _ _ _ _ _ _ _ _ _ _ _ _ _ _ _ _ _ _ _ _ _ _ _ _ _ (by omega) hps.2 (by omega) (FQ_k hf1 _) (CB_ln ho ⟨hP2.2.1, hP2.2.2.1⟩ hC) hv2 (fun h9 => ?_) hR
          rw [gd_z _ h9]
          exact hD2 h9
  exact loop (n + 1) 0 0 _ _ _ _ _ _ _ _ _ _ _ _ _ _ _ _ _ _ _ _ _ _ _ _ _ _ _ 0 (-1) _ _ _ _ (ini o) (-1) (-1) (by omega) (by omega) (by omega) (by decide) (CB_ini ho (fun _ _ => rfl)) hv1 (fun _ => hD) rfl
end
section
def TL (k : Nat) (T : TT) (td : Nat → Int32) : Prop := if k = 0 then LDR (T.1 3) (T.1 4) (T.1 5) (T.1 6) (T.1 7) (T.1 8) (T.1 9) (T.2 2) (T.2 3) (T.2 4) (T.2 5) (T.2 6) (T.2 7) (T.2 8) (T.2 9) td else LDR (T.1 10) (T.1 11) (T.1 12) (T.1 13) (T.1 14) (T.1 15) (T.1 16) (T.2 10) (T.2 11) (T.2 12) (T.2 13) (T.2 14) (T.2 15) (T.2 16) (T.2 17) td
def TV (k : Nat) (T : TT) (td : Nat → Int32) : Prop := if k = 0 then R3 (T.1 17) (T.2 18) (T.2 19) (T.2 20) td else R3 (T.1 18) (T.2 21) (T.2 22) (T.2 23) td
def TSi (k : Nat) (T : TT) (td : Nat → Int32) : Prop := if k = 0 then R3 (T.1 19) (T.2 24) (T.2 25) (T.2 26) td else R3 (T.1 20) (T.2 27) (T.2 28) (T.2 29) td
def TC (k : Nat) (T : TT) (td : Nat → Int32) : Prop := if k = 0 then CDR (T.1 21) (T.1 22) (T.2 30) (T.2 31) td else CDR (T.1 23) (T.1 24) (T.2 32) (T.2 33) td
def SL (o k : Nat) (T : TT) (td : Nat → Int32) : Prop := if o = 0 then TL k T td else if o = 1 then TV k T td else if o = 2 then TSi k T td else TC k T td
def slS (o k i : Nat) : Bool := if o = 0 then (if k = 0 then i == 3 || i == 4 || i == 5 || i == 6 || i == 7 || i == 8 || i == 9 else i == 10 || i == 11 || i == 12 || i == 13 || i == 14 || i == 15 || i == 16) else if o = 1 then (if k = 0 then i == 17 else i == 18) else if o = 2 then (if k = 0 then i == 19 else i == 20) else (if k = 0 then i == 21 || i == 22 else i == 23 || i == 24)
def slA (o k i : Nat) : Bool := if o = 0 then (if k = 0 then i == 2 || i == 3 || i == 4 || i == 5 || i == 6 || i == 7 || i == 8 || i == 9 else i == 10 || i == 11 || i == 12 || i == 13 || i == 14 || i == 15 || i == 16 || i == 17) else if o = 1 then (if k = 0 then i == 18 || i == 19 || i == 20 else i == 21 || i == 22 || i == 23) else if o = 2 then (if k = 0 then i == 24 || i == 25 || i == 26 else i == 27 || i == 28 || i == 29) else (if k = 0 then i == 30 || i == 31 else i == 32 || i == 33)
def wD (o : Nat) : Nat := [132, 121, 31, 20].getD o 0
/-- a slot is the same where its comps are -/
theorem SL_same {o k : Nat} {T T' : TT} {td : Nat → Int32} (ho : o < 4) (hk : k < 2) (h1 : ∀ i, i < 25 → slS o k i = true → T'.1 i = T.1 i) (h2 : ∀ i, i < 34 → slA o k i = true → T'.2 i = T.2 i) (h : SL o k T td) : SL o k T' td := by
  have hoc : o = 0 ∨ o = 1 ∨ o = 2 ∨ o = 3 := by omega
  have hkc : k = 0 ∨ k = 1 := by omega
  rcases hoc with rfl | rfl | rfl | rfl <;> rcases hkc with rfl | rfl
  · show LDR (T'.1 3) (T'.1 4) (T'.1 5) (T'.1 6) (T'.1 7) (T'.1 8) (T'.1 9) (T'.2 2) (T'.2 3) (T'.2 4) (T'.2 5) (T'.2 6) (T'.2 7) (T'.2 8) (T'.2 9) td
    rw [h1 3 (by decide) (by decide), h1 4 (by decide) (by decide), h1 5 (by decide) (by decide), h1 6 (by decide) (by decide), h1 7 (by decide) (by decide), h1 8 (by decide) (by decide), h1 9 (by decide) (by decide), h2 2 (by decide) (by decide), h2 3 (by decide) (by decide), h2 4 (by decide) (by decide), h2 5 (by decide) (by decide), h2 6 (by decide) (by decide), h2 7 (by decide) (by decide), h2 8 (by decide) (by decide), h2 9 (by decide) (by decide)]
    exact h
  · show LDR (T'.1 10) (T'.1 11) (T'.1 12) (T'.1 13) (T'.1 14) (T'.1 15) (T'.1 16) (T'.2 10) (T'.2 11) (T'.2 12) (T'.2 13) (T'.2 14) (T'.2 15) (T'.2 16) (T'.2 17) td
    rw [h1 10 (by decide) (by decide), h1 11 (by decide) (by decide), h1 12 (by decide) (by decide), h1 13 (by decide) (by decide), h1 14 (by decide) (by decide), h1 15 (by decide) (by decide), h1 16 (by decide) (by decide), h2 10 (by decide) (by decide), h2 11 (by decide) (by decide), h2 12 (by decide) (by decide), h2 13 (by decide) (by decide), h2 14 (by decide) (by decide), h2 15 (by decide) (by decide), h2 16 (by decide) (by decide), h2 17 (by decide) (by decide)]
    exact h
  · show R3 (T'.1 17) (T'.2 18) (T'.2 19) (T'.2 20) td
    rw [h1 17 (by decide) (by decide), h2 18 (by decide) (by decide), h2 19 (by decide) (by decide), h2 20 (by decide) (by decide)]
    exact h
  · show R3 (T'.1 18) (T'.2 21) (T'.2 22) (T'.2 23) td
    rw [h1 18 (by decide) (by decide), h2 21 (by decide) (by decide), h2 22 (by decide) (by decide), h2 23 (by decide) (by decide)]
    exact h
  · show R3 (T'.1 19) (T'.2 24) (T'.2 25) (T'.2 26) td
    rw [h1 19 (by decide) (by decide), h2 24 (by decide) (by decide), h2 25 (by decide) (by decide), h2 26 (by decide) (by decide)]
    exact h
  · show R3 (T'.1 20) (T'.2 27) (T'.2 28) (T'.2 29) td
    rw [h1 20 (by decide) (by decide), h2 27 (by decide) (by decide), h2 28 (by decide) (by decide), h2 29 (by decide) (by decide)]
    exact h
  · show CDR (T'.1 21) (T'.1 22) (T'.2 30) (T'.2 31) td
    rw [h1 21 (by decide) (by decide), h1 22 (by decide) (by decide), h2 30 (by decide) (by decide), h2 31 (by decide) (by decide)]
    exact h
  · show CDR (T'.1 23) (T'.1 24) (T'.2 32) (T'.2 33) td
    rw [h1 23 (by decide) (by decide), h1 24 (by decide) (by decide), h2 32 (by decide) (by decide), h2 33 (by decide) (by decide)]
    exact h
theorem cl_le {x : Int32} {h : Int} {m : Nat} (hx : iv 0 h x) (hm : h ≤ m) : x.toNatClampNeg ≤ m := by
  have e : x.toNatClampNeg = x.toInt.toNat := rfl
  have := hx.2
  omega
theorem LDR_cp {huts singers villages dams echoes deep slide : Int32} {heights ladders minutes echoFrom echoTo homes talls known heights2 ladders2 minutes2 echoFrom2 echoTo2 homes2 talls2 known2 td : Nat → Int32} (h : LDR huts singers villages dams echoes deep slide heights ladders minutes echoFrom echoTo homes talls known td) (b0 : (td 0).toNatClampNeg ≤ 9) (b1 : (td 1).toNatClampNeg ≤ 6) (b4 : (td 4).toNatClampNeg ≤ 4) (c_heights : ∀ j, j < 9 → heights2 j = heights j) (c_ladders : ∀ j, j < 9 → ladders2 j = ladders j) (c_minutes : ∀ j, j < 81 → minutes2 j = minutes j) (c_echoFrom : ∀ j, j < 4 → echoFrom2 j = echoFrom j) (c_echoTo : ∀ j, j < 4 → echoTo2 j = echoTo j) (c_homes : ∀ j, j < 6 → homes2 j = homes j) (c_talls : ∀ j, j < 6 → talls2 j = talls j) (c_known : ∀ j, j < 6 → known2 j = known j) : LDR huts singers villages dams echoes deep slide heights2 ladders2 minutes2 echoFrom2 echoTo2 homes2 talls2 known2 td := by
  obtain ⟨e0, e1, e2, e3, e4, e5, e6, f1, f2, f3, f4, f5, f6⟩ := h
  exact ⟨e0, e1, e2, e3, e4, e5, e6, fun j hj => (c_heights j (by omega)).trans (f1 j hj), fun j hj => (c_ladders j hj).trans (f2 j hj), fun j hj => (c_minutes j hj).trans (f3 j hj), fun j hj => ⟨(c_echoFrom j (by omega)).trans (f4 j hj).1, (c_echoTo j (by omega)).trans (f4 j hj).2⟩, fun j hj => ⟨(c_homes j (by omega)).trans (f5 j hj).1, (c_talls j (by omega)).trans (f5 j hj).2⟩, fun j hj => (c_known j hj).trans (f6 j hj)⟩
theorem R3_cp {c : Int32} {a b d a2 b2 d2 td : Nat → Int32} (h : R3 c a b d td) (ha : ∀ j, j < c.toNatClampNeg → a2 j = a j) (hb : ∀ j, j < c.toNatClampNeg → b2 j = b j) (hd : ∀ j, j < c.toNatClampNeg → d2 j = d j) : R3 c a2 b2 d2 td := by
  refine ⟨h.1, fun j hj => ?_⟩
  have hj2 : j < c.toNatClampNeg := by rw [h.1]; exact hj
  exact ⟨(ha j hj2).trans (h.2 j hj).1, (hb j hj2).trans (h.2 j hj).2.1, (hd j hj2).trans (h.2 j hj).2.2⟩
theorem CDR_cp {c st : Int32} {a b a2 b2 td : Nat → Int32} (h : CDR c st a b td) (ha : ∀ j, j < c.toNatClampNeg → a2 j = a j) (hb : ∀ j, j < c.toNatClampNeg → b2 j = b j) : CDR c st a2 b2 td := by
  refine ⟨h.1, h.2.1, fun j hj => ?_⟩
  have hj2 : j < c.toNatClampNeg := by rw [h.1]; exact hj
  exact ⟨(ha j hj2).trans (h.2.2 j hj).1, (hb j hj2).trans (h.2.2 j hj).2⟩
theorem cpy0 {f g t : Nat → Int32} {n : Nat} {x : Int32} (e : t = va_cpy f g (Int32.toNatClampNeg 0) (Int32.toNatClampNeg 0) (Int32.toNatClampNeg x)) (hx : Int32.toNatClampNeg x = n) : ∀ j, j < n → t j = f j := by
  intro j hj
  rw [e, c_0, hx, pk_cpy_in (by omega) (by omega), Nat.zero_add, Nat.sub_zero]
theorem e_ll {f_huts f_singers f_villages f_dams f_echoes f_deep f_slide : Int32} {a_heights a_ladders a_minutes a_echoFrom a_echoTo a_homes a_talls a_known : Nat → Int32} {of_huts of_singers of_villages of_dams of_echoes of_deep of_slide : Int32} {oa_heights oa_ladders oa_minutes oa_echoFrom oa_echoTo oa_homes oa_talls oa_known : Nat → Int32} {post : (Int32) → (Int32) → (Int32) → (Int32) → (Int32) → (Int32) → (Int32) → (Nat → Int32) → (Nat → Int32) → (Nat → Int32) → (Nat → Int32) → (Nat → Int32) → (Nat → Int32) → (Nat → Int32) → (Nat → Int32) → Prop} (hp : ∀ (na_heights : Nat → Int32) (na_ladders : Nat → Int32) (na_minutes : Nat → Int32) (na_echoFrom : Nat → Int32) (na_echoTo : Nat → Int32) (na_homes : Nat → Int32) (na_talls : Nat → Int32) (na_known : Nat → Int32), (∀ j, j < 9 → na_heights j = oa_heights j) → (∀ j, j < 9 → na_ladders j = oa_ladders j) → (∀ j, j < 81 → na_minutes j = oa_minutes j) → (∀ j, j < 4 → na_echoFrom j = oa_echoFrom j) → (∀ j, j < 4 → na_echoTo j = oa_echoTo j) → (∀ j, j < 6 → na_homes j = oa_homes j) → (∀ j, j < 6 → na_talls j = oa_talls j) → (∀ j, j < 6 → na_known j = oa_known j) → post of_huts of_singers of_villages of_dams of_echoes of_deep of_slide na_heights na_ladders na_minutes na_echoFrom na_echoTo na_homes na_talls na_known) : q_wll_X2_copyFrom_9_0 f_huts f_singers f_villages f_dams f_echoes f_deep f_slide a_heights a_ladders a_minutes a_echoFrom a_echoTo a_homes a_talls a_known of_huts of_singers of_villages of_dams of_echoes of_deep of_slide oa_heights oa_ladders oa_minutes oa_echoFrom oa_echoTo oa_homes oa_talls oa_known post := by
  intro t_heights e_heights t_ladders e_ladders t_minutes e_minutes t_echoFrom e_echoFrom t_echoTo e_echoTo t_homes e_homes t_talls e_talls t_known e_known
  exact hp t_heights t_ladders t_minutes t_echoFrom t_echoTo t_homes t_talls t_known (cpy0 e_heights rfl) (cpy0 e_ladders rfl) (cpy0 e_minutes rfl) (cpy0 e_echoFrom rfl) (cpy0 e_echoTo rfl) (cpy0 e_homes rfl) (cpy0 e_talls rfl) (cpy0 e_known rfl)
theorem e_vv {f_deeds : Int32} {a_kinds a_firsts a_seconds : Nat → Int32} {of_deeds : Int32} {oa_kinds oa_firsts oa_seconds : Nat → Int32} {post : (Int32) → (Nat → Int32) → (Nat → Int32) → (Nat → Int32) → Prop} (hc : iv 0 40 of_deeds) (hp : ∀ (na_kinds : Nat → Int32) (na_firsts : Nat → Int32) (na_seconds : Nat → Int32), (∀ j, j < of_deeds.toNatClampNeg → na_kinds j = oa_kinds j) → (∀ j, j < of_deeds.toNatClampNeg → na_firsts j = oa_firsts j) → (∀ j, j < of_deeds.toNatClampNeg → na_seconds j = oa_seconds j) → post of_deeds na_kinds na_firsts na_seconds) : q_wvv_X1_copyFrom_4_0 f_deeds a_kinds a_firsts a_seconds of_deeds oa_kinds oa_firsts oa_seconds post := by
  have h0 : ¬ of_deeds < 0 := iv_nn hc (by decide)
  have h1 : Int32.toNatClampNeg (0 : Int32) + Int32.toNatClampNeg of_deeds ≤ 40 := by rw [c_0, Nat.zero_add]; exact cl_le hc (by decide)
  exact ⟨h0, h1, h1, fun t0 e0 => ⟨h0, h1, h1, fun t1 e1 => ⟨h0, h1, h1, fun t2 e2 => hp t0 t1 t2 (cpy0 e0 rfl) (cpy0 e1 rfl) (cpy0 e2 rfl)⟩⟩⟩
theorem e_ss {f_facts : Int32} {a_heard a_huts a_minutes : Nat → Int32} {of_facts : Int32} {oa_heard oa_huts oa_minutes : Nat → Int32} {post : (Int32) → (Nat → Int32) → (Nat → Int32) → (Nat → Int32) → Prop} (hc : iv 0 10 of_facts) (hp : ∀ (na_heard : Nat → Int32) (na_huts : Nat → Int32) (na_minutes : Nat → Int32), (∀ j, j < of_facts.toNatClampNeg → na_heard j = oa_heard j) → (∀ j, j < of_facts.toNatClampNeg → na_huts j = oa_huts j) → (∀ j, j < of_facts.toNatClampNeg → na_minutes j = oa_minutes j) → post of_facts na_heard na_huts na_minutes) : q_wss_X6_copyFrom_4_0 f_facts a_heard a_huts a_minutes of_facts oa_heard oa_huts oa_minutes post := by
  have h0 : ¬ of_facts < 0 := iv_nn hc (by decide)
  have h1 : Int32.toNatClampNeg (0 : Int32) + Int32.toNatClampNeg of_facts ≤ 10 := by rw [c_0, Nat.zero_add]; exact cl_le hc (by decide)
  exact ⟨h0, h1, h1, fun t0 e0 => ⟨h0, h1, h1, fun t1 e1 => ⟨h0, h1, h1, fun t2 e2 => hp t0 t1 t2 (cpy0 e0 rfl) (cpy0 e1 rfl) (cpy0 e2 rfl)⟩⟩⟩
theorem e_cc {f_voices f_step : Int32} {a_parts a_heights : Nat → Int32} {of_voices of_step : Int32} {oa_parts oa_heights : Nat → Int32} {post : (Int32) → (Int32) → (Nat → Int32) → (Nat → Int32) → Prop} (hc : iv 0 9 of_voices) (hp : ∀ (na_parts : Nat → Int32) (na_heights : Nat → Int32), (∀ j, j < of_voices.toNatClampNeg → na_parts j = oa_parts j) → (∀ j, j < of_voices.toNatClampNeg → na_heights j = oa_heights j) → post of_voices of_step na_parts na_heights) : q_wcc_X0_copyFrom_3_0 f_voices f_step a_parts a_heights of_voices of_step oa_parts oa_heights post := by
  have h0 : ¬ of_voices < 0 := iv_nn hc (by decide)
  have h1 : Int32.toNatClampNeg (0 : Int32) + Int32.toNatClampNeg of_voices ≤ 9 := by rw [c_0, Nat.zero_add]; exact cl_le hc (by decide)
  exact ⟨h0, h1, h1, fun t0 e0 => ⟨h0, h1, h1, fun t1 e1 => hp t0 t1 (cpy0 e0 rfl) (cpy0 e1 rfl)⟩⟩
end
section
/-- which number a text gets -/
def NUM (cnt a : Int32) (k : Nat) : Prop := (a = -1 ∧ cnt = nI k) ∨ (¬ a = -1 ∧ a = nI k ∧ nI k < cnt)
def nB (B : Nat → Int32) (n j : Nat) : Int32 := if j < n then B j else 0
def cmx (c : Int32) (k : Nat) : Int32 := if c < nI k + 1 then nI k + 1 else c
noncomputable def TXr (T : TT) (o : Nat) : Int32 × Int32 × (Nat → Int32) := tx (nB (T.2 0) (T.1 0).toNatClampNeg) (T.1 0).toNatClampNeg o
def sameT (T T' : TT) : Prop := (∀ i, 3 ≤ i → i < 25 → T'.1 i = T.1 i) ∧ (∀ i, 2 ≤ i → i < 34 → T'.2 i = T.2 i)
def sameB (o k : Nat) (T T' : TT) : Prop := (∀ i, 3 ≤ i → i < 25 → ¬ slS o k i = true → T'.1 i = T.1 i) ∧ (∀ i, 2 ≤ i → i < 34 → ¬ slA o k i = true → T'.2 i = T.2 i)
def xTX (T T' : TT) (a1 a2 r : Int32) : Prop := T'.1 0 = 0 ∧ T'.2 0 = T.2 0 ∧
  ((¬ ∃ o k, o < 4 ∧ k < 2 ∧ a1 = nI o ∧ NUM (T.2 1 o) a2 k) → r = -2 ∧ T'.1 1 = 0 ∧ T'.1 2 = -1 ∧ T'.2 1 = T.2 1 ∧ sameT T T') ∧
  (∀ o k, o < 4 → k < 2 → a1 = nI o → NUM (T.2 1 o) a2 k → T'.1 1 = (TXr T o).1 ∧ T'.1 2 = (TXr T o).2.1 ∧ (¬ (TXr T o).1 = 0 → r = -1 ∧ T'.2 1 = T.2 1 ∧ sameT T T') ∧ ((TXr T o).1 = 0 → r = nI k ∧ T'.2 1 = upd (T.2 1) o (cmx (T.2 1 o) k) ∧ SL o k T' (TXr T o).2.2 ∧ sameB o k T T'))
theorem NUM_un {c a : Int32} {k k' : Nat} (hk : k < 2) (hk' : k' < 2) (h : NUM c a k) (h' : NUM c a k') : k = k' := by
  rcases h with ⟨h1, h2⟩ | ⟨h1, h2, h3⟩ <;> rcases h' with ⟨g1, g2⟩ | ⟨g1, g2, g3⟩
  · exact (nI_eq (by omega) (by omega)).mp (h2.symm.trans g2)
  · exact absurd h1 g1
  · exact absurd g1 h1
  · exact (nI_eq (by omega) (by omega)).mp (h2.symm.trans g2)
theorem e_numberFor {cn : Nat → Int32} {x1 x2 : Int32} {post : Int32 → Prop} (hc : ∀ j, iv 0 2 (cn j)) (h0 : (¬ ∃ o k, o < 4 ∧ k < 2 ∧ x1 = nI o ∧ NUM (cn o) x2 k) → post (-2)) (h1 : ∀ o k, o < 4 → k < 2 → x1 = nI o → NUM (cn o) x2 k → post (nI k)) : q_wx_X10_numberFor_0 cn x1 x2 post := by
  refine ⟨fun h => h0 ?_, fun h => ⟨fun h4 => ?_, fun h4 => h0 ?_⟩⟩
  · rintro ⟨o, k, ho, _, e, _⟩
    rw [e] at h
    exact absurd h (nI_pos (by omega))
  · obtain ⟨o, ho, e⟩ := nI_of2 (M := 3) (n := 3) (by decide) h (by rw [Int32.le_iff_toInt_le]; have := r_lt h4; have e3 : (3 : Int32).toInt = 3 := rfl; have e4 : (4 : Int32).toInt = 4 := rfl; omega)
    subst e
    refine ⟨vp_in_nI (by omega) (by omega), fun v ev => ?_⟩
    rw [nI_clamp (by omega)] at ev
    obtain ⟨c, hcv, -, hc2, -⟩ := iv_nI (hc o) (by decide)
    rw [hcv] at ev
    subst ev
    have no : ∀ {q : Prop}, (∀ k, k < 2 → ¬ NUM (cn o) x2 k) → (¬ ∃ o' k, o' < 4 ∧ k < 2 ∧ nI o = nI o' ∧ NUM (cn o') x2 k) := by
      rintro - hno ⟨o', k, ho', hk, e, hN⟩
      have : o = o' := (nI_eq (by omega) (by omega)).mp e
      subst this
      exact hno k hk hN
    refine ⟨fun hx => ⟨fun hn => h0 (no (q := True) ?_), fun hn => ⟨fun hl => h0 (no (q := True) ?_), fun hl => ?_⟩⟩, fun hx => ⟨fun h2 => h0 (no (q := True) ?_), fun h2 => ?_⟩⟩
    · rintro k hk (⟨q1, _⟩ | ⟨_, q2, _⟩)
      · exact hx q1
      · rw [q2] at hn; exact absurd hn (nI_pos (by omega))
    · rintro k hk (⟨q1, _⟩ | ⟨_, q2, q3⟩)
      · exact hx q1
      · rw [q2] at hl
        rw [hcv] at q3
        exact absurd q3 (Int32.not_lt.mpr hl)
    · obtain ⟨k, hk, ek⟩ := nI_of2 (M := 1) (n := 1) (x := x2) (by decide) hn (by
        rw [Int32.le_iff_toInt_le]
        have := r_nle hl
        rw [nI_toInt (by omega)] at this
        have e1 : (1 : Int32).toInt = 1 := rfl
        omega)
      have g := h1 o k (by omega) (by omega) rfl (Or.inr ⟨hx, ek, by rw [hcv, ← ek]; exact Int32.not_le.mp hl⟩)
      rw [← ek] at g
      exact g
    · rintro k hk (⟨_, q2⟩ | ⟨q1, _, _⟩)
      · rw [hcv] at q2
        rw [q2] at h2
        have := (nI_leI (a := 2) (b := k) (by omega) (by omega)).mp h2
        omega
      · exact q1 hx
    · have hlt : c < 2 := by
        by_cases h9 : c < 2
        · exact h9
        · exact absurd (nI_le (a := 2) (b := c) (by omega) (by omega)) h2
      exact h1 o c (by omega) hlt rfl (Or.inl ⟨hx, hcv⟩)
  · rintro ⟨o, k, ho, _, e, _⟩
    rw [e] at h4
    exact absurd (nI_lt (a := o) (b := 4) ho (by omega)) h4
theorem cs_S {i : Nat} (h1 : 3 ≤ i) (h2 : i < 25) : i = 3 ∨ i = 4 ∨ i = 5 ∨ i = 6 ∨ i = 7 ∨ i = 8 ∨ i = 9 ∨ i = 10 ∨ i = 11 ∨ i = 12 ∨ i = 13 ∨ i = 14 ∨ i = 15 ∨ i = 16 ∨ i = 17 ∨ i = 18 ∨ i = 19 ∨ i = 20 ∨ i = 21 ∨ i = 22 ∨ i = 23 ∨ i = 24 := by omega
theorem cs_A {i : Nat} (h1 : 2 ≤ i) (h2 : i < 34) : i = 2 ∨ i = 3 ∨ i = 4 ∨ i = 5 ∨ i = 6 ∨ i = 7 ∨ i = 8 ∨ i = 9 ∨ i = 10 ∨ i = 11 ∨ i = 12 ∨ i = 13 ∨ i = 14 ∨ i = 15 ∨ i = 16 ∨ i = 17 ∨ i = 18 ∨ i = 19 ∨ i = 20 ∨ i = 21 ∨ i = 22 ∨ i = 23 ∨ i = 24 ∨ i = 25 ∨ i = 26 ∨ i = 27 ∨ i = 28 ∨ i = 29 ∨ i = 30 ∨ i = 31 ∨ i = 32 ∨ i = 33 := by omega
set_option maxRecDepth 40000 in
set_option maxHeartbeats 4000000 in
theorem same_all {T : TT} {len fault place : Int32} {cnt : Nat → Int32} : sameT T (tmk (T.2 0) len fault place cnt (T.1 3) (T.1 4) (T.1 5) (T.1 6) (T.1 7) (T.1 8) (T.1 9) (T.2 2) (T.2 3) (T.2 4) (T.2 5) (T.2 6) (T.2 7) (T.2 8) (T.2 9) (T.1 10) (T.1 11) (T.1 12) (T.1 13) (T.1 14) (T.1 15) (T.1 16) (T.2 10) (T.2 11) (T.2 12) (T.2 13) (T.2 14) (T.2 15) (T.2 16) (T.2 17) (T.1 17) (T.2 18) (T.2 19) (T.2 20) (T.1 18) (T.2 21) (T.2 22) (T.2 23) (T.1 19) (T.2 24) (T.2 25) (T.2 26) (T.1 20) (T.2 27) (T.2 28) (T.2 29) (T.1 21) (T.1 22) (T.2 30) (T.2 31) (T.1 23) (T.1 24) (T.2 32) (T.2 33)) := by
  refine ⟨fun i h1 h2 => ?_, fun i h1 h2 => ?_⟩
  · rcases cs_S h1 h2 with rfl | rfl | rfl | rfl | rfl | rfl | rfl | rfl | rfl | rfl | rfl | rfl | rfl | rfl | rfl | rfl | rfl | rfl | rfl | rfl | rfl | rfl <;> rfl
  · rcases cs_A h1 h2 with rfl | rfl | rfl | rfl | rfl | rfl | rfl | rfl | rfl | rfl | rfl | rfl | rfl | rfl | rfl | rfl | rfl | rfl | rfl | rfl | rfl | rfl | rfl | rfl | rfl | rfl | rfl | rfl | rfl | rfl | rfl | rfl <;> rfl
set_option maxRecDepth 40000 in
set_option maxHeartbeats 4000000 in
theorem same_00 {T : TT} {len fault place : Int32} {cnt : Nat → Int32} {nl0f_huts nl0f_singers nl0f_villages nl0f_dams nl0f_echoes nl0f_deep nl0f_slide : Int32} {nl0a_heights nl0a_ladders nl0a_minutes nl0a_echoFrom nl0a_echoTo nl0a_homes nl0a_talls nl0a_known : Nat → Int32} : sameB 0 0 T (tmk (T.2 0) len fault place cnt nl0f_huts nl0f_singers nl0f_villages nl0f_dams nl0f_echoes nl0f_deep nl0f_slide nl0a_heights nl0a_ladders nl0a_minutes nl0a_echoFrom nl0a_echoTo nl0a_homes nl0a_talls nl0a_known (T.1 10) (T.1 11) (T.1 12) (T.1 13) (T.1 14) (T.1 15) (T.1 16) (T.2 10) (T.2 11) (T.2 12) (T.2 13) (T.2 14) (T.2 15) (T.2 16) (T.2 17) (T.1 17) (T.2 18) (T.2 19) (T.2 20) (T.1 18) (T.2 21) (T.2 22) (T.2 23) (T.1 19) (T.2 24) (T.2 25) (T.2 26) (T.1 20) (T.2 27) (T.2 28) (T.2 29) (T.1 21) (T.1 22) (T.2 30) (T.2 31) (T.1 23) (T.1 24) (T.2 32) (T.2 33)) := by
  refine ⟨fun i h1 h2 h3 => ?_, fun i h1 h2 h3 => ?_⟩
  · rcases cs_S h1 h2 with rfl | rfl | rfl | rfl | rfl | rfl | rfl | rfl | rfl | rfl | rfl | rfl | rfl | rfl | rfl | rfl | rfl | rfl | rfl | rfl | rfl | rfl <;> first | rfl | exact absurd rfl h3
  · rcases cs_A h1 h2 with rfl | rfl | rfl | rfl | rfl | rfl | rfl | rfl | rfl | rfl | rfl | rfl | rfl | rfl | rfl | rfl | rfl | rfl | rfl | rfl | rfl | rfl | rfl | rfl | rfl | rfl | rfl | rfl | rfl | rfl | rfl | rfl <;> first | rfl | exact absurd rfl h3
set_option maxRecDepth 40000 in
set_option maxHeartbeats 4000000 in
theorem same_01 {T : TT} {len fault place : Int32} {cnt : Nat → Int32} {nl1f_huts nl1f_singers nl1f_villages nl1f_dams nl1f_echoes nl1f_deep nl1f_slide : Int32} {nl1a_heights nl1a_ladders nl1a_minutes nl1a_echoFrom nl1a_echoTo nl1a_homes nl1a_talls nl1a_known : Nat → Int32} : sameB 0 1 T (tmk (T.2 0) len fault place cnt (T.1 3) (T.1 4) (T.1 5) (T.1 6) (T.1 7) (T.1 8) (T.1 9) (T.2 2) (T.2 3) (T.2 4) (T.2 5) (T.2 6) (T.2 7) (T.2 8) (T.2 9) nl1f_huts nl1f_singers nl1f_villages nl1f_dams nl1f_echoes nl1f_deep nl1f_slide nl1a_heights nl1a_ladders nl1a_minutes nl1a_echoFrom nl1a_echoTo nl1a_homes nl1a_talls nl1a_known (T.1 17) (T.2 18) (T.2 19) (T.2 20) (T.1 18) (T.2 21) (T.2 22) (T.2 23) (T.1 19) (T.2 24) (T.2 25) (T.2 26) (T.1 20) (T.2 27) (T.2 28) (T.2 29) (T.1 21) (T.1 22) (T.2 30) (T.2 31) (T.1 23) (T.1 24) (T.2 32) (T.2 33)) := by
  refine ⟨fun i h1 h2 h3 => ?_, fun i h1 h2 h3 => ?_⟩
  · rcases cs_S h1 h2 with rfl | rfl | rfl | rfl | rfl | rfl | rfl | rfl | rfl | rfl | rfl | rfl | rfl | rfl | rfl | rfl | rfl | rfl | rfl | rfl | rfl | rfl <;> first | rfl | exact absurd rfl h3
  · rcases cs_A h1 h2 with rfl | rfl | rfl | rfl | rfl | rfl | rfl | rfl | rfl | rfl | rfl | rfl | rfl | rfl | rfl | rfl | rfl | rfl | rfl | rfl | rfl | rfl | rfl | rfl | rfl | rfl | rfl | rfl | rfl | rfl | rfl | rfl <;> first | rfl | exact absurd rfl h3
set_option maxRecDepth 40000 in
set_option maxHeartbeats 4000000 in
theorem same_10 {T : TT} {len fault place : Int32} {cnt : Nat → Int32} {nv0f_deeds : Int32} {nv0a_kinds nv0a_firsts nv0a_seconds : Nat → Int32} : sameB 1 0 T (tmk (T.2 0) len fault place cnt (T.1 3) (T.1 4) (T.1 5) (T.1 6) (T.1 7) (T.1 8) (T.1 9) (T.2 2) (T.2 3) (T.2 4) (T.2 5) (T.2 6) (T.2 7) (T.2 8) (T.2 9) (T.1 10) (T.1 11) (T.1 12) (T.1 13) (T.1 14) (T.1 15) (T.1 16) (T.2 10) (T.2 11) (T.2 12) (T.2 13) (T.2 14) (T.2 15) (T.2 16) (T.2 17) nv0f_deeds nv0a_kinds nv0a_firsts nv0a_seconds (T.1 18) (T.2 21) (T.2 22) (T.2 23) (T.1 19) (T.2 24) (T.2 25) (T.2 26) (T.1 20) (T.2 27) (T.2 28) (T.2 29) (T.1 21) (T.1 22) (T.2 30) (T.2 31) (T.1 23) (T.1 24) (T.2 32) (T.2 33)) := by
  refine ⟨fun i h1 h2 h3 => ?_, fun i h1 h2 h3 => ?_⟩
  · rcases cs_S h1 h2 with rfl | rfl | rfl | rfl | rfl | rfl | rfl | rfl | rfl | rfl | rfl | rfl | rfl | rfl | rfl | rfl | rfl | rfl | rfl | rfl | rfl | rfl <;> first | rfl | exact absurd rfl h3
  · rcases cs_A h1 h2 with rfl | rfl | rfl | rfl | rfl | rfl | rfl | rfl | rfl | rfl | rfl | rfl | rfl | rfl | rfl | rfl | rfl | rfl | rfl | rfl | rfl | rfl | rfl | rfl | rfl | rfl | rfl | rfl | rfl | rfl | rfl | rfl <;> first | rfl | exact absurd rfl h3
set_option maxRecDepth 40000 in
set_option maxHeartbeats 4000000 in
theorem same_11 {T : TT} {len fault place : Int32} {cnt : Nat → Int32} {nv1f_deeds : Int32} {nv1a_kinds nv1a_firsts nv1a_seconds : Nat → Int32} : sameB 1 1 T (tmk (T.2 0) len fault place cnt (T.1 3) (T.1 4) (T.1 5) (T.1 6) (T.1 7) (T.1 8) (T.1 9) (T.2 2) (T.2 3) (T.2 4) (T.2 5) (T.2 6) (T.2 7) (T.2 8) (T.2 9) (T.1 10) (T.1 11) (T.1 12) (T.1 13) (T.1 14) (T.1 15) (T.1 16) (T.2 10) (T.2 11) (T.2 12) (T.2 13) (T.2 14) (T.2 15) (T.2 16) (T.2 17) (T.1 17) (T.2 18) (T.2 19) (T.2 20) nv1f_deeds nv1a_kinds nv1a_firsts nv1a_seconds (T.1 19) (T.2 24) (T.2 25) (T.2 26) (T.1 20) (T.2 27) (T.2 28) (T.2 29) (T.1 21) (T.1 22) (T.2 30) (T.2 31) (T.1 23) (T.1 24) (T.2 32) (T.2 33)) := by
  refine ⟨fun i h1 h2 h3 => ?_, fun i h1 h2 h3 => ?_⟩
  · rcases cs_S h1 h2 with rfl | rfl | rfl | rfl | rfl | rfl | rfl | rfl | rfl | rfl | rfl | rfl | rfl | rfl | rfl | rfl | rfl | rfl | rfl | rfl | rfl | rfl <;> first | rfl | exact absurd rfl h3
  · rcases cs_A h1 h2 with rfl | rfl | rfl | rfl | rfl | rfl | rfl | rfl | rfl | rfl | rfl | rfl | rfl | rfl | rfl | rfl | rfl | rfl | rfl | rfl | rfl | rfl | rfl | rfl | rfl | rfl | rfl | rfl | rfl | rfl | rfl | rfl <;> first | rfl | exact absurd rfl h3
set_option maxRecDepth 40000 in
set_option maxHeartbeats 4000000 in
theorem same_20 {T : TT} {len fault place : Int32} {cnt : Nat → Int32} {ns0f_facts : Int32} {ns0a_heard ns0a_huts ns0a_minutes : Nat → Int32} : sameB 2 0 T (tmk (T.2 0) len fault place cnt (T.1 3) (T.1 4) (T.1 5) (T.1 6) (T.1 7) (T.1 8) (T.1 9) (T.2 2) (T.2 3) (T.2 4) (T.2 5) (T.2 6) (T.2 7) (T.2 8) (T.2 9) (T.1 10) (T.1 11) (T.1 12) (T.1 13) (T.1 14) (T.1 15) (T.1 16) (T.2 10) (T.2 11) (T.2 12) (T.2 13) (T.2 14) (T.2 15) (T.2 16) (T.2 17) (T.1 17) (T.2 18) (T.2 19) (T.2 20) (T.1 18) (T.2 21) (T.2 22) (T.2 23) ns0f_facts ns0a_heard ns0a_huts ns0a_minutes (T.1 20) (T.2 27) (T.2 28) (T.2 29) (T.1 21) (T.1 22) (T.2 30) (T.2 31) (T.1 23) (T.1 24) (T.2 32) (T.2 33)) := by
  refine ⟨fun i h1 h2 h3 => ?_, fun i h1 h2 h3 => ?_⟩
  · rcases cs_S h1 h2 with rfl | rfl | rfl | rfl | rfl | rfl | rfl | rfl | rfl | rfl | rfl | rfl | rfl | rfl | rfl | rfl | rfl | rfl | rfl | rfl | rfl | rfl <;> first | rfl | exact absurd rfl h3
  · rcases cs_A h1 h2 with rfl | rfl | rfl | rfl | rfl | rfl | rfl | rfl | rfl | rfl | rfl | rfl | rfl | rfl | rfl | rfl | rfl | rfl | rfl | rfl | rfl | rfl | rfl | rfl | rfl | rfl | rfl | rfl | rfl | rfl | rfl | rfl <;> first | rfl | exact absurd rfl h3
set_option maxRecDepth 40000 in
set_option maxHeartbeats 4000000 in
theorem same_21 {T : TT} {len fault place : Int32} {cnt : Nat → Int32} {ns1f_facts : Int32} {ns1a_heard ns1a_huts ns1a_minutes : Nat → Int32} : sameB 2 1 T (tmk (T.2 0) len fault place cnt (T.1 3) (T.1 4) (T.1 5) (T.1 6) (T.1 7) (T.1 8) (T.1 9) (T.2 2) (T.2 3) (T.2 4) (T.2 5) (T.2 6) (T.2 7) (T.2 8) (T.2 9) (T.1 10) (T.1 11) (T.1 12) (T.1 13) (T.1 14) (T.1 15) (T.1 16) (T.2 10) (T.2 11) (T.2 12) (T.2 13) (T.2 14) (T.2 15) (T.2 16) (T.2 17) (T.1 17) (T.2 18) (T.2 19) (T.2 20) (T.1 18) (T.2 21) (T.2 22) (T.2 23) (T.1 19) (T.2 24) (T.2 25) (T.2 26) ns1f_facts ns1a_heard ns1a_huts ns1a_minutes (T.1 21) (T.1 22) (T.2 30) (T.2 31) (T.1 23) (T.1 24) (T.2 32) (T.2 33)) := by
  refine ⟨fun i h1 h2 h3 => ?_, fun i h1 h2 h3 => ?_⟩
  · rcases cs_S h1 h2 with rfl | rfl | rfl | rfl | rfl | rfl | rfl | rfl | rfl | rfl | rfl | rfl | rfl | rfl | rfl | rfl | rfl | rfl | rfl | rfl | rfl | rfl <;> first | rfl | exact absurd rfl h3
  · rcases cs_A h1 h2 with rfl | rfl | rfl | rfl | rfl | rfl | rfl | rfl | rfl | rfl | rfl | rfl | rfl | rfl | rfl | rfl | rfl | rfl | rfl | rfl | rfl | rfl | rfl | rfl | rfl | rfl | rfl | rfl | rfl | rfl | rfl | rfl <;> first | rfl | exact absurd rfl h3
set_option maxRecDepth 40000 in
set_option maxHeartbeats 4000000 in
theorem same_30 {T : TT} {len fault place : Int32} {cnt : Nat → Int32} {nc0f_voices nc0f_step : Int32} {nc0a_parts nc0a_heights : Nat → Int32} : sameB 3 0 T (tmk (T.2 0) len fault place cnt (T.1 3) (T.1 4) (T.1 5) (T.1 6) (T.1 7) (T.1 8) (T.1 9) (T.2 2) (T.2 3) (T.2 4) (T.2 5) (T.2 6) (T.2 7) (T.2 8) (T.2 9) (T.1 10) (T.1 11) (T.1 12) (T.1 13) (T.1 14) (T.1 15) (T.1 16) (T.2 10) (T.2 11) (T.2 12) (T.2 13) (T.2 14) (T.2 15) (T.2 16) (T.2 17) (T.1 17) (T.2 18) (T.2 19) (T.2 20) (T.1 18) (T.2 21) (T.2 22) (T.2 23) (T.1 19) (T.2 24) (T.2 25) (T.2 26) (T.1 20) (T.2 27) (T.2 28) (T.2 29) nc0f_voices nc0f_step nc0a_parts nc0a_heights (T.1 23) (T.1 24) (T.2 32) (T.2 33)) := by
  refine ⟨fun i h1 h2 h3 => ?_, fun i h1 h2 h3 => ?_⟩
  · rcases cs_S h1 h2 with rfl | rfl | rfl | rfl | rfl | rfl | rfl | rfl | rfl | rfl | rfl | rfl | rfl | rfl | rfl | rfl | rfl | rfl | rfl | rfl | rfl | rfl <;> first | rfl | exact absurd rfl h3
  · rcases cs_A h1 h2 with rfl | rfl | rfl | rfl | rfl | rfl | rfl | rfl | rfl | rfl | rfl | rfl | rfl | rfl | rfl | rfl | rfl | rfl | rfl | rfl | rfl | rfl | rfl | rfl | rfl | rfl | rfl | rfl | rfl | rfl | rfl | rfl <;> first | rfl | exact absurd rfl h3
set_option maxRecDepth 40000 in
set_option maxHeartbeats 4000000 in
theorem same_31 {T : TT} {len fault place : Int32} {cnt : Nat → Int32} {nc1f_voices nc1f_step : Int32} {nc1a_parts nc1a_heights : Nat → Int32} : sameB 3 1 T (tmk (T.2 0) len fault place cnt (T.1 3) (T.1 4) (T.1 5) (T.1 6) (T.1 7) (T.1 8) (T.1 9) (T.2 2) (T.2 3) (T.2 4) (T.2 5) (T.2 6) (T.2 7) (T.2 8) (T.2 9) (T.1 10) (T.1 11) (T.1 12) (T.1 13) (T.1 14) (T.1 15) (T.1 16) (T.2 10) (T.2 11) (T.2 12) (T.2 13) (T.2 14) (T.2 15) (T.2 16) (T.2 17) (T.1 17) (T.2 18) (T.2 19) (T.2 20) (T.1 18) (T.2 21) (T.2 22) (T.2 23) (T.1 19) (T.2 24) (T.2 25) (T.2 26) (T.1 20) (T.2 27) (T.2 28) (T.2 29) (T.1 21) (T.1 22) (T.2 30) (T.2 31) nc1f_voices nc1f_step nc1a_parts nc1a_heights) := by
  refine ⟨fun i h1 h2 h3 => ?_, fun i h1 h2 h3 => ?_⟩
  · rcases cs_S h1 h2 with rfl | rfl | rfl | rfl | rfl | rfl | rfl | rfl | rfl | rfl | rfl | rfl | rfl | rfl | rfl | rfl | rfl | rfl | rfl | rfl | rfl | rfl <;> first | rfl | exact absurd rfl h3
  · rcases cs_A h1 h2 with rfl | rfl | rfl | rfl | rfl | rfl | rfl | rfl | rfl | rfl | rfl | rfl | rfl | rfl | rfl | rfl | rfl | rfl | rfl | rfl | rfl | rfl | rfl | rfl | rfl | rfl | rfl | rfl | rfl | rfl | rfl | rfl <;> first | rfl | exact absurd rfl h3
set_option maxRecDepth 40000 in
set_option maxHeartbeats 4000000 in
theorem e_keep_00 {T : TT} {rlf_huts rlf_singers rlf_villages rlf_dams rlf_echoes rlf_deep rlf_slide rvf_deeds rsf_facts rcf_voices rcf_step : Int32} {rla_heights rla_ladders rla_minutes rla_echoFrom rla_echoTo rla_homes rla_talls rla_known rva_kinds rva_firsts rva_seconds rsa_heard rsa_huts rsa_minutes rca_parts rca_heights : Nat → Int32} {td : Nat → Int32} {len fault place : Int32} {post : (Nat → Int32) → (Int32) → (Int32) → (Int32) → (Int32) → (Int32) → (Int32) → (Int32) → (Nat → Int32) → (Nat → Int32) → (Nat → Int32) → (Nat → Int32) → (Nat → Int32) → (Nat → Int32) → (Nat → Int32) → (Nat → Int32) → (Int32) → (Int32) → (Int32) → (Int32) → (Int32) → (Int32) → (Int32) → (Nat → Int32) → (Nat → Int32) → (Nat → Int32) → (Nat → Int32) → (Nat → Int32) → (Nat → Int32) → (Nat → Int32) → (Nat → Int32) → (Int32) → (Nat → Int32) → (Nat → Int32) → (Nat → Int32) → (Int32) → (Nat → Int32) → (Nat → Int32) → (Nat → Int32) → (Int32) → (Nat → Int32) → (Nat → Int32) → (Nat → Int32) → (Int32) → (Nat → Int32) → (Nat → Int32) → (Nat → Int32) → (Int32) → (Int32) → (Nat → Int32) → (Nat → Int32) → (Int32) → (Int32) → (Nat → Int32) → (Nat → Int32) → Prop} (hC : CB 0 td) (hR : LDR rlf_huts rlf_singers rlf_villages rlf_dams rlf_echoes rlf_deep rlf_slide rla_heights rla_ladders rla_minutes rla_echoFrom rla_echoTo rla_homes rla_talls rla_known td) (hp : ∀ (nl0f_huts : Int32) (nl0f_singers : Int32) (nl0f_villages : Int32) (nl0f_dams : Int32) (nl0f_echoes : Int32) (nl0f_deep : Int32) (nl0f_slide : Int32) (nl0a_heights : Nat → Int32) (nl0a_ladders : Nat → Int32) (nl0a_minutes : Nat → Int32) (nl0a_echoFrom : Nat → Int32) (nl0a_echoTo : Nat → Int32) (nl0a_homes : Nat → Int32) (nl0a_talls : Nat → Int32) (nl0a_known : Nat → Int32), SL 0 0 (tmk (T.2 0) len fault place (upd (T.2 1) 0 (cmx (T.2 1 0) 0)) nl0f_huts nl0f_singers nl0f_villages nl0f_dams nl0f_echoes nl0f_deep nl0f_slide nl0a_heights nl0a_ladders nl0a_minutes nl0a_echoFrom nl0a_echoTo nl0a_homes nl0a_talls nl0a_known (T.1 10) (T.1 11) (T.1 12) (T.1 13) (T.1 14) (T.1 15) (T.1 16) (T.2 10) (T.2 11) (T.2 12) (T.2 13) (T.2 14) (T.2 15) (T.2 16) (T.2 17) (T.1 17) (T.2 18) (T.2 19) (T.2 20) (T.1 18) (T.2 21) (T.2 22) (T.2 23) (T.1 19) (T.2 24) (T.2 25) (T.2 26) (T.1 20) (T.2 27) (T.2 28) (T.2 29) (T.1 21) (T.1 22) (T.2 30) (T.2 31) (T.1 23) (T.1 24) (T.2 32) (T.2 33)) td → sameB 0 0 T (tmk (T.2 0) len fault place (upd (T.2 1) 0 (cmx (T.2 1 0) 0)) nl0f_huts nl0f_singers nl0f_villages nl0f_dams nl0f_echoes nl0f_deep nl0f_slide nl0a_heights nl0a_ladders nl0a_minutes nl0a_echoFrom nl0a_echoTo nl0a_homes nl0a_talls nl0a_known (T.1 10) (T.1 11) (T.1 12) (T.1 13) (T.1 14) (T.1 15) (T.1 16) (T.2 10) (T.2 11) (T.2 12) (T.2 13) (T.2 14) (T.2 15) (T.2 16) (T.2 17) (T.1 17) (T.2 18) (T.2 19) (T.2 20) (T.1 18) (T.2 21) (T.2 22) (T.2 23) (T.1 19) (T.2 24) (T.2 25) (T.2 26) (T.1 20) (T.2 27) (T.2 28) (T.2 29) (T.1 21) (T.1 22) (T.2 30) (T.2 31) (T.1 23) (T.1 24) (T.2 32) (T.2 33)) → post (upd (T.2 1) 0 (cmx (T.2 1 0) 0)) nl0f_huts nl0f_singers nl0f_villages nl0f_dams nl0f_echoes nl0f_deep nl0f_slide nl0a_heights nl0a_ladders nl0a_minutes nl0a_echoFrom nl0a_echoTo nl0a_homes nl0a_talls nl0a_known (T.1 10) (T.1 11) (T.1 12) (T.1 13) (T.1 14) (T.1 15) (T.1 16) (T.2 10) (T.2 11) (T.2 12) (T.2 13) (T.2 14) (T.2 15) (T.2 16) (T.2 17) (T.1 17) (T.2 18) (T.2 19) (T.2 20) (T.1 18) (T.2 21) (T.2 22) (T.2 23) (T.1 19) (T.2 24) (T.2 25) (T.2 26) (T.1 20) (T.2 27) (T.2 28) (T.2 29) (T.1 21) (T.1 22) (T.2 30) (T.2 31) (T.1 23) (T.1 24) (T.2 32) (T.2 33)) : q_wx_X10_keep_0 (T.2 1) (T.1 3) (T.1 4) (T.1 5) (T.1 6) (T.1 7) (T.1 8) (T.1 9) (T.2 2) (T.2 3) (T.2 4) (T.2 5) (T.2 6) (T.2 7) (T.2 8) (T.2 9) (T.1 10) (T.1 11) (T.1 12) (T.1 13) (T.1 14) (T.1 15) (T.1 16) (T.2 10) (T.2 11) (T.2 12) (T.2 13) (T.2 14) (T.2 15) (T.2 16) (T.2 17) (T.1 17) (T.2 18) (T.2 19) (T.2 20) (T.1 18) (T.2 21) (T.2 22) (T.2 23) (T.1 19) (T.2 24) (T.2 25) (T.2 26) (T.1 20) (T.2 27) (T.2 28) (T.2 29) (T.1 21) (T.1 22) (T.2 30) (T.2 31) (T.1 23) (T.1 24) (T.2 32) (T.2 33) rlf_huts rlf_singers rlf_villages rlf_dams rlf_echoes rlf_deep rlf_slide rla_heights rla_ladders rla_minutes rla_echoFrom rla_echoTo rla_homes rla_talls rla_known rvf_deeds rva_kinds rva_firsts rva_seconds rsf_facts rsa_heard rsa_huts rsa_minutes rcf_voices rcf_step rca_parts rca_heights (nI 0) (nI 0) post := by
  refine ⟨fun h9 => absurd h9 (by decide +kernel), fun _ => ⟨vp_in_nI (by decide) (by decide), fun _ => ?_, fun h9 => absurd h9 (by decide +kernel)⟩⟩
  refine e_ll (fun t_a_heights t_a_ladders t_a_minutes t_a_echoFrom t_a_echoTo t_a_homes t_a_talls t_a_known c_a_heights c_a_ladders c_a_minutes c_a_echoFrom c_a_echoTo c_a_homes c_a_talls c_a_known => ?_)
  refine ⟨vp_in_nI (by decide) (by decide), fun v ev => ⟨vp_in_nI (by decide) (by decide), fun cn en => ?_⟩⟩
  have e9 : Int32.toNatClampNeg (nI 0) = 0 := rfl
  rw [e9] at ev en
  rw [en, ev]
  exact hp rlf_huts rlf_singers rlf_villages rlf_dams rlf_echoes rlf_deep rlf_slide t_a_heights t_a_ladders t_a_minutes t_a_echoFrom t_a_echoTo t_a_homes t_a_talls t_a_known (LDR_cp hR (CB_n hC).1 (CB_n hC).2.1 (CB_n hC).2.2 c_a_heights c_a_ladders c_a_minutes c_a_echoFrom c_a_echoTo c_a_homes c_a_talls c_a_known) same_00
set_option maxRecDepth 40000 in
set_option maxHeartbeats 4000000 in
theorem e_keep_01 {T : TT} {rlf_huts rlf_singers rlf_villages rlf_dams rlf_echoes rlf_deep rlf_slide rvf_deeds rsf_facts rcf_voices rcf_step : Int32} {rla_heights rla_ladders rla_minutes rla_echoFrom rla_echoTo rla_homes rla_talls rla_known rva_kinds rva_firsts rva_seconds rsa_heard rsa_huts rsa_minutes rca_parts rca_heights : Nat → Int32} {td : Nat → Int32} {len fault place : Int32} {post : (Nat → Int32) → (Int32) → (Int32) → (Int32) → (Int32) → (Int32) → (Int32) → (Int32) → (Nat → Int32) → (Nat → Int32) → (Nat → Int32) → (Nat → Int32) → (Nat → Int32) → (Nat → Int32) → (Nat → Int32) → (Nat → Int32) → (Int32) → (Int32) → (Int32) → (Int32) → (Int32) → (Int32) → (Int32) → (Nat → Int32) → (Nat → Int32) → (Nat → Int32) → (Nat → Int32) → (Nat → Int32) → (Nat → Int32) → (Nat → Int32) → (Nat → Int32) → (Int32) → (Nat → Int32) → (Nat → Int32) → (Nat → Int32) → (Int32) → (Nat → Int32) → (Nat → Int32) → (Nat → Int32) → (Int32) → (Nat → Int32) → (Nat → Int32) → (Nat → Int32) → (Int32) → (Nat → Int32) → (Nat → Int32) → (Nat → Int32) → (Int32) → (Int32) → (Nat → Int32) → (Nat → Int32) → (Int32) → (Int32) → (Nat → Int32) → (Nat → Int32) → Prop} (hC : CB 0 td) (hR : LDR rlf_huts rlf_singers rlf_villages rlf_dams rlf_echoes rlf_deep rlf_slide rla_heights rla_ladders rla_minutes rla_echoFrom rla_echoTo rla_homes rla_talls rla_known td) (hp : ∀ (nl1f_huts : Int32) (nl1f_singers : Int32) (nl1f_villages : Int32) (nl1f_dams : Int32) (nl1f_echoes : Int32) (nl1f_deep : Int32) (nl1f_slide : Int32) (nl1a_heights : Nat → Int32) (nl1a_ladders : Nat → Int32) (nl1a_minutes : Nat → Int32) (nl1a_echoFrom : Nat → Int32) (nl1a_echoTo : Nat → Int32) (nl1a_homes : Nat → Int32) (nl1a_talls : Nat → Int32) (nl1a_known : Nat → Int32), SL 0 1 (tmk (T.2 0) len fault place (upd (T.2 1) 0 (cmx (T.2 1 0) 1)) (T.1 3) (T.1 4) (T.1 5) (T.1 6) (T.1 7) (T.1 8) (T.1 9) (T.2 2) (T.2 3) (T.2 4) (T.2 5) (T.2 6) (T.2 7) (T.2 8) (T.2 9) nl1f_huts nl1f_singers nl1f_villages nl1f_dams nl1f_echoes nl1f_deep nl1f_slide nl1a_heights nl1a_ladders nl1a_minutes nl1a_echoFrom nl1a_echoTo nl1a_homes nl1a_talls nl1a_known (T.1 17) (T.2 18) (T.2 19) (T.2 20) (T.1 18) (T.2 21) (T.2 22) (T.2 23) (T.1 19) (T.2 24) (T.2 25) (T.2 26) (T.1 20) (T.2 27) (T.2 28) (T.2 29) (T.1 21) (T.1 22) (T.2 30) (T.2 31) (T.1 23) (T.1 24) (T.2 32) (T.2 33)) td → sameB 0 1 T (tmk (T.2 0) len fault place (upd (T.2 1) 0 (cmx (T.2 1 0) 1)) (T.1 3) (T.1 4) (T.1 5) (T.1 6) (T.1 7) (T.1 8) (T.1 9) (T.2 2) (T.2 3) (T.2 4) (T.2 5) (T.2 6) (T.2 7) (T.2 8) (T.2 9) nl1f_huts nl1f_singers nl1f_villages nl1f_dams nl1f_echoes nl1f_deep nl1f_slide nl1a_heights nl1a_ladders nl1a_minutes nl1a_echoFrom nl1a_echoTo nl1a_homes nl1a_talls nl1a_known (T.1 17) (T.2 18) (T.2 19) (T.2 20) (T.1 18) (T.2 21) (T.2 22) (T.2 23) (T.1 19) (T.2 24) (T.2 25) (T.2 26) (T.1 20) (T.2 27) (T.2 28) (T.2 29) (T.1 21) (T.1 22) (T.2 30) (T.2 31) (T.1 23) (T.1 24) (T.2 32) (T.2 33)) → post (upd (T.2 1) 0 (cmx (T.2 1 0) 1)) (T.1 3) (T.1 4) (T.1 5) (T.1 6) (T.1 7) (T.1 8) (T.1 9) (T.2 2) (T.2 3) (T.2 4) (T.2 5) (T.2 6) (T.2 7) (T.2 8) (T.2 9) nl1f_huts nl1f_singers nl1f_villages nl1f_dams nl1f_echoes nl1f_deep nl1f_slide nl1a_heights nl1a_ladders nl1a_minutes nl1a_echoFrom nl1a_echoTo nl1a_homes nl1a_talls nl1a_known (T.1 17) (T.2 18) (T.2 19) (T.2 20) (T.1 18) (T.2 21) (T.2 22) (T.2 23) (T.1 19) (T.2 24) (T.2 25) (T.2 26) (T.1 20) (T.2 27) (T.2 28) (T.2 29) (T.1 21) (T.1 22) (T.2 30) (T.2 31) (T.1 23) (T.1 24) (T.2 32) (T.2 33)) : q_wx_X10_keep_0 (T.2 1) (T.1 3) (T.1 4) (T.1 5) (T.1 6) (T.1 7) (T.1 8) (T.1 9) (T.2 2) (T.2 3) (T.2 4) (T.2 5) (T.2 6) (T.2 7) (T.2 8) (T.2 9) (T.1 10) (T.1 11) (T.1 12) (T.1 13) (T.1 14) (T.1 15) (T.1 16) (T.2 10) (T.2 11) (T.2 12) (T.2 13) (T.2 14) (T.2 15) (T.2 16) (T.2 17) (T.1 17) (T.2 18) (T.2 19) (T.2 20) (T.1 18) (T.2 21) (T.2 22) (T.2 23) (T.1 19) (T.2 24) (T.2 25) (T.2 26) (T.1 20) (T.2 27) (T.2 28) (T.2 29) (T.1 21) (T.1 22) (T.2 30) (T.2 31) (T.1 23) (T.1 24) (T.2 32) (T.2 33) rlf_huts rlf_singers rlf_villages rlf_dams rlf_echoes rlf_deep rlf_slide rla_heights rla_ladders rla_minutes rla_echoFrom rla_echoTo rla_homes rla_talls rla_known rvf_deeds rva_kinds rva_firsts rva_seconds rsf_facts rsa_heard rsa_huts rsa_minutes rcf_voices rcf_step rca_parts rca_heights (nI 0) (nI 1) post := by
  refine ⟨fun h9 => absurd h9 (by decide +kernel), fun _ => ⟨vp_in_nI (by decide) (by decide), fun h9 => absurd h9 (by decide +kernel), fun _ => ?_⟩⟩
  refine e_ll (fun t_a_heights t_a_ladders t_a_minutes t_a_echoFrom t_a_echoTo t_a_homes t_a_talls t_a_known c_a_heights c_a_ladders c_a_minutes c_a_echoFrom c_a_echoTo c_a_homes c_a_talls c_a_known => ?_)
  refine ⟨vp_in_nI (by decide) (by decide), fun v ev => ⟨vp_in_nI (by decide) (by decide), fun cn en => ?_⟩⟩
  have e9 : Int32.toNatClampNeg (nI 0) = 0 := rfl
  rw [e9] at ev en
  rw [en, ev]
  exact hp rlf_huts rlf_singers rlf_villages rlf_dams rlf_echoes rlf_deep rlf_slide t_a_heights t_a_ladders t_a_minutes t_a_echoFrom t_a_echoTo t_a_homes t_a_talls t_a_known (LDR_cp hR (CB_n hC).1 (CB_n hC).2.1 (CB_n hC).2.2 c_a_heights c_a_ladders c_a_minutes c_a_echoFrom c_a_echoTo c_a_homes c_a_talls c_a_known) same_01
set_option maxRecDepth 40000 in
set_option maxHeartbeats 4000000 in
theorem e_keep_10 {T : TT} {rlf_huts rlf_singers rlf_villages rlf_dams rlf_echoes rlf_deep rlf_slide rvf_deeds rsf_facts rcf_voices rcf_step : Int32} {rla_heights rla_ladders rla_minutes rla_echoFrom rla_echoTo rla_homes rla_talls rla_known rva_kinds rva_firsts rva_seconds rsa_heard rsa_huts rsa_minutes rca_parts rca_heights : Nat → Int32} {td : Nat → Int32} {len fault place : Int32} {post : (Nat → Int32) → (Int32) → (Int32) → (Int32) → (Int32) → (Int32) → (Int32) → (Int32) → (Nat → Int32) → (Nat → Int32) → (Nat → Int32) → (Nat → Int32) → (Nat → Int32) → (Nat → Int32) → (Nat → Int32) → (Nat → Int32) → (Int32) → (Int32) → (Int32) → (Int32) → (Int32) → (Int32) → (Int32) → (Nat → Int32) → (Nat → Int32) → (Nat → Int32) → (Nat → Int32) → (Nat → Int32) → (Nat → Int32) → (Nat → Int32) → (Nat → Int32) → (Int32) → (Nat → Int32) → (Nat → Int32) → (Nat → Int32) → (Int32) → (Nat → Int32) → (Nat → Int32) → (Nat → Int32) → (Int32) → (Nat → Int32) → (Nat → Int32) → (Nat → Int32) → (Int32) → (Nat → Int32) → (Nat → Int32) → (Nat → Int32) → (Int32) → (Int32) → (Nat → Int32) → (Nat → Int32) → (Int32) → (Int32) → (Nat → Int32) → (Nat → Int32) → Prop} (hC : CB 1 td) (hR : R3 rvf_deeds rva_kinds rva_firsts rva_seconds td) (hc : iv 0 40 rvf_deeds) (hp : ∀ (nv0f_deeds : Int32) (nv0a_kinds : Nat → Int32) (nv0a_firsts : Nat → Int32) (nv0a_seconds : Nat → Int32), SL 1 0 (tmk (T.2 0) len fault place (upd (T.2 1) 1 (cmx (T.2 1 1) 0)) (T.1 3) (T.1 4) (T.1 5) (T.1 6) (T.1 7) (T.1 8) (T.1 9) (T.2 2) (T.2 3) (T.2 4) (T.2 5) (T.2 6) (T.2 7) (T.2 8) (T.2 9) (T.1 10) (T.1 11) (T.1 12) (T.1 13) (T.1 14) (T.1 15) (T.1 16) (T.2 10) (T.2 11) (T.2 12) (T.2 13) (T.2 14) (T.2 15) (T.2 16) (T.2 17) nv0f_deeds nv0a_kinds nv0a_firsts nv0a_seconds (T.1 18) (T.2 21) (T.2 22) (T.2 23) (T.1 19) (T.2 24) (T.2 25) (T.2 26) (T.1 20) (T.2 27) (T.2 28) (T.2 29) (T.1 21) (T.1 22) (T.2 30) (T.2 31) (T.1 23) (T.1 24) (T.2 32) (T.2 33)) td → sameB 1 0 T (tmk (T.2 0) len fault place (upd (T.2 1) 1 (cmx (T.2 1 1) 0)) (T.1 3) (T.1 4) (T.1 5) (T.1 6) (T.1 7) (T.1 8) (T.1 9) (T.2 2) (T.2 3) (T.2 4) (T.2 5) (T.2 6) (T.2 7) (T.2 8) (T.2 9) (T.1 10) (T.1 11) (T.1 12) (T.1 13) (T.1 14) (T.1 15) (T.1 16) (T.2 10) (T.2 11) (T.2 12) (T.2 13) (T.2 14) (T.2 15) (T.2 16) (T.2 17) nv0f_deeds nv0a_kinds nv0a_firsts nv0a_seconds (T.1 18) (T.2 21) (T.2 22) (T.2 23) (T.1 19) (T.2 24) (T.2 25) (T.2 26) (T.1 20) (T.2 27) (T.2 28) (T.2 29) (T.1 21) (T.1 22) (T.2 30) (T.2 31) (T.1 23) (T.1 24) (T.2 32) (T.2 33)) → post (upd (T.2 1) 1 (cmx (T.2 1 1) 0)) (T.1 3) (T.1 4) (T.1 5) (T.1 6) (T.1 7) (T.1 8) (T.1 9) (T.2 2) (T.2 3) (T.2 4) (T.2 5) (T.2 6) (T.2 7) (T.2 8) (T.2 9) (T.1 10) (T.1 11) (T.1 12) (T.1 13) (T.1 14) (T.1 15) (T.1 16) (T.2 10) (T.2 11) (T.2 12) (T.2 13) (T.2 14) (T.2 15) (T.2 16) (T.2 17) nv0f_deeds nv0a_kinds nv0a_firsts nv0a_seconds (T.1 18) (T.2 21) (T.2 22) (T.2 23) (T.1 19) (T.2 24) (T.2 25) (T.2 26) (T.1 20) (T.2 27) (T.2 28) (T.2 29) (T.1 21) (T.1 22) (T.2 30) (T.2 31) (T.1 23) (T.1 24) (T.2 32) (T.2 33)) : q_wx_X10_keep_0 (T.2 1) (T.1 3) (T.1 4) (T.1 5) (T.1 6) (T.1 7) (T.1 8) (T.1 9) (T.2 2) (T.2 3) (T.2 4) (T.2 5) (T.2 6) (T.2 7) (T.2 8) (T.2 9) (T.1 10) (T.1 11) (T.1 12) (T.1 13) (T.1 14) (T.1 15) (T.1 16) (T.2 10) (T.2 11) (T.2 12) (T.2 13) (T.2 14) (T.2 15) (T.2 16) (T.2 17) (T.1 17) (T.2 18) (T.2 19) (T.2 20) (T.1 18) (T.2 21) (T.2 22) (T.2 23) (T.1 19) (T.2 24) (T.2 25) (T.2 26) (T.1 20) (T.2 27) (T.2 28) (T.2 29) (T.1 21) (T.1 22) (T.2 30) (T.2 31) (T.1 23) (T.1 24) (T.2 32) (T.2 33) rlf_huts rlf_singers rlf_villages rlf_dams rlf_echoes rlf_deep rlf_slide rla_heights rla_ladders rla_minutes rla_echoFrom rla_echoTo rla_homes rla_talls rla_known rvf_deeds rva_kinds rva_firsts rva_seconds rsf_facts rsa_heard rsa_huts rsa_minutes rcf_voices rcf_step rca_parts rca_heights (nI 1) (nI 0) post := by
  refine ⟨fun _ => ⟨fun h9 => absurd h9 (by decide +kernel), fun _ => ⟨vp_in_nI (by decide) (by decide), fun _ => ?_, fun h9 => absurd h9 (by decide +kernel)⟩⟩, fun h9 => absurd h9 (by decide +kernel)⟩
  refine e_vv hc (fun t_a_kinds t_a_firsts t_a_seconds c_a_kinds c_a_firsts c_a_seconds => ?_)
  refine ⟨vp_in_nI (by decide) (by decide), fun v ev => ⟨vp_in_nI (by decide) (by decide), fun cn en => ?_⟩⟩
  have e9 : Int32.toNatClampNeg (nI 1) = 1 := rfl
  rw [e9] at ev en
  rw [en, ev]
  exact hp rvf_deeds t_a_kinds t_a_firsts t_a_seconds (R3_cp hR c_a_kinds c_a_firsts c_a_seconds) same_10
set_option maxRecDepth 40000 in
set_option maxHeartbeats 4000000 in
theorem e_keep_11 {T : TT} {rlf_huts rlf_singers rlf_villages rlf_dams rlf_echoes rlf_deep rlf_slide rvf_deeds rsf_facts rcf_voices rcf_step : Int32} {rla_heights rla_ladders rla_minutes rla_echoFrom rla_echoTo rla_homes rla_talls rla_known rva_kinds rva_firsts rva_seconds rsa_heard rsa_huts rsa_minutes rca_parts rca_heights : Nat → Int32} {td : Nat → Int32} {len fault place : Int32} {post : (Nat → Int32) → (Int32) → (Int32) → (Int32) → (Int32) → (Int32) → (Int32) → (Int32) → (Nat → Int32) → (Nat → Int32) → (Nat → Int32) → (Nat → Int32) → (Nat → Int32) → (Nat → Int32) → (Nat → Int32) → (Nat → Int32) → (Int32) → (Int32) → (Int32) → (Int32) → (Int32) → (Int32) → (Int32) → (Nat → Int32) → (Nat → Int32) → (Nat → Int32) → (Nat → Int32) → (Nat → Int32) → (Nat → Int32) → (Nat → Int32) → (Nat → Int32) → (Int32) → (Nat → Int32) → (Nat → Int32) → (Nat → Int32) → (Int32) → (Nat → Int32) → (Nat → Int32) → (Nat → Int32) → (Int32) → (Nat → Int32) → (Nat → Int32) → (Nat → Int32) → (Int32) → (Nat → Int32) → (Nat → Int32) → (Nat → Int32) → (Int32) → (Int32) → (Nat → Int32) → (Nat → Int32) → (Int32) → (Int32) → (Nat → Int32) → (Nat → Int32) → Prop} (hC : CB 1 td) (hR : R3 rvf_deeds rva_kinds rva_firsts rva_seconds td) (hc : iv 0 40 rvf_deeds) (hp : ∀ (nv1f_deeds : Int32) (nv1a_kinds : Nat → Int32) (nv1a_firsts : Nat → Int32) (nv1a_seconds : Nat → Int32), SL 1 1 (tmk (T.2 0) len fault place (upd (T.2 1) 1 (cmx (T.2 1 1) 1)) (T.1 3) (T.1 4) (T.1 5) (T.1 6) (T.1 7) (T.1 8) (T.1 9) (T.2 2) (T.2 3) (T.2 4) (T.2 5) (T.2 6) (T.2 7) (T.2 8) (T.2 9) (T.1 10) (T.1 11) (T.1 12) (T.1 13) (T.1 14) (T.1 15) (T.1 16) (T.2 10) (T.2 11) (T.2 12) (T.2 13) (T.2 14) (T.2 15) (T.2 16) (T.2 17) (T.1 17) (T.2 18) (T.2 19) (T.2 20) nv1f_deeds nv1a_kinds nv1a_firsts nv1a_seconds (T.1 19) (T.2 24) (T.2 25) (T.2 26) (T.1 20) (T.2 27) (T.2 28) (T.2 29) (T.1 21) (T.1 22) (T.2 30) (T.2 31) (T.1 23) (T.1 24) (T.2 32) (T.2 33)) td → sameB 1 1 T (tmk (T.2 0) len fault place (upd (T.2 1) 1 (cmx (T.2 1 1) 1)) (T.1 3) (T.1 4) (T.1 5) (T.1 6) (T.1 7) (T.1 8) (T.1 9) (T.2 2) (T.2 3) (T.2 4) (T.2 5) (T.2 6) (T.2 7) (T.2 8) (T.2 9) (T.1 10) (T.1 11) (T.1 12) (T.1 13) (T.1 14) (T.1 15) (T.1 16) (T.2 10) (T.2 11) (T.2 12) (T.2 13) (T.2 14) (T.2 15) (T.2 16) (T.2 17) (T.1 17) (T.2 18) (T.2 19) (T.2 20) nv1f_deeds nv1a_kinds nv1a_firsts nv1a_seconds (T.1 19) (T.2 24) (T.2 25) (T.2 26) (T.1 20) (T.2 27) (T.2 28) (T.2 29) (T.1 21) (T.1 22) (T.2 30) (T.2 31) (T.1 23) (T.1 24) (T.2 32) (T.2 33)) → post (upd (T.2 1) 1 (cmx (T.2 1 1) 1)) (T.1 3) (T.1 4) (T.1 5) (T.1 6) (T.1 7) (T.1 8) (T.1 9) (T.2 2) (T.2 3) (T.2 4) (T.2 5) (T.2 6) (T.2 7) (T.2 8) (T.2 9) (T.1 10) (T.1 11) (T.1 12) (T.1 13) (T.1 14) (T.1 15) (T.1 16) (T.2 10) (T.2 11) (T.2 12) (T.2 13) (T.2 14) (T.2 15) (T.2 16) (T.2 17) (T.1 17) (T.2 18) (T.2 19) (T.2 20) nv1f_deeds nv1a_kinds nv1a_firsts nv1a_seconds (T.1 19) (T.2 24) (T.2 25) (T.2 26) (T.1 20) (T.2 27) (T.2 28) (T.2 29) (T.1 21) (T.1 22) (T.2 30) (T.2 31) (T.1 23) (T.1 24) (T.2 32) (T.2 33)) : q_wx_X10_keep_0 (T.2 1) (T.1 3) (T.1 4) (T.1 5) (T.1 6) (T.1 7) (T.1 8) (T.1 9) (T.2 2) (T.2 3) (T.2 4) (T.2 5) (T.2 6) (T.2 7) (T.2 8) (T.2 9) (T.1 10) (T.1 11) (T.1 12) (T.1 13) (T.1 14) (T.1 15) (T.1 16) (T.2 10) (T.2 11) (T.2 12) (T.2 13) (T.2 14) (T.2 15) (T.2 16) (T.2 17) (T.1 17) (T.2 18) (T.2 19) (T.2 20) (T.1 18) (T.2 21) (T.2 22) (T.2 23) (T.1 19) (T.2 24) (T.2 25) (T.2 26) (T.1 20) (T.2 27) (T.2 28) (T.2 29) (T.1 21) (T.1 22) (T.2 30) (T.2 31) (T.1 23) (T.1 24) (T.2 32) (T.2 33) rlf_huts rlf_singers rlf_villages rlf_dams rlf_echoes rlf_deep rlf_slide rla_heights rla_ladders rla_minutes rla_echoFrom rla_echoTo rla_homes rla_talls rla_known rvf_deeds rva_kinds rva_firsts rva_seconds rsf_facts rsa_heard rsa_huts rsa_minutes rcf_voices rcf_step rca_parts rca_heights (nI 1) (nI 1) post := by
  refine ⟨fun _ => ⟨fun h9 => absurd h9 (by decide +kernel), fun _ => ⟨vp_in_nI (by decide) (by decide), fun h9 => absurd h9 (by decide +kernel), fun _ => ?_⟩⟩, fun h9 => absurd h9 (by decide +kernel)⟩
  refine e_vv hc (fun t_a_kinds t_a_firsts t_a_seconds c_a_kinds c_a_firsts c_a_seconds => ?_)
  refine ⟨vp_in_nI (by decide) (by decide), fun v ev => ⟨vp_in_nI (by decide) (by decide), fun cn en => ?_⟩⟩
  have e9 : Int32.toNatClampNeg (nI 1) = 1 := rfl
  rw [e9] at ev en
  rw [en, ev]
  exact hp rvf_deeds t_a_kinds t_a_firsts t_a_seconds (R3_cp hR c_a_kinds c_a_firsts c_a_seconds) same_11
set_option maxRecDepth 40000 in
set_option maxHeartbeats 4000000 in
theorem e_keep_20 {T : TT} {rlf_huts rlf_singers rlf_villages rlf_dams rlf_echoes rlf_deep rlf_slide rvf_deeds rsf_facts rcf_voices rcf_step : Int32} {rla_heights rla_ladders rla_minutes rla_echoFrom rla_echoTo rla_homes rla_talls rla_known rva_kinds rva_firsts rva_seconds rsa_heard rsa_huts rsa_minutes rca_parts rca_heights : Nat → Int32} {td : Nat → Int32} {len fault place : Int32} {post : (Nat → Int32) → (Int32) → (Int32) → (Int32) → (Int32) → (Int32) → (Int32) → (Int32) → (Nat → Int32) → (Nat → Int32) → (Nat → Int32) → (Nat → Int32) → (Nat → Int32) → (Nat → Int32) → (Nat → Int32) → (Nat → Int32) → (Int32) → (Int32) → (Int32) → (Int32) → (Int32) → (Int32) → (Int32) → (Nat → Int32) → (Nat → Int32) → (Nat → Int32) → (Nat → Int32) → (Nat → Int32) → (Nat → Int32) → (Nat → Int32) → (Nat → Int32) → (Int32) → (Nat → Int32) → (Nat → Int32) → (Nat → Int32) → (Int32) → (Nat → Int32) → (Nat → Int32) → (Nat → Int32) → (Int32) → (Nat → Int32) → (Nat → Int32) → (Nat → Int32) → (Int32) → (Nat → Int32) → (Nat → Int32) → (Nat → Int32) → (Int32) → (Int32) → (Nat → Int32) → (Nat → Int32) → (Int32) → (Int32) → (Nat → Int32) → (Nat → Int32) → Prop} (hC : CB 2 td) (hR : R3 rsf_facts rsa_heard rsa_huts rsa_minutes td) (hc : iv 0 10 rsf_facts) (hp : ∀ (ns0f_facts : Int32) (ns0a_heard : Nat → Int32) (ns0a_huts : Nat → Int32) (ns0a_minutes : Nat → Int32), SL 2 0 (tmk (T.2 0) len fault place (upd (T.2 1) 2 (cmx (T.2 1 2) 0)) (T.1 3) (T.1 4) (T.1 5) (T.1 6) (T.1 7) (T.1 8) (T.1 9) (T.2 2) (T.2 3) (T.2 4) (T.2 5) (T.2 6) (T.2 7) (T.2 8) (T.2 9) (T.1 10) (T.1 11) (T.1 12) (T.1 13) (T.1 14) (T.1 15) (T.1 16) (T.2 10) (T.2 11) (T.2 12) (T.2 13) (T.2 14) (T.2 15) (T.2 16) (T.2 17) (T.1 17) (T.2 18) (T.2 19) (T.2 20) (T.1 18) (T.2 21) (T.2 22) (T.2 23) ns0f_facts ns0a_heard ns0a_huts ns0a_minutes (T.1 20) (T.2 27) (T.2 28) (T.2 29) (T.1 21) (T.1 22) (T.2 30) (T.2 31) (T.1 23) (T.1 24) (T.2 32) (T.2 33)) td → sameB 2 0 T (tmk (T.2 0) len fault place (upd (T.2 1) 2 (cmx (T.2 1 2) 0)) (T.1 3) (T.1 4) (T.1 5) (T.1 6) (T.1 7) (T.1 8) (T.1 9) (T.2 2) (T.2 3) (T.2 4) (T.2 5) (T.2 6) (T.2 7) (T.2 8) (T.2 9) (T.1 10) (T.1 11) (T.1 12) (T.1 13) (T.1 14) (T.1 15) (T.1 16) (T.2 10) (T.2 11) (T.2 12) (T.2 13) (T.2 14) (T.2 15) (T.2 16) (T.2 17) (T.1 17) (T.2 18) (T.2 19) (T.2 20) (T.1 18) (T.2 21) (T.2 22) (T.2 23) ns0f_facts ns0a_heard ns0a_huts ns0a_minutes (T.1 20) (T.2 27) (T.2 28) (T.2 29) (T.1 21) (T.1 22) (T.2 30) (T.2 31) (T.1 23) (T.1 24) (T.2 32) (T.2 33)) → post (upd (T.2 1) 2 (cmx (T.2 1 2) 0)) (T.1 3) (T.1 4) (T.1 5) (T.1 6) (T.1 7) (T.1 8) (T.1 9) (T.2 2) (T.2 3) (T.2 4) (T.2 5) (T.2 6) (T.2 7) (T.2 8) (T.2 9) (T.1 10) (T.1 11) (T.1 12) (T.1 13) (T.1 14) (T.1 15) (T.1 16) (T.2 10) (T.2 11) (T.2 12) (T.2 13) (T.2 14) (T.2 15) (T.2 16) (T.2 17) (T.1 17) (T.2 18) (T.2 19) (T.2 20) (T.1 18) (T.2 21) (T.2 22) (T.2 23) ns0f_facts ns0a_heard ns0a_huts ns0a_minutes (T.1 20) (T.2 27) (T.2 28) (T.2 29) (T.1 21) (T.1 22) (T.2 30) (T.2 31) (T.1 23) (T.1 24) (T.2 32) (T.2 33)) : q_wx_X10_keep_0 (T.2 1) (T.1 3) (T.1 4) (T.1 5) (T.1 6) (T.1 7) (T.1 8) (T.1 9) (T.2 2) (T.2 3) (T.2 4) (T.2 5) (T.2 6) (T.2 7) (T.2 8) (T.2 9) (T.1 10) (T.1 11) (T.1 12) (T.1 13) (T.1 14) (T.1 15) (T.1 16) (T.2 10) (T.2 11) (T.2 12) (T.2 13) (T.2 14) (T.2 15) (T.2 16) (T.2 17) (T.1 17) (T.2 18) (T.2 19) (T.2 20) (T.1 18) (T.2 21) (T.2 22) (T.2 23) (T.1 19) (T.2 24) (T.2 25) (T.2 26) (T.1 20) (T.2 27) (T.2 28) (T.2 29) (T.1 21) (T.1 22) (T.2 30) (T.2 31) (T.1 23) (T.1 24) (T.2 32) (T.2 33) rlf_huts rlf_singers rlf_villages rlf_dams rlf_echoes rlf_deep rlf_slide rla_heights rla_ladders rla_minutes rla_echoFrom rla_echoTo rla_homes rla_talls rla_known rvf_deeds rva_kinds rva_firsts rva_seconds rsf_facts rsa_heard rsa_huts rsa_minutes rcf_voices rcf_step rca_parts rca_heights (nI 2) (nI 0) post := by
  refine ⟨fun _ => ⟨fun _ => ⟨fun h9 => absurd h9 (by decide +kernel), fun _ => ⟨vp_in_nI (by decide) (by decide), fun _ => ?_, fun h9 => absurd h9 (by decide +kernel)⟩⟩, fun h9 => absurd h9 (by decide +kernel)⟩, fun h9 => absurd h9 (by decide +kernel)⟩
  refine e_ss hc (fun t_a_heard t_a_huts t_a_minutes c_a_heard c_a_huts c_a_minutes => ?_)
  refine ⟨vp_in_nI (by decide) (by decide), fun v ev => ⟨vp_in_nI (by decide) (by decide), fun cn en => ?_⟩⟩
  have e9 : Int32.toNatClampNeg (nI 2) = 2 := rfl
  rw [e9] at ev en
  rw [en, ev]
  exact hp rsf_facts t_a_heard t_a_huts t_a_minutes (R3_cp hR c_a_heard c_a_huts c_a_minutes) same_20
set_option maxRecDepth 40000 in
set_option maxHeartbeats 4000000 in
theorem e_keep_21 {T : TT} {rlf_huts rlf_singers rlf_villages rlf_dams rlf_echoes rlf_deep rlf_slide rvf_deeds rsf_facts rcf_voices rcf_step : Int32} {rla_heights rla_ladders rla_minutes rla_echoFrom rla_echoTo rla_homes rla_talls rla_known rva_kinds rva_firsts rva_seconds rsa_heard rsa_huts rsa_minutes rca_parts rca_heights : Nat → Int32} {td : Nat → Int32} {len fault place : Int32} {post : (Nat → Int32) → (Int32) → (Int32) → (Int32) → (Int32) → (Int32) → (Int32) → (Int32) → (Nat → Int32) → (Nat → Int32) → (Nat → Int32) → (Nat → Int32) → (Nat → Int32) → (Nat → Int32) → (Nat → Int32) → (Nat → Int32) → (Int32) → (Int32) → (Int32) → (Int32) → (Int32) → (Int32) → (Int32) → (Nat → Int32) → (Nat → Int32) → (Nat → Int32) → (Nat → Int32) → (Nat → Int32) → (Nat → Int32) → (Nat → Int32) → (Nat → Int32) → (Int32) → (Nat → Int32) → (Nat → Int32) → (Nat → Int32) → (Int32) → (Nat → Int32) → (Nat → Int32) → (Nat → Int32) → (Int32) → (Nat → Int32) → (Nat → Int32) → (Nat → Int32) → (Int32) → (Nat → Int32) → (Nat → Int32) → (Nat → Int32) → (Int32) → (Int32) → (Nat → Int32) → (Nat → Int32) → (Int32) → (Int32) → (Nat → Int32) → (Nat → Int32) → Prop} (hC : CB 2 td) (hR : R3 rsf_facts rsa_heard rsa_huts rsa_minutes td) (hc : iv 0 10 rsf_facts) (hp : ∀ (ns1f_facts : Int32) (ns1a_heard : Nat → Int32) (ns1a_huts : Nat → Int32) (ns1a_minutes : Nat → Int32), SL 2 1 (tmk (T.2 0) len fault place (upd (T.2 1) 2 (cmx (T.2 1 2) 1)) (T.1 3) (T.1 4) (T.1 5) (T.1 6) (T.1 7) (T.1 8) (T.1 9) (T.2 2) (T.2 3) (T.2 4) (T.2 5) (T.2 6) (T.2 7) (T.2 8) (T.2 9) (T.1 10) (T.1 11) (T.1 12) (T.1 13) (T.1 14) (T.1 15) (T.1 16) (T.2 10) (T.2 11) (T.2 12) (T.2 13) (T.2 14) (T.2 15) (T.2 16) (T.2 17) (T.1 17) (T.2 18) (T.2 19) (T.2 20) (T.1 18) (T.2 21) (T.2 22) (T.2 23) (T.1 19) (T.2 24) (T.2 25) (T.2 26) ns1f_facts ns1a_heard ns1a_huts ns1a_minutes (T.1 21) (T.1 22) (T.2 30) (T.2 31) (T.1 23) (T.1 24) (T.2 32) (T.2 33)) td → sameB 2 1 T (tmk (T.2 0) len fault place (upd (T.2 1) 2 (cmx (T.2 1 2) 1)) (T.1 3) (T.1 4) (T.1 5) (T.1 6) (T.1 7) (T.1 8) (T.1 9) (T.2 2) (T.2 3) (T.2 4) (T.2 5) (T.2 6) (T.2 7) (T.2 8) (T.2 9) (T.1 10) (T.1 11) (T.1 12) (T.1 13) (T.1 14) (T.1 15) (T.1 16) (T.2 10) (T.2 11) (T.2 12) (T.2 13) (T.2 14) (T.2 15) (T.2 16) (T.2 17) (T.1 17) (T.2 18) (T.2 19) (T.2 20) (T.1 18) (T.2 21) (T.2 22) (T.2 23) (T.1 19) (T.2 24) (T.2 25) (T.2 26) ns1f_facts ns1a_heard ns1a_huts ns1a_minutes (T.1 21) (T.1 22) (T.2 30) (T.2 31) (T.1 23) (T.1 24) (T.2 32) (T.2 33)) → post (upd (T.2 1) 2 (cmx (T.2 1 2) 1)) (T.1 3) (T.1 4) (T.1 5) (T.1 6) (T.1 7) (T.1 8) (T.1 9) (T.2 2) (T.2 3) (T.2 4) (T.2 5) (T.2 6) (T.2 7) (T.2 8) (T.2 9) (T.1 10) (T.1 11) (T.1 12) (T.1 13) (T.1 14) (T.1 15) (T.1 16) (T.2 10) (T.2 11) (T.2 12) (T.2 13) (T.2 14) (T.2 15) (T.2 16) (T.2 17) (T.1 17) (T.2 18) (T.2 19) (T.2 20) (T.1 18) (T.2 21) (T.2 22) (T.2 23) (T.1 19) (T.2 24) (T.2 25) (T.2 26) ns1f_facts ns1a_heard ns1a_huts ns1a_minutes (T.1 21) (T.1 22) (T.2 30) (T.2 31) (T.1 23) (T.1 24) (T.2 32) (T.2 33)) : q_wx_X10_keep_0 (T.2 1) (T.1 3) (T.1 4) (T.1 5) (T.1 6) (T.1 7) (T.1 8) (T.1 9) (T.2 2) (T.2 3) (T.2 4) (T.2 5) (T.2 6) (T.2 7) (T.2 8) (T.2 9) (T.1 10) (T.1 11) (T.1 12) (T.1 13) (T.1 14) (T.1 15) (T.1 16) (T.2 10) (T.2 11) (T.2 12) (T.2 13) (T.2 14) (T.2 15) (T.2 16) (T.2 17) (T.1 17) (T.2 18) (T.2 19) (T.2 20) (T.1 18) (T.2 21) (T.2 22) (T.2 23) (T.1 19) (T.2 24) (T.2 25) (T.2 26) (T.1 20) (T.2 27) (T.2 28) (T.2 29) (T.1 21) (T.1 22) (T.2 30) (T.2 31) (T.1 23) (T.1 24) (T.2 32) (T.2 33) rlf_huts rlf_singers rlf_villages rlf_dams rlf_echoes rlf_deep rlf_slide rla_heights rla_ladders rla_minutes rla_echoFrom rla_echoTo rla_homes rla_talls rla_known rvf_deeds rva_kinds rva_firsts rva_seconds rsf_facts rsa_heard rsa_huts rsa_minutes rcf_voices rcf_step rca_parts rca_heights (nI 2) (nI 1) post := by
  refine ⟨fun _ => ⟨fun _ => ⟨fun h9 => absurd h9 (by decide +kernel), fun _ => ⟨vp_in_nI (by decide) (by decide), fun h9 => absurd h9 (by decide +kernel), fun _ => ?_⟩⟩, fun h9 => absurd h9 (by decide +kernel)⟩, fun h9 => absurd h9 (by decide +kernel)⟩
  refine e_ss hc (fun t_a_heard t_a_huts t_a_minutes c_a_heard c_a_huts c_a_minutes => ?_)
  refine ⟨vp_in_nI (by decide) (by decide), fun v ev => ⟨vp_in_nI (by decide) (by decide), fun cn en => ?_⟩⟩
  have e9 : Int32.toNatClampNeg (nI 2) = 2 := rfl
  rw [e9] at ev en
  rw [en, ev]
  exact hp rsf_facts t_a_heard t_a_huts t_a_minutes (R3_cp hR c_a_heard c_a_huts c_a_minutes) same_21
set_option maxRecDepth 40000 in
set_option maxHeartbeats 4000000 in
theorem e_keep_30 {T : TT} {rlf_huts rlf_singers rlf_villages rlf_dams rlf_echoes rlf_deep rlf_slide rvf_deeds rsf_facts rcf_voices rcf_step : Int32} {rla_heights rla_ladders rla_minutes rla_echoFrom rla_echoTo rla_homes rla_talls rla_known rva_kinds rva_firsts rva_seconds rsa_heard rsa_huts rsa_minutes rca_parts rca_heights : Nat → Int32} {td : Nat → Int32} {len fault place : Int32} {post : (Nat → Int32) → (Int32) → (Int32) → (Int32) → (Int32) → (Int32) → (Int32) → (Int32) → (Nat → Int32) → (Nat → Int32) → (Nat → Int32) → (Nat → Int32) → (Nat → Int32) → (Nat → Int32) → (Nat → Int32) → (Nat → Int32) → (Int32) → (Int32) → (Int32) → (Int32) → (Int32) → (Int32) → (Int32) → (Nat → Int32) → (Nat → Int32) → (Nat → Int32) → (Nat → Int32) → (Nat → Int32) → (Nat → Int32) → (Nat → Int32) → (Nat → Int32) → (Int32) → (Nat → Int32) → (Nat → Int32) → (Nat → Int32) → (Int32) → (Nat → Int32) → (Nat → Int32) → (Nat → Int32) → (Int32) → (Nat → Int32) → (Nat → Int32) → (Nat → Int32) → (Int32) → (Nat → Int32) → (Nat → Int32) → (Nat → Int32) → (Int32) → (Int32) → (Nat → Int32) → (Nat → Int32) → (Int32) → (Int32) → (Nat → Int32) → (Nat → Int32) → Prop} (hC : CB 3 td) (hR : CDR rcf_voices rcf_step rca_parts rca_heights td) (hc : iv 0 9 rcf_voices) (hp : ∀ (nc0f_voices : Int32) (nc0f_step : Int32) (nc0a_parts : Nat → Int32) (nc0a_heights : Nat → Int32), SL 3 0 (tmk (T.2 0) len fault place (upd (T.2 1) 3 (cmx (T.2 1 3) 0)) (T.1 3) (T.1 4) (T.1 5) (T.1 6) (T.1 7) (T.1 8) (T.1 9) (T.2 2) (T.2 3) (T.2 4) (T.2 5) (T.2 6) (T.2 7) (T.2 8) (T.2 9) (T.1 10) (T.1 11) (T.1 12) (T.1 13) (T.1 14) (T.1 15) (T.1 16) (T.2 10) (T.2 11) (T.2 12) (T.2 13) (T.2 14) (T.2 15) (T.2 16) (T.2 17) (T.1 17) (T.2 18) (T.2 19) (T.2 20) (T.1 18) (T.2 21) (T.2 22) (T.2 23) (T.1 19) (T.2 24) (T.2 25) (T.2 26) (T.1 20) (T.2 27) (T.2 28) (T.2 29) nc0f_voices nc0f_step nc0a_parts nc0a_heights (T.1 23) (T.1 24) (T.2 32) (T.2 33)) td → sameB 3 0 T (tmk (T.2 0) len fault place (upd (T.2 1) 3 (cmx (T.2 1 3) 0)) (T.1 3) (T.1 4) (T.1 5) (T.1 6) (T.1 7) (T.1 8) (T.1 9) (T.2 2) (T.2 3) (T.2 4) (T.2 5) (T.2 6) (T.2 7) (T.2 8) (T.2 9) (T.1 10) (T.1 11) (T.1 12) (T.1 13) (T.1 14) (T.1 15) (T.1 16) (T.2 10) (T.2 11) (T.2 12) (T.2 13) (T.2 14) (T.2 15) (T.2 16) (T.2 17) (T.1 17) (T.2 18) (T.2 19) (T.2 20) (T.1 18) (T.2 21) (T.2 22) (T.2 23) (T.1 19) (T.2 24) (T.2 25) (T.2 26) (T.1 20) (T.2 27) (T.2 28) (T.2 29) nc0f_voices nc0f_step nc0a_parts nc0a_heights (T.1 23) (T.1 24) (T.2 32) (T.2 33)) → post (upd (T.2 1) 3 (cmx (T.2 1 3) 0)) (T.1 3) (T.1 4) (T.1 5) (T.1 6) (T.1 7) (T.1 8) (T.1 9) (T.2 2) (T.2 3) (T.2 4) (T.2 5) (T.2 6) (T.2 7) (T.2 8) (T.2 9) (T.1 10) (T.1 11) (T.1 12) (T.1 13) (T.1 14) (T.1 15) (T.1 16) (T.2 10) (T.2 11) (T.2 12) (T.2 13) (T.2 14) (T.2 15) (T.2 16) (T.2 17) (T.1 17) (T.2 18) (T.2 19) (T.2 20) (T.1 18) (T.2 21) (T.2 22) (T.2 23) (T.1 19) (T.2 24) (T.2 25) (T.2 26) (T.1 20) (T.2 27) (T.2 28) (T.2 29) nc0f_voices nc0f_step nc0a_parts nc0a_heights (T.1 23) (T.1 24) (T.2 32) (T.2 33)) : q_wx_X10_keep_0 (T.2 1) (T.1 3) (T.1 4) (T.1 5) (T.1 6) (T.1 7) (T.1 8) (T.1 9) (T.2 2) (T.2 3) (T.2 4) (T.2 5) (T.2 6) (T.2 7) (T.2 8) (T.2 9) (T.1 10) (T.1 11) (T.1 12) (T.1 13) (T.1 14) (T.1 15) (T.1 16) (T.2 10) (T.2 11) (T.2 12) (T.2 13) (T.2 14) (T.2 15) (T.2 16) (T.2 17) (T.1 17) (T.2 18) (T.2 19) (T.2 20) (T.1 18) (T.2 21) (T.2 22) (T.2 23) (T.1 19) (T.2 24) (T.2 25) (T.2 26) (T.1 20) (T.2 27) (T.2 28) (T.2 29) (T.1 21) (T.1 22) (T.2 30) (T.2 31) (T.1 23) (T.1 24) (T.2 32) (T.2 33) rlf_huts rlf_singers rlf_villages rlf_dams rlf_echoes rlf_deep rlf_slide rla_heights rla_ladders rla_minutes rla_echoFrom rla_echoTo rla_homes rla_talls rla_known rvf_deeds rva_kinds rva_firsts rva_seconds rsf_facts rsa_heard rsa_huts rsa_minutes rcf_voices rcf_step rca_parts rca_heights (nI 3) (nI 0) post := by
  refine ⟨fun _ => ⟨fun _ => ⟨fun _ => ⟨vp_in_nI (by decide) (by decide), fun _ => ?_, fun h9 => absurd h9 (by decide +kernel)⟩, fun h9 => absurd h9 (by decide +kernel)⟩, fun h9 => absurd h9 (by decide +kernel)⟩, fun h9 => absurd h9 (by decide +kernel)⟩
  refine e_cc hc (fun t_a_parts t_a_heights c_a_parts c_a_heights => ?_)
  refine ⟨vp_in_nI (by decide) (by decide), fun v ev => ⟨vp_in_nI (by decide) (by decide), fun cn en => ?_⟩⟩
  have e9 : Int32.toNatClampNeg (nI 3) = 3 := rfl
  rw [e9] at ev en
  rw [en, ev]
  exact hp rcf_voices rcf_step t_a_parts t_a_heights (CDR_cp hR c_a_parts c_a_heights) same_30
set_option maxRecDepth 40000 in
set_option maxHeartbeats 4000000 in
theorem e_keep_31 {T : TT} {rlf_huts rlf_singers rlf_villages rlf_dams rlf_echoes rlf_deep rlf_slide rvf_deeds rsf_facts rcf_voices rcf_step : Int32} {rla_heights rla_ladders rla_minutes rla_echoFrom rla_echoTo rla_homes rla_talls rla_known rva_kinds rva_firsts rva_seconds rsa_heard rsa_huts rsa_minutes rca_parts rca_heights : Nat → Int32} {td : Nat → Int32} {len fault place : Int32} {post : (Nat → Int32) → (Int32) → (Int32) → (Int32) → (Int32) → (Int32) → (Int32) → (Int32) → (Nat → Int32) → (Nat → Int32) → (Nat → Int32) → (Nat → Int32) → (Nat → Int32) → (Nat → Int32) → (Nat → Int32) → (Nat → Int32) → (Int32) → (Int32) → (Int32) → (Int32) → (Int32) → (Int32) → (Int32) → (Nat → Int32) → (Nat → Int32) → (Nat → Int32) → (Nat → Int32) → (Nat → Int32) → (Nat → Int32) → (Nat → Int32) → (Nat → Int32) → (Int32) → (Nat → Int32) → (Nat → Int32) → (Nat → Int32) → (Int32) → (Nat → Int32) → (Nat → Int32) → (Nat → Int32) → (Int32) → (Nat → Int32) → (Nat → Int32) → (Nat → Int32) → (Int32) → (Nat → Int32) → (Nat → Int32) → (Nat → Int32) → (Int32) → (Int32) → (Nat → Int32) → (Nat → Int32) → (Int32) → (Int32) → (Nat → Int32) → (Nat → Int32) → Prop} (hC : CB 3 td) (hR : CDR rcf_voices rcf_step rca_parts rca_heights td) (hc : iv 0 9 rcf_voices) (hp : ∀ (nc1f_voices : Int32) (nc1f_step : Int32) (nc1a_parts : Nat → Int32) (nc1a_heights : Nat → Int32), SL 3 1 (tmk (T.2 0) len fault place (upd (T.2 1) 3 (cmx (T.2 1 3) 1)) (T.1 3) (T.1 4) (T.1 5) (T.1 6) (T.1 7) (T.1 8) (T.1 9) (T.2 2) (T.2 3) (T.2 4) (T.2 5) (T.2 6) (T.2 7) (T.2 8) (T.2 9) (T.1 10) (T.1 11) (T.1 12) (T.1 13) (T.1 14) (T.1 15) (T.1 16) (T.2 10) (T.2 11) (T.2 12) (T.2 13) (T.2 14) (T.2 15) (T.2 16) (T.2 17) (T.1 17) (T.2 18) (T.2 19) (T.2 20) (T.1 18) (T.2 21) (T.2 22) (T.2 23) (T.1 19) (T.2 24) (T.2 25) (T.2 26) (T.1 20) (T.2 27) (T.2 28) (T.2 29) (T.1 21) (T.1 22) (T.2 30) (T.2 31) nc1f_voices nc1f_step nc1a_parts nc1a_heights) td → sameB 3 1 T (tmk (T.2 0) len fault place (upd (T.2 1) 3 (cmx (T.2 1 3) 1)) (T.1 3) (T.1 4) (T.1 5) (T.1 6) (T.1 7) (T.1 8) (T.1 9) (T.2 2) (T.2 3) (T.2 4) (T.2 5) (T.2 6) (T.2 7) (T.2 8) (T.2 9) (T.1 10) (T.1 11) (T.1 12) (T.1 13) (T.1 14) (T.1 15) (T.1 16) (T.2 10) (T.2 11) (T.2 12) (T.2 13) (T.2 14) (T.2 15) (T.2 16) (T.2 17) (T.1 17) (T.2 18) (T.2 19) (T.2 20) (T.1 18) (T.2 21) (T.2 22) (T.2 23) (T.1 19) (T.2 24) (T.2 25) (T.2 26) (T.1 20) (T.2 27) (T.2 28) (T.2 29) (T.1 21) (T.1 22) (T.2 30) (T.2 31) nc1f_voices nc1f_step nc1a_parts nc1a_heights) → post (upd (T.2 1) 3 (cmx (T.2 1 3) 1)) (T.1 3) (T.1 4) (T.1 5) (T.1 6) (T.1 7) (T.1 8) (T.1 9) (T.2 2) (T.2 3) (T.2 4) (T.2 5) (T.2 6) (T.2 7) (T.2 8) (T.2 9) (T.1 10) (T.1 11) (T.1 12) (T.1 13) (T.1 14) (T.1 15) (T.1 16) (T.2 10) (T.2 11) (T.2 12) (T.2 13) (T.2 14) (T.2 15) (T.2 16) (T.2 17) (T.1 17) (T.2 18) (T.2 19) (T.2 20) (T.1 18) (T.2 21) (T.2 22) (T.2 23) (T.1 19) (T.2 24) (T.2 25) (T.2 26) (T.1 20) (T.2 27) (T.2 28) (T.2 29) (T.1 21) (T.1 22) (T.2 30) (T.2 31) nc1f_voices nc1f_step nc1a_parts nc1a_heights) : q_wx_X10_keep_0 (T.2 1) (T.1 3) (T.1 4) (T.1 5) (T.1 6) (T.1 7) (T.1 8) (T.1 9) (T.2 2) (T.2 3) (T.2 4) (T.2 5) (T.2 6) (T.2 7) (T.2 8) (T.2 9) (T.1 10) (T.1 11) (T.1 12) (T.1 13) (T.1 14) (T.1 15) (T.1 16) (T.2 10) (T.2 11) (T.2 12) (T.2 13) (T.2 14) (T.2 15) (T.2 16) (T.2 17) (T.1 17) (T.2 18) (T.2 19) (T.2 20) (T.1 18) (T.2 21) (T.2 22) (T.2 23) (T.1 19) (T.2 24) (T.2 25) (T.2 26) (T.1 20) (T.2 27) (T.2 28) (T.2 29) (T.1 21) (T.1 22) (T.2 30) (T.2 31) (T.1 23) (T.1 24) (T.2 32) (T.2 33) rlf_huts rlf_singers rlf_villages rlf_dams rlf_echoes rlf_deep rlf_slide rla_heights rla_ladders rla_minutes rla_echoFrom rla_echoTo rla_homes rla_talls rla_known rvf_deeds rva_kinds rva_firsts rva_seconds rsf_facts rsa_heard rsa_huts rsa_minutes rcf_voices rcf_step rca_parts rca_heights (nI 3) (nI 1) post := by
  refine ⟨fun _ => ⟨fun _ => ⟨fun _ => ⟨vp_in_nI (by decide) (by decide), fun h9 => absurd h9 (by decide +kernel), fun _ => ?_⟩, fun h9 => absurd h9 (by decide +kernel)⟩, fun h9 => absurd h9 (by decide +kernel)⟩, fun h9 => absurd h9 (by decide +kernel)⟩
  refine e_cc hc (fun t_a_parts t_a_heights c_a_parts c_a_heights => ?_)
  refine ⟨vp_in_nI (by decide) (by decide), fun v ev => ⟨vp_in_nI (by decide) (by decide), fun cn en => ?_⟩⟩
  have e9 : Int32.toNatClampNeg (nI 3) = 3 := rfl
  rw [e9] at ev en
  rw [en, ev]
  exact hp rcf_voices rcf_step t_a_parts t_a_heights (CDR_cp hR c_a_parts c_a_heights) same_31
end
section
theorem xTX_mk {T T' : TT} {a1 a2 r : Int32} {o k : Nat} (ho : o < 4) (hk : k < 2) (e : a1 = nI o) (hN : NUM (T.2 1 o) a2 k) (h0 : T'.1 0 = 0) (ht : T'.2 0 = T.2 0) (h1 : T'.1 1 = (TXr T o).1) (h2 : T'.1 2 = (TXr T o).2.1) (h3 : ¬ (TXr T o).1 = 0 → r = -1 ∧ T'.2 1 = T.2 1 ∧ sameT T T') (h4 : (TXr T o).1 = 0 → r = nI k ∧ T'.2 1 = upd (T.2 1) o (cmx (T.2 1 o) k) ∧ SL o k T' (TXr T o).2.2 ∧ sameB o k T T') : xTX T T' a1 a2 r := by
  refine ⟨h0, ht, fun hno => absurd ⟨o, k, ho, hk, e, hN⟩ hno, fun o' k' ho' hk' e' hN' => ?_⟩
  have eo : o = o' := (nI_eq (by omega) (by omega)).mp (e.symm.trans e')
  subst eo
  have ek := NUM_un hk hk' hN hN'
  subst ek
  exact ⟨h1, h2, h3, h4⟩
theorem nI_nm2 {k : Nat} (hk : k < 2 ^ 31) : ¬ nI k = -2 := fun h => by
  have h1 := congrArg Int32.toInt h
  rw [nI_toInt hk] at h1
  have : (-2 : Int32).toInt = -2 := rfl
  omega
set_option maxRecDepth 40000 in
set_option maxHeartbeats 4000000 in
theorem e_x_text {T : TT} {rlf_huts rlf_singers rlf_villages rlf_dams rlf_echoes rlf_deep rlf_slide rvf_deeds rsf_facts rcf_voices rcf_step rf_fault rf_faultPlace rf_length rf_behind rf_kind rf_first rf_value rf_hutsToldOf rf_singersToldOf : Int32} {rla_heights rla_ladders rla_minutes rla_echoFrom rla_echoTo rla_homes rla_talls rla_known rva_kinds rva_firsts rva_seconds rsa_heard rsa_huts rsa_minutes rca_parts rca_heights ra_numbers ra_tape : Nat → Int32} {x1 x2 : Int32} {post : Int32 → (Int32) → (Int32) → (Int32) → (Nat → Int32) → (Int32) → (Int32) → (Int32) → (Int32) → (Int32) → (Int32) → (Int32) → (Nat → Int32) → (Nat → Int32) → (Nat → Int32) → (Nat → Int32) → (Nat → Int32) → (Nat → Int32) → (Nat → Int32) → (Nat → Int32) → (Int32) → (Int32) → (Int32) → (Int32) → (Int32) → (Int32) → (Int32) → (Nat → Int32) → (Nat → Int32) → (Nat → Int32) → (Nat → Int32) → (Nat → Int32) → (Nat → Int32) → (Nat → Int32) → (Nat → Int32) → (Int32) → (Nat → Int32) → (Nat → Int32) → (Nat → Int32) → (Int32) → (Nat → Int32) → (Nat → Int32) → (Nat → Int32) → (Int32) → (Nat → Int32) → (Nat → Int32) → (Nat → Int32) → (Int32) → (Nat → Int32) → (Nat → Int32) → (Nat → Int32) → (Int32) → (Int32) → (Nat → Int32) → (Nat → Int32) → (Int32) → (Int32) → (Nat → Int32) → (Nat → Int32) → (Int32) → (Int32) → (Int32) → (Int32) → (Int32) → (Int32) → (Int32) → (Nat → Int32) → (Nat → Int32) → (Nat → Int32) → (Nat → Int32) → (Nat → Int32) → (Nat → Int32) → (Nat → Int32) → (Nat → Int32) → (Int32) → (Nat → Int32) → (Nat → Int32) → (Nat → Int32) → (Int32) → (Nat → Int32) → (Nat → Int32) → (Nat → Int32) → (Int32) → (Int32) → (Nat → Int32) → (Nat → Int32) → (Int32) → (Int32) → (Nat → Int32) → (Nat → Int32) → (Int32) → (Int32) → (Int32) → (Int32) → (Int32) → (Int32) → (Int32) → Prop} (hlen : iv 0 600 (T.1 0)) (htape : ∀ j, iv (-128) 127 (T.2 0 j)) (hcnt : ∀ j, iv 0 2 (T.2 1 j)) (hp : ∀ (r : Int32) (nf_length : Int32) (nf_fault : Int32) (nf_place : Int32) (na_counts : Nat → Int32) (nl0f_huts : Int32) (nl0f_singers : Int32) (nl0f_villages : Int32) (nl0f_dams : Int32) (nl0f_echoes : Int32) (nl0f_deep : Int32) (nl0f_slide : Int32) (nl0a_heights : Nat → Int32) (nl0a_ladders : Nat → Int32) (nl0a_minutes : Nat → Int32) (nl0a_echoFrom : Nat → Int32) (nl0a_echoTo : Nat → Int32) (nl0a_homes : Nat → Int32) (nl0a_talls : Nat → Int32) (nl0a_known : Nat → Int32) (nl1f_huts : Int32) (nl1f_singers : Int32) (nl1f_villages : Int32) (nl1f_dams : Int32) (nl1f_echoes : Int32) (nl1f_deep : Int32) (nl1f_slide : Int32) (nl1a_heights : Nat → Int32) (nl1a_ladders : Nat → Int32) (nl1a_minutes : Nat → Int32) (nl1a_echoFrom : Nat → Int32) (nl1a_echoTo : Nat → Int32) (nl1a_homes : Nat → Int32) (nl1a_talls : Nat → Int32) (nl1a_known : Nat → Int32) (nv0f_deeds : Int32) (nv0a_kinds : Nat → Int32) (nv0a_firsts : Nat → Int32) (nv0a_seconds : Nat → Int32) (nv1f_deeds : Int32) (nv1a_kinds : Nat → Int32) (nv1a_firsts : Nat → Int32) (nv1a_seconds : Nat → Int32) (ns0f_facts : Int32) (ns0a_heard : Nat → Int32) (ns0a_huts : Nat → Int32) (ns0a_minutes : Nat → Int32) (ns1f_facts : Int32) (ns1a_heard : Nat → Int32) (ns1a_huts : Nat → Int32) (ns1a_minutes : Nat → Int32) (nc0f_voices : Int32) (nc0f_step : Int32) (nc0a_parts : Nat → Int32) (nc0a_heights : Nat → Int32) (nc1f_voices : Int32) (nc1f_step : Int32) (nc1a_parts : Nat → Int32) (nc1a_heights : Nat → Int32) (rlf_huts' : Int32) (rlf_singers' : Int32) (rlf_villages' : Int32) (rlf_dams' : Int32) (rlf_echoes' : Int32) (rlf_deep' : Int32) (rlf_slide' : Int32) (rla_heights' : Nat → Int32) (rla_ladders' : Nat → Int32) (rla_minutes' : Nat → Int32) (rla_echoFrom' : Nat → Int32) (rla_echoTo' : Nat → Int32) (rla_homes' : Nat → Int32) (rla_talls' : Nat → Int32) (rla_known' : Nat → Int32) (rvf_deeds' : Int32) (rva_kinds' : Nat → Int32) (rva_firsts' : Nat → Int32) (rva_seconds' : Nat → Int32) (rsf_facts' : Int32) (rsa_heard' : Nat → Int32) (rsa_huts' : Nat → Int32) (rsa_minutes' : Nat → Int32) (rcf_voices' : Int32) (rcf_step' : Int32) (rca_parts' : Nat → Int32) (rca_heights' : Nat → Int32) (rf_fault' : Int32) (rf_faultPlace' : Int32) (ra_numbers' : Nat → Int32) (ra_tape' : Nat → Int32) (rf_length' : Int32) (rf_behind' : Int32) (rf_kind' : Int32) (rf_first' : Int32) (rf_value' : Int32) (rf_hutsToldOf' : Int32) (rf_singersToldOf' : Int32), xTX T (tmk (T.2 0) nf_length nf_fault nf_place na_counts nl0f_huts nl0f_singers nl0f_villages nl0f_dams nl0f_echoes nl0f_deep nl0f_slide nl0a_heights nl0a_ladders nl0a_minutes nl0a_echoFrom nl0a_echoTo nl0a_homes nl0a_talls nl0a_known nl1f_huts nl1f_singers nl1f_villages nl1f_dams nl1f_echoes nl1f_deep nl1f_slide nl1a_heights nl1a_ladders nl1a_minutes nl1a_echoFrom nl1a_echoTo nl1a_homes nl1a_talls nl1a_known nv0f_deeds nv0a_kinds nv0a_firsts nv0a_seconds nv1f_deeds nv1a_kinds nv1a_firsts nv1a_seconds ns0f_facts ns0a_heard ns0a_huts ns0a_minutes ns1f_facts ns1a_heard ns1a_huts ns1a_minutes nc0f_voices nc0f_step nc0a_parts nc0a_heights nc1f_voices nc1f_step nc1a_parts nc1a_heights) x1 x2 r → post r nf_length nf_fault nf_place na_counts nl0f_huts nl0f_singers nl0f_villages nl0f_dams nl0f_echoes nl0f_deep nl0f_slide nl0a_heights nl0a_ladders nl0a_minutes nl0a_echoFrom nl0a_echoTo nl0a_homes nl0a_talls nl0a_known nl1f_huts nl1f_singers nl1f_villages nl1f_dams nl1f_echoes nl1f_deep nl1f_slide nl1a_heights nl1a_ladders nl1a_minutes nl1a_echoFrom nl1a_echoTo nl1a_homes nl1a_talls nl1a_known nv0f_deeds nv0a_kinds nv0a_firsts nv0a_seconds nv1f_deeds nv1a_kinds nv1a_firsts nv1a_seconds ns0f_facts ns0a_heard ns0a_huts ns0a_minutes ns1f_facts ns1a_heard ns1a_huts ns1a_minutes nc0f_voices nc0f_step nc0a_parts nc0a_heights nc1f_voices nc1f_step nc1a_parts nc1a_heights rlf_huts' rlf_singers' rlf_villages' rlf_dams' rlf_echoes' rlf_deep' rlf_slide' rla_heights' rla_ladders' rla_minutes' rla_echoFrom' rla_echoTo' rla_homes' rla_talls' rla_known' rvf_deeds' rva_kinds' rva_firsts' rva_seconds' rsf_facts' rsa_heard' rsa_huts' rsa_minutes' rcf_voices' rcf_step' rca_parts' rca_heights' rf_fault' rf_faultPlace' ra_numbers' ra_tape' rf_length' rf_behind' rf_kind' rf_first' rf_value' rf_hutsToldOf' rf_singersToldOf') : q_wx_X10_text_0 (T.2 0) (T.1 0) (T.1 1) (T.1 2) (T.2 1) (T.1 3) (T.1 4) (T.1 5) (T.1 6) (T.1 7) (T.1 8) (T.1 9) (T.2 2) (T.2 3) (T.2 4) (T.2 5) (T.2 6) (T.2 7) (T.2 8) (T.2 9) (T.1 10) (T.1 11) (T.1 12) (T.1 13) (T.1 14) (T.1 15) (T.1 16) (T.2 10) (T.2 11) (T.2 12) (T.2 13) (T.2 14) (T.2 15) (T.2 16) (T.2 17) (T.1 17) (T.2 18) (T.2 19) (T.2 20) (T.1 18) (T.2 21) (T.2 22) (T.2 23) (T.1 19) (T.2 24) (T.2 25) (T.2 26) (T.1 20) (T.2 27) (T.2 28) (T.2 29) (T.1 21) (T.1 22) (T.2 30) (T.2 31) (T.1 23) (T.1 24) (T.2 32) (T.2 33) rlf_huts rlf_singers rlf_villages rlf_dams rlf_echoes rlf_deep rlf_slide rla_heights rla_ladders rla_minutes rla_echoFrom rla_echoTo rla_homes rla_talls rla_known rvf_deeds rva_kinds rva_firsts rva_seconds rsf_facts rsa_heard rsa_huts rsa_minutes rcf_voices rcf_step rca_parts rca_heights rf_fault rf_faultPlace ra_numbers ra_tape rf_length rf_behind rf_kind rf_first rf_value rf_hutsToldOf rf_singersToldOf x1 x2 post := by
  obtain ⟨n, hn, -, hn6, -⟩ := iv_nI hlen (by decide)
  have hcl : (T.1 0).toNatClampNeg = n := by rw [hn]; exact nI_clamp (by omega)
  refine e_numberFor hcnt (fun hno => ⟨fun h => absurd rfl h, fun _ => ?_⟩) (fun o k ho hk e1 hN => ⟨fun _ => ?_, fun h => absurd h (nI_nm2 (by omega))⟩)
  · exact hp (-2) 0 0 (-1) (T.2 1) (T.1 3) (T.1 4) (T.1 5) (T.1 6) (T.1 7) (T.1 8) (T.1 9) (T.2 2) (T.2 3) (T.2 4) (T.2 5) (T.2 6) (T.2 7) (T.2 8) (T.2 9) (T.1 10) (T.1 11) (T.1 12) (T.1 13) (T.1 14) (T.1 15) (T.1 16) (T.2 10) (T.2 11) (T.2 12) (T.2 13) (T.2 14) (T.2 15) (T.2 16) (T.2 17) (T.1 17) (T.2 18) (T.2 19) (T.2 20) (T.1 18) (T.2 21) (T.2 22) (T.2 23) (T.1 19) (T.2 24) (T.2 25) (T.2 26) (T.1 20) (T.2 27) (T.2 28) (T.2 29) (T.1 21) (T.1 22) (T.2 30) (T.2 31) (T.1 23) (T.1 24) (T.2 32) (T.2 33) rlf_huts rlf_singers rlf_villages rlf_dams rlf_echoes rlf_deep rlf_slide rla_heights rla_ladders rla_minutes rla_echoFrom rla_echoTo rla_homes rla_talls rla_known rvf_deeds rva_kinds rva_firsts rva_seconds rsf_facts rsa_heard rsa_huts rsa_minutes rcf_voices rcf_step rca_parts rca_heights rf_fault rf_faultPlace ra_numbers ra_tape rf_length rf_behind rf_kind rf_first rf_value rf_hutsToldOf rf_singersToldOf ⟨rfl, rfl, fun _ => ⟨rfl, rfl, rfl, rfl, same_all⟩, fun o k a b c d => absurd ⟨o, k, a, b, c, d⟩ hno⟩
  · have hTX : TXr T o = tx (nB (T.2 0) n) n o := by unfold TXr; rw [hcl]
    rw [hn, e1]
    refine e_read (B := nB (T.2 0) n) (by omega) (by omega) htape (fun j hj => (if_pos hj).symm) (fun rlf_huts' rlf_singers' rlf_villages' rlf_dams' rlf_echoes' rlf_deep' rlf_slide' rla_heights' rla_ladders' rla_minutes' rla_echoFrom' rla_echoTo' rla_homes' rla_talls' rla_known' rvf_deeds' rva_kinds' rva_firsts' rva_seconds' rsf_facts' rsa_heard' rsa_huts' rsa_minutes' rcf_voices' rcf_step' rca_parts' rca_heights' nums' tp' ln' bh' ki' fi' va' h' s' hD => ?_)
    rw [← hTX] at hD ⊢
    refine ⟨fun hz => ?_, fun hz => ?_⟩
    · obtain ⟨⟨fh, fs, hDR⟩, hCB⟩ := hD hz
      have hoc : o = 0 ∨ o = 1 ∨ o = 2 ∨ o = 3 := by omega
      have hkc : k = 0 ∨ k = 1 := by omega
      rcases hoc with rfl | rfl | rfl | rfl <;> rcases hkc with rfl | rfl
      · refine e_keep_00 (len := 0) (fault := (TXr T 0).1) (place := (TXr T 0).2.1) hCB (hDR.1 rfl).1 (fun nl0f_huts nl0f_singers nl0f_villages nl0f_dams nl0f_echoes nl0f_deep nl0f_slide nl0a_heights nl0a_ladders nl0a_minutes nl0a_echoFrom nl0a_echoTo nl0a_homes nl0a_talls nl0a_known hSL hsm => ?_)
        exact hp (nI 0) 0 (TXr T 0).1 (TXr T 0).2.1 _ nl0f_huts nl0f_singers nl0f_villages nl0f_dams nl0f_echoes nl0f_deep nl0f_slide nl0a_heights nl0a_ladders nl0a_minutes nl0a_echoFrom nl0a_echoTo nl0a_homes nl0a_talls nl0a_known (T.1 10) (T.1 11) (T.1 12) (T.1 13) (T.1 14) (T.1 15) (T.1 16) (T.2 10) (T.2 11) (T.2 12) (T.2 13) (T.2 14) (T.2 15) (T.2 16) (T.2 17) (T.1 17) (T.2 18) (T.2 19) (T.2 20) (T.1 18) (T.2 21) (T.2 22) (T.2 23) (T.1 19) (T.2 24) (T.2 25) (T.2 26) (T.1 20) (T.2 27) (T.2 28) (T.2 29) (T.1 21) (T.1 22) (T.2 30) (T.2 31) (T.1 23) (T.1 24) (T.2 32) (T.2 33) rlf_huts' rlf_singers' rlf_villages' rlf_dams' rlf_echoes' rlf_deep' rlf_slide' rla_heights' rla_ladders' rla_minutes' rla_echoFrom' rla_echoTo' rla_homes' rla_talls' rla_known' rvf_deeds' rva_kinds' rva_firsts' rva_seconds' rsf_facts' rsa_heard' rsa_huts' rsa_minutes' rcf_voices' rcf_step' rca_parts' rca_heights' (TXr T 0).1 (TXr T 0).2.1 nums' tp' ln' bh' ki' fi' va' h' s' (xTX_mk ho hk e1 hN rfl rfl rfl rfl (fun h9 => absurd hz h9) (fun _ => ⟨rfl, rfl, hSL, hsm⟩))
      · refine e_keep_01 (len := 0) (fault := (TXr T 0).1) (place := (TXr T 0).2.1) hCB (hDR.1 rfl).1 (fun nl1f_huts nl1f_singers nl1f_villages nl1f_dams nl1f_echoes nl1f_deep nl1f_slide nl1a_heights nl1a_ladders nl1a_minutes nl1a_echoFrom nl1a_echoTo nl1a_homes nl1a_talls nl1a_known hSL hsm => ?_)
        exact hp (nI 1) 0 (TXr T 0).1 (TXr T 0).2.1 _ (T.1 3) (T.1 4) (T.1 5) (T.1 6) (T.1 7) (T.1 8) (T.1 9) (T.2 2) (T.2 3) (T.2 4) (T.2 5) (T.2 6) (T.2 7) (T.2 8) (T.2 9) nl1f_huts nl1f_singers nl1f_villages nl1f_dams nl1f_echoes nl1f_deep nl1f_slide nl1a_heights nl1a_ladders nl1a_minutes nl1a_echoFrom nl1a_echoTo nl1a_homes nl1a_talls nl1a_known (T.1 17) (T.2 18) (T.2 19) (T.2 20) (T.1 18) (T.2 21) (T.2 22) (T.2 23) (T.1 19) (T.2 24) (T.2 25) (T.2 26) (T.1 20) (T.2 27) (T.2 28) (T.2 29) (T.1 21) (T.1 22) (T.2 30) (T.2 31) (T.1 23) (T.1 24) (T.2 32) (T.2 33) rlf_huts' rlf_singers' rlf_villages' rlf_dams' rlf_echoes' rlf_deep' rlf_slide' rla_heights' rla_ladders' rla_minutes' rla_echoFrom' rla_echoTo' rla_homes' rla_talls' rla_known' rvf_deeds' rva_kinds' rva_firsts' rva_seconds' rsf_facts' rsa_heard' rsa_huts' rsa_minutes' rcf_voices' rcf_step' rca_parts' rca_heights' (TXr T 0).1 (TXr T 0).2.1 nums' tp' ln' bh' ki' fi' va' h' s' (xTX_mk ho hk e1 hN rfl rfl rfl rfl (fun h9 => absurd hz h9) (fun _ => ⟨rfl, rfl, hSL, hsm⟩))
      · refine e_keep_10 (len := 0) (fault := (TXr T 1).1) (place := (TXr T 1).2.1) hCB (hDR.2.1 rfl) (by rw [(hDR.2.1 rfl).1]; exact hCB.1) (fun nv0f_deeds nv0a_kinds nv0a_firsts nv0a_seconds hSL hsm => ?_)
        exact hp (nI 0) 0 (TXr T 1).1 (TXr T 1).2.1 _ (T.1 3) (T.1 4) (T.1 5) (T.1 6) (T.1 7) (T.1 8) (T.1 9) (T.2 2) (T.2 3) (T.2 4) (T.2 5) (T.2 6) (T.2 7) (T.2 8) (T.2 9) (T.1 10) (T.1 11) (T.1 12) (T.1 13) (T.1 14) (T.1 15) (T.1 16) (T.2 10) (T.2 11) (T.2 12) (T.2 13) (T.2 14) (T.2 15) (T.2 16) (T.2 17) nv0f_deeds nv0a_kinds nv0a_firsts nv0a_seconds (T.1 18) (T.2 21) (T.2 22) (T.2 23) (T.1 19) (T.2 24) (T.2 25) (T.2 26) (T.1 20) (T.2 27) (T.2 28) (T.2 29) (T.1 21) (T.1 22) (T.2 30) (T.2 31) (T.1 23) (T.1 24) (T.2 32) (T.2 33) rlf_huts' rlf_singers' rlf_villages' rlf_dams' rlf_echoes' rlf_deep' rlf_slide' rla_heights' rla_ladders' rla_minutes' rla_echoFrom' rla_echoTo' rla_homes' rla_talls' rla_known' rvf_deeds' rva_kinds' rva_firsts' rva_seconds' rsf_facts' rsa_heard' rsa_huts' rsa_minutes' rcf_voices' rcf_step' rca_parts' rca_heights' (TXr T 1).1 (TXr T 1).2.1 nums' tp' ln' bh' ki' fi' va' h' s' (xTX_mk ho hk e1 hN rfl rfl rfl rfl (fun h9 => absurd hz h9) (fun _ => ⟨rfl, rfl, hSL, hsm⟩))
      · refine e_keep_11 (len := 0) (fault := (TXr T 1).1) (place := (TXr T 1).2.1) hCB (hDR.2.1 rfl) (by rw [(hDR.2.1 rfl).1]; exact hCB.1) (fun nv1f_deeds nv1a_kinds nv1a_firsts nv1a_seconds hSL hsm => ?_)
        exact hp (nI 1) 0 (TXr T 1).1 (TXr T 1).2.1 _ (T.1 3) (T.1 4) (T.1 5) (T.1 6) (T.1 7) (T.1 8) (T.1 9) (T.2 2) (T.2 3) (T.2 4) (T.2 5) (T.2 6) (T.2 7) (T.2 8) (T.2 9) (T.1 10) (T.1 11) (T.1 12) (T.1 13) (T.1 14) (T.1 15) (T.1 16) (T.2 10) (T.2 11) (T.2 12) (T.2 13) (T.2 14) (T.2 15) (T.2 16) (T.2 17) (T.1 17) (T.2 18) (T.2 19) (T.2 20) nv1f_deeds nv1a_kinds nv1a_firsts nv1a_seconds (T.1 19) (T.2 24) (T.2 25) (T.2 26) (T.1 20) (T.2 27) (T.2 28) (T.2 29) (T.1 21) (T.1 22) (T.2 30) (T.2 31) (T.1 23) (T.1 24) (T.2 32) (T.2 33) rlf_huts' rlf_singers' rlf_villages' rlf_dams' rlf_echoes' rlf_deep' rlf_slide' rla_heights' rla_ladders' rla_minutes' rla_echoFrom' rla_echoTo' rla_homes' rla_talls' rla_known' rvf_deeds' rva_kinds' rva_firsts' rva_seconds' rsf_facts' rsa_heard' rsa_huts' rsa_minutes' rcf_voices' rcf_step' rca_parts' rca_heights' (TXr T 1).1 (TXr T 1).2.1 nums' tp' ln' bh' ki' fi' va' h' s' (xTX_mk ho hk e1 hN rfl rfl rfl rfl (fun h9 => absurd hz h9) (fun _ => ⟨rfl, rfl, hSL, hsm⟩))
      · refine e_keep_20 (len := 0) (fault := (TXr T 2).1) (place := (TXr T 2).2.1) hCB (hDR.2.2.1 rfl) (by rw [(hDR.2.2.1 rfl).1]; exact hCB.1) (fun ns0f_facts ns0a_heard ns0a_huts ns0a_minutes hSL hsm => ?_)
        exact hp (nI 0) 0 (TXr T 2).1 (TXr T 2).2.1 _ (T.1 3) (T.1 4) (T.1 5) (T.1 6) (T.1 7) (T.1 8) (T.1 9) (T.2 2) (T.2 3) (T.2 4) (T.2 5) (T.2 6) (T.2 7) (T.2 8) (T.2 9) (T.1 10) (T.1 11) (T.1 12) (T.1 13) (T.1 14) (T.1 15) (T.1 16) (T.2 10) (T.2 11) (T.2 12) (T.2 13) (T.2 14) (T.2 15) (T.2 16) (T.2 17) (T.1 17) (T.2 18) (T.2 19) (T.2 20) (T.1 18) (T.2 21) (T.2 22) (T.2 23) ns0f_facts ns0a_heard ns0a_huts ns0a_minutes (T.1 20) (T.2 27) (T.2 28) (T.2 29) (T.1 21) (T.1 22) (T.2 30) (T.2 31) (T.1 23) (T.1 24) (T.2 32) (T.2 33) rlf_huts' rlf_singers' rlf_villages' rlf_dams' rlf_echoes' rlf_deep' rlf_slide' rla_heights' rla_ladders' rla_minutes' rla_echoFrom' rla_echoTo' rla_homes' rla_talls' rla_known' rvf_deeds' rva_kinds' rva_firsts' rva_seconds' rsf_facts' rsa_heard' rsa_huts' rsa_minutes' rcf_voices' rcf_step' rca_parts' rca_heights' (TXr T 2).1 (TXr T 2).2.1 nums' tp' ln' bh' ki' fi' va' h' s' (xTX_mk ho hk e1 hN rfl rfl rfl rfl (fun h9 => absurd hz h9) (fun _ => ⟨rfl, rfl, hSL, hsm⟩))
      · refine e_keep_21 (len := 0) (fault := (TXr T 2).1) (place := (TXr T 2).2.1) hCB (hDR.2.2.1 rfl) (by rw [(hDR.2.2.1 rfl).1]; exact hCB.1) (fun ns1f_facts ns1a_heard ns1a_huts ns1a_minutes hSL hsm => ?_)
        exact hp (nI 1) 0 (TXr T 2).1 (TXr T 2).2.1 _ (T.1 3) (T.1 4) (T.1 5) (T.1 6) (T.1 7) (T.1 8) (T.1 9) (T.2 2) (T.2 3) (T.2 4) (T.2 5) (T.2 6) (T.2 7) (T.2 8) (T.2 9) (T.1 10) (T.1 11) (T.1 12) (T.1 13) (T.1 14) (T.1 15) (T.1 16) (T.2 10) (T.2 11) (T.2 12) (T.2 13) (T.2 14) (T.2 15) (T.2 16) (T.2 17) (T.1 17) (T.2 18) (T.2 19) (T.2 20) (T.1 18) (T.2 21) (T.2 22) (T.2 23) (T.1 19) (T.2 24) (T.2 25) (T.2 26) ns1f_facts ns1a_heard ns1a_huts ns1a_minutes (T.1 21) (T.1 22) (T.2 30) (T.2 31) (T.1 23) (T.1 24) (T.2 32) (T.2 33) rlf_huts' rlf_singers' rlf_villages' rlf_dams' rlf_echoes' rlf_deep' rlf_slide' rla_heights' rla_ladders' rla_minutes' rla_echoFrom' rla_echoTo' rla_homes' rla_talls' rla_known' rvf_deeds' rva_kinds' rva_firsts' rva_seconds' rsf_facts' rsa_heard' rsa_huts' rsa_minutes' rcf_voices' rcf_step' rca_parts' rca_heights' (TXr T 2).1 (TXr T 2).2.1 nums' tp' ln' bh' ki' fi' va' h' s' (xTX_mk ho hk e1 hN rfl rfl rfl rfl (fun h9 => absurd hz h9) (fun _ => ⟨rfl, rfl, hSL, hsm⟩))
      · refine e_keep_30 (len := 0) (fault := (TXr T 3).1) (place := (TXr T 3).2.1) hCB (hDR.2.2.2 rfl) (by rw [(hDR.2.2.2 rfl).1]; exact hCB.1) (fun nc0f_voices nc0f_step nc0a_parts nc0a_heights hSL hsm => ?_)
        exact hp (nI 0) 0 (TXr T 3).1 (TXr T 3).2.1 _ (T.1 3) (T.1 4) (T.1 5) (T.1 6) (T.1 7) (T.1 8) (T.1 9) (T.2 2) (T.2 3) (T.2 4) (T.2 5) (T.2 6) (T.2 7) (T.2 8) (T.2 9) (T.1 10) (T.1 11) (T.1 12) (T.1 13) (T.1 14) (T.1 15) (T.1 16) (T.2 10) (T.2 11) (T.2 12) (T.2 13) (T.2 14) (T.2 15) (T.2 16) (T.2 17) (T.1 17) (T.2 18) (T.2 19) (T.2 20) (T.1 18) (T.2 21) (T.2 22) (T.2 23) (T.1 19) (T.2 24) (T.2 25) (T.2 26) (T.1 20) (T.2 27) (T.2 28) (T.2 29) nc0f_voices nc0f_step nc0a_parts nc0a_heights (T.1 23) (T.1 24) (T.2 32) (T.2 33) rlf_huts' rlf_singers' rlf_villages' rlf_dams' rlf_echoes' rlf_deep' rlf_slide' rla_heights' rla_ladders' rla_minutes' rla_echoFrom' rla_echoTo' rla_homes' rla_talls' rla_known' rvf_deeds' rva_kinds' rva_firsts' rva_seconds' rsf_facts' rsa_heard' rsa_huts' rsa_minutes' rcf_voices' rcf_step' rca_parts' rca_heights' (TXr T 3).1 (TXr T 3).2.1 nums' tp' ln' bh' ki' fi' va' h' s' (xTX_mk ho hk e1 hN rfl rfl rfl rfl (fun h9 => absurd hz h9) (fun _ => ⟨rfl, rfl, hSL, hsm⟩))
      · refine e_keep_31 (len := 0) (fault := (TXr T 3).1) (place := (TXr T 3).2.1) hCB (hDR.2.2.2 rfl) (by rw [(hDR.2.2.2 rfl).1]; exact hCB.1) (fun nc1f_voices nc1f_step nc1a_parts nc1a_heights hSL hsm => ?_)
        exact hp (nI 1) 0 (TXr T 3).1 (TXr T 3).2.1 _ (T.1 3) (T.1 4) (T.1 5) (T.1 6) (T.1 7) (T.1 8) (T.1 9) (T.2 2) (T.2 3) (T.2 4) (T.2 5) (T.2 6) (T.2 7) (T.2 8) (T.2 9) (T.1 10) (T.1 11) (T.1 12) (T.1 13) (T.1 14) (T.1 15) (T.1 16) (T.2 10) (T.2 11) (T.2 12) (T.2 13) (T.2 14) (T.2 15) (T.2 16) (T.2 17) (T.1 17) (T.2 18) (T.2 19) (T.2 20) (T.1 18) (T.2 21) (T.2 22) (T.2 23) (T.1 19) (T.2 24) (T.2 25) (T.2 26) (T.1 20) (T.2 27) (T.2 28) (T.2 29) (T.1 21) (T.1 22) (T.2 30) (T.2 31) nc1f_voices nc1f_step nc1a_parts nc1a_heights rlf_huts' rlf_singers' rlf_villages' rlf_dams' rlf_echoes' rlf_deep' rlf_slide' rla_heights' rla_ladders' rla_minutes' rla_echoFrom' rla_echoTo' rla_homes' rla_talls' rla_known' rvf_deeds' rva_kinds' rva_firsts' rva_seconds' rsf_facts' rsa_heard' rsa_huts' rsa_minutes' rcf_voices' rcf_step' rca_parts' rca_heights' (TXr T 3).1 (TXr T 3).2.1 nums' tp' ln' bh' ki' fi' va' h' s' (xTX_mk ho hk e1 hN rfl rfl rfl rfl (fun h9 => absurd hz h9) (fun _ => ⟨rfl, rfl, hSL, hsm⟩))
    · exact hp (-1) 0 (TXr T o).1 (TXr T o).2.1 (T.2 1) (T.1 3) (T.1 4) (T.1 5) (T.1 6) (T.1 7) (T.1 8) (T.1 9) (T.2 2) (T.2 3) (T.2 4) (T.2 5) (T.2 6) (T.2 7) (T.2 8) (T.2 9) (T.1 10) (T.1 11) (T.1 12) (T.1 13) (T.1 14) (T.1 15) (T.1 16) (T.2 10) (T.2 11) (T.2 12) (T.2 13) (T.2 14) (T.2 15) (T.2 16) (T.2 17) (T.1 17) (T.2 18) (T.2 19) (T.2 20) (T.1 18) (T.2 21) (T.2 22) (T.2 23) (T.1 19) (T.2 24) (T.2 25) (T.2 26) (T.1 20) (T.2 27) (T.2 28) (T.2 29) (T.1 21) (T.1 22) (T.2 30) (T.2 31) (T.1 23) (T.1 24) (T.2 32) (T.2 33) rlf_huts' rlf_singers' rlf_villages' rlf_dams' rlf_echoes' rlf_deep' rlf_slide' rla_heights' rla_ladders' rla_minutes' rla_echoFrom' rla_echoTo' rla_homes' rla_talls' rla_known' rvf_deeds' rva_kinds' rva_firsts' rva_seconds' rsf_facts' rsa_heard' rsa_huts' rsa_minutes' rcf_voices' rcf_step' rca_parts' rca_heights' (TXr T o).1 (TXr T o).2.1 nums' tp' ln' bh' ki' fi' va' h' s' (xTX_mk ho hk e1 hN rfl rfl rfl rfl (fun _ => ⟨rfl, rfl, same_all⟩) (fun h9 => absurd h9 hz))
end
section
theorem e_store_6 {a td : Nat → Int32} {k : Nat} {post : (Nat → Int32) → Prop} (hk : k < 2) (h : ∀ t, (∀ j, j < 132 → t (132 * k + j) = td j) → (∀ j, j < 132 * k ∨ 132 * k + 132 ≤ j → t j = a j) → post t) : q_m_store_6_0 a td 132 (nI k) post := by
  intro P hP
  have loop : ∀ m i (t : Nat → Int32), m + i = 132 → (∀ j, j < i → t (132 * k + j) = td j) → (∀ j, j < 132 * k ∨ 132 * k + 132 ≤ j → t j = a j) → P (nI i) t := by
    intro m
    induction m with
    | zero =>
      intro i t hi h1 h2
      apply hP
      exact pk_le 132 i (fun _ => h t (fun j hj => h1 j (by omega)) h2) (fun h9 => absurd h9 (by omega))
    | succ m ih =>
      intro i t hi h1 h2
      apply hP
      have hix : (132 : Int32) * nI k + nI i = nI (132 * k + i) := by rw [show (132 : Int32) = nI 132 from rfl, pk_mul, nI_add]
      refine pk_le 132 i (fun h9 => absurd h9 (by omega)) (fun _ => ⟨vp_in_nI (by omega) (by omega), fun v ev => ⟨by rw [hix]; exact vp_in_nI (by omega) (by omega), fun t1 e1 v2 e2 => ?_⟩⟩)
      rw [nI_clamp (by omega)] at ev
      rw [hix, nI_clamp (by omega)] at e1
      rw [e2, nI_1, e1, ev]
      refine ih (i + 1) _ (by omega) (fun j hj => ?_) (fun j hj => ?_)
      · by_cases hji : j = i
        · subst hji; exact up_s
        · rw [up_n (by omega)]; exact h1 j (by omega)
      · rw [up_n (by omega)]; exact h2 j hj
  exact loop 132 0 a (by omega) (fun j hj => absurd hj (by omega)) (fun _ _ => rfl)
theorem e_store_7 {a td : Nat → Int32} {k : Nat} {post : (Nat → Int32) → Prop} (hk : k < 2) (h : ∀ t, (∀ j, j < 121 → t (121 * k + j) = td j) → (∀ j, j < 121 * k ∨ 121 * k + 121 ≤ j → t j = a j) → post t) : q_m_store_7_0 a td 121 (nI k) post := by
  intro P hP
  have loop : ∀ m i (t : Nat → Int32), m + i = 121 → (∀ j, j < i → t (121 * k + j) = td j) → (∀ j, j < 121 * k ∨ 121 * k + 121 ≤ j → t j = a j) → P (nI i) t := by
    intro m
    induction m with
    | zero =>
      intro i t hi h1 h2
      apply hP
      exact pk_le 121 i (fun _ => h t (fun j hj => h1 j (by omega)) h2) (fun h9 => absurd h9 (by omega))
    | succ m ih =>
      intro i t hi h1 h2
      apply hP
      have hix : (121 : Int32) * nI k + nI i = nI (121 * k + i) := by rw [show (121 : Int32) = nI 121 from rfl, pk_mul, nI_add]
      refine pk_le 121 i (fun h9 => absurd h9 (by omega)) (fun _ => ⟨vp_in_nI (by omega) (by omega), fun v ev => ⟨by rw [hix]; exact vp_in_nI (by omega) (by omega), fun t1 e1 v2 e2 => ?_⟩⟩)
      rw [nI_clamp (by omega)] at ev
      rw [hix, nI_clamp (by omega)] at e1
      rw [e2, nI_1, e1, ev]
      refine ih (i + 1) _ (by omega) (fun j hj => ?_) (fun j hj => ?_)
      · by_cases hji : j = i
        · subst hji; exact up_s
        · rw [up_n (by omega)]; exact h1 j (by omega)
      · rw [up_n (by omega)]; exact h2 j hj
  exact loop 121 0 a (by omega) (fun j hj => absurd hj (by omega)) (fun _ _ => rfl)
theorem e_store_8 {a td : Nat → Int32} {k : Nat} {post : (Nat → Int32) → Prop} (hk : k < 2) (h : ∀ t, (∀ j, j < 31 → t (31 * k + j) = td j) → (∀ j, j < 31 * k ∨ 31 * k + 31 ≤ j → t j = a j) → post t) : q_m_store_8_0 a td 31 (nI k) post := by
  intro P hP
  have loop : ∀ m i (t : Nat → Int32), m + i = 31 → (∀ j, j < i → t (31 * k + j) = td j) → (∀ j, j < 31 * k ∨ 31 * k + 31 ≤ j → t j = a j) → P (nI i) t := by
    intro m
    induction m with
    | zero =>
      intro i t hi h1 h2
      apply hP
      exact pk_le 31 i (fun _ => h t (fun j hj => h1 j (by omega)) h2) (fun h9 => absurd h9 (by omega))
    | succ m ih =>
      intro i t hi h1 h2
      apply hP
      have hix : (31 : Int32) * nI k + nI i = nI (31 * k + i) := by rw [show (31 : Int32) = nI 31 from rfl, pk_mul, nI_add]
      refine pk_le 31 i (fun h9 => absurd h9 (by omega)) (fun _ => ⟨vp_in_nI (by omega) (by omega), fun v ev => ⟨by rw [hix]; exact vp_in_nI (by omega) (by omega), fun t1 e1 v2 e2 => ?_⟩⟩)
      rw [nI_clamp (by omega)] at ev
      rw [hix, nI_clamp (by omega)] at e1
      rw [e2, nI_1, e1, ev]
      refine ih (i + 1) _ (by omega) (fun j hj => ?_) (fun j hj => ?_)
      · by_cases hji : j = i
        · subst hji; exact up_s
        · rw [up_n (by omega)]; exact h1 j (by omega)
      · rw [up_n (by omega)]; exact h2 j hj
  exact loop 31 0 a (by omega) (fun j hj => absurd hj (by omega)) (fun _ _ => rfl)
theorem e_store_9 {a td : Nat → Int32} {k : Nat} {post : (Nat → Int32) → Prop} (hk : k < 2) (h : ∀ t, (∀ j, j < 20 → t (20 * k + j) = td j) → (∀ j, j < 20 * k ∨ 20 * k + 20 ≤ j → t j = a j) → post t) : q_m_store_9_0 a td 20 (nI k) post := by
  intro P hP
  have loop : ∀ m i (t : Nat → Int32), m + i = 20 → (∀ j, j < i → t (20 * k + j) = td j) → (∀ j, j < 20 * k ∨ 20 * k + 20 ≤ j → t j = a j) → P (nI i) t := by
    intro m
    induction m with
    | zero =>
      intro i t hi h1 h2
      apply hP
      exact pk_le 20 i (fun _ => h t (fun j hj => h1 j (by omega)) h2) (fun h9 => absurd h9 (by omega))
    | succ m ih =>
      intro i t hi h1 h2
      apply hP
      have hix : (20 : Int32) * nI k + nI i = nI (20 * k + i) := by rw [show (20 : Int32) = nI 20 from rfl, pk_mul, nI_add]
      refine pk_le 20 i (fun h9 => absurd h9 (by omega)) (fun _ => ⟨vp_in_nI (by omega) (by omega), fun v ev => ⟨by rw [hix]; exact vp_in_nI (by omega) (by omega), fun t1 e1 v2 e2 => ?_⟩⟩)
      rw [nI_clamp (by omega)] at ev
      rw [hix, nI_clamp (by omega)] at e1
      rw [e2, nI_1, e1, ev]
      refine ih (i + 1) _ (by omega) (fun j hj => ?_) (fun j hj => ?_)
      · by_cases hji : j = i
        · subst hji; exact up_s
        · rw [up_n (by omega)]; exact h1 j (by omega)
      · rw [up_n (by omega)]; exact h2 j hj
  exact loop 20 0 a (by omega) (fun j hj => absurd hj (by omega)) (fun _ _ => rfl)
noncomputable def MXr (M : Nat → Nat → Int32) (o : Nat) : Int32 × Int32 × (Nat → Int32) := tx (nB (M 0) (M 1 0).toNatClampNeg) (M 1 0).toNatClampNeg o
def mTX (M M' : Nat → Nat → Int32) (a1 a2 r : Int32) : Prop := M' 0 = M 0 ∧ M' 9 = M 9 ∧ M' 1 0 = 0 ∧ (∀ j, ¬ j = 0 → M' 1 j = M 1 j ∧ M' 2 j = M 2 j ∧ M' 3 j = M 3 j) ∧
  ((¬ ∃ o k, o < 4 ∧ k < 2 ∧ a1 = nI o ∧ NUM (M 4 o) a2 k) → r = -2 ∧ M' 2 0 = 0 ∧ M' 3 0 = -1 ∧ ∀ i, 4 ≤ i → i < 9 → M' i = M i) ∧
  (∀ o k, o < 4 → k < 2 → a1 = nI o → NUM (M 4 o) a2 k → M' 2 0 = (MXr M o).1 ∧ M' 3 0 = (MXr M o).2.1 ∧ (¬ (MXr M o).1 = 0 → r = -1 ∧ ∀ i, 4 ≤ i → i < 9 → M' i = M i) ∧ ((MXr M o).1 = 0 → r = nI k ∧ M' 4 = upd (M 4) o (cmx (M 4 o) k) ∧ (∀ j, j < wD o → M' (5 + o) (wD o * k + j) = (MXr M o).2.2 j) ∧ (∀ j, j < wD o * k ∨ wD o * k + wD o ≤ j → M' (5 + o) j = M (5 + o) j) ∧ ∀ i, 5 ≤ i → i < 9 → ¬ i = 5 + o → M' i = M i))
theorem mTX_mk {M M' : Nat → Nat → Int32} {a1 a2 r : Int32} {o k : Nat} (ho : o < 4) (hk : k < 2) (e : a1 = nI o) (hN : NUM (M 4 o) a2 k) (h0 : M' 0 = M 0) (h9 : M' 9 = M 9) (h1 : M' 1 0 = 0) (hs : ∀ j, ¬ j = 0 → M' 1 j = M 1 j ∧ M' 2 j = M 2 j ∧ M' 3 j = M 3 j) (h2 : M' 2 0 = (MXr M o).1) (h3 : M' 3 0 = (MXr M o).2.1) (h4 : ¬ (MXr M o).1 = 0 → r = -1 ∧ ∀ i, 4 ≤ i → i < 9 → M' i = M i) (h5 : (MXr M o).1 = 0 → r = nI k ∧ M' 4 = upd (M 4) o (cmx (M 4 o) k) ∧ (∀ j, j < wD o → M' (5 + o) (wD o * k + j) = (MXr M o).2.2 j) ∧ (∀ j, j < wD o * k ∨ wD o * k + wD o ≤ j → M' (5 + o) j = M (5 + o) j) ∧ ∀ i, 5 ≤ i → i < 9 → ¬ i = 5 + o → M' i = M i) : mTX M M' a1 a2 r := by
  refine ⟨h0, h9, h1, hs, fun hno => absurd ⟨o, k, ho, hk, e, hN⟩ hno, fun o' k' ho' hk' e' hN' => ?_⟩
  have eo : o = o' := (nI_eq (by omega) (by omega)).mp (e.symm.trans e')
  subst eo
  have ek := NUM_un hk hk' hN hN'
  subst ek
  exact ⟨h2, h3, h4, h5⟩
theorem up_2 {f : Nat → Int32} {a v w : Int32} (j : Nat) (h : ¬ j = a.toNatClampNeg) : upd (upd f a.toNatClampNeg v) a.toNatClampNeg w j = f j := by rw [up_n h, up_n h]
set_option maxRecDepth 40000 in
set_option maxHeartbeats 4000000 in
theorem e_m_text2 {M : Nat → Nat → Int32} {cd re ln be so va wr lf lp fh fs gd x1 x2 : Int32} {wd : Int64} {told rd : Nat → Int32} {post : Int32 → Int32 → (Nat → Int32) → (Nat → Int32) → (Nat → Int32) → (Nat → Int32) → (Nat → Int32) → (Nat → Int32) → (Nat → Int32) → (Nat → Int32) → Int32 → Int32 → Int32 → Int32 → Int32 → Int64 → Int32 → Int32 → Int32 → (Nat → Int32) → (Nat → Int32) → Int32 → Int32 → Int32 → Prop} (hlen : iv 0 600 (M 1 0)) (htape : ∀ j, iv (-128) 127 (M 0 j)) (hcnt : ∀ j, iv 0 2 (M 4 j)) (hp : ∀ (r : Int32) (sz fl fp mn ld ev sg ch : Nat → Int32) (re ln be so va : Int32) (wd : Int64) (wr lf lp : Int32) (td rd : Nat → Int32) (fh fs gd : Int32), mTX M (mmk (M 0) sz fl fp mn ld ev sg ch (M 9)) x1 x2 r → post r 0 sz fl fp mn ld ev sg ch re ln be so va wd wr lf lp td rd fh fs gd) : q_m_text_0 cd (M 0) (M 1) (M 2) (M 3) (M 4) (M 5) (M 6) (M 7) (M 8) re ln be so va wd wr lf lp told rd fh fs gd x1 x2 post := by
  obtain ⟨n, hn, -, hn6, -⟩ := iv_nI hlen (by decide)
  have hcl : (M 1 0).toNatClampNeg = n := by rw [hn]; exact nI_clamp (by omega)
  intro v ev sz es fl ef fp ep
  rw [c_0] at ev es ef ep
  rw [hn] at ev
  subst ev
  have no : (¬ ∃ o k, o < 4 ∧ k < 2 ∧ x1 = nI o ∧ NUM (M 4 o) x2 k) → post (-2) 0 sz fl fp (M 4) (M 5) (M 6) (M 7) (M 8) re (nI n) be so va wd wr lf lp told rd fh fs gd := by
    intro hno
    refine hp _ _ _ _ _ _ _ _ _ _ _ _ _ _ _ _ _ _ _ _ _ _ _ ⟨rfl, rfl, ?_, fun j hj => ⟨?_, ?_, ?_⟩, fun _ => ⟨rfl, ?_, ?_, fun i h1 h2 => ?_⟩, fun o k a b c d => absurd ⟨o, k, a, b, c, d⟩ hno⟩
    · show sz 0 = 0
      rw [es]; exact up_s
    · show sz j = M 1 j
      rw [es]; exact up_n hj
    · show fl j = M 2 j
      rw [ef]; exact up_n hj
    · show fp j = M 3 j
      rw [ep]; exact up_n hj
    · show fl 0 = 0
      rw [ef]; exact up_s
    · show fp 0 = -1
      rw [ep]; exact up_s
    · have : i = 4 ∨ i = 5 ∨ i = 6 ∨ i = 7 ∨ i = 8 := by omega
      rcases this with rfl | rfl | rfl | rfl | rfl <;> rfl
  -- a text of a sort, as number k
  have yes : ∀ o k, o < 4 → k < 2 → x1 = nI o → NUM (M 4 o) x2 k → q_m_text_75 0 (M 0) sz fl fp (M 4) (M 5) (M 6) (M 7) (M 8) re (nI n) be so va wd wr lf lp told rd fh fs gd x1 x2 post := by
    intro o k ho hk e1 hN
    have hMX : MXr M o = tx (nB (M 0) n) n o := by unfold MXr; rw [hcl]
    have hbb : ∀ j, iv (-128) 127 (nB (M 0) n j) := fun j => by
      unfold nB
      by_cases hj : j < n
      · rw [if_pos hj]; exact htape j
      · rw [if_neg hj]; exact iv_lit (by decide)
    rw [e1]
    refine e_readText (B := nB (M 0) n) (by omega) (fun j hj => (if_pos hj).symm) hbb (by omega) (fun hz re be so va wd wr lf lp td rd fh fs gd => zi ?_) (fun hz re be so va wd wr lf lp td rd fh fs gd htd => io ?_)
    · rw [← hMX] at hz ⊢
      refine hp _ _ _ _ _ _ _ _ _ _ _ _ _ _ _ _ _ _ _ _ _ _ _ (mTX_mk ho hk e1 hN rfl rfl ?_ (fun j hj => ⟨?_, ?_, ?_⟩) ?_ ?_ (fun _ => ⟨rfl, fun i h1 h2 => ?_⟩) (fun h9 => absurd h9 hz))
      · show sz 0 = 0
        rw [es]; exact up_s
      · show sz j = M 1 j
        rw [es]; exact up_n hj
      · show upd fl 0 _ j = M 2 j
        rw [up_n hj, ef]; exact up_n hj
      · show upd fp 0 _ j = M 3 j
        rw [up_n hj, ep]; exact up_n hj
      · exact up_s
      · exact up_s
      · have : i = 4 ∨ i = 5 ∨ i = 6 ∨ i = 7 ∨ i = 8 := by omega
        rcases this with rfl | rfl | rfl | rfl | rfl <;> rfl
    · rw [← hMX] at hz htd ⊢
      -- the number, the count
      have t100 : q_m_text_100 0 (M 0) sz (upd fl 0 (MXr M o).1) (upd fp 0 (MXr M o).2.1) (M 4) (M 5) (M 6) (M 7) (M 8) re (nI n) be so va wd wr lf lp td rd fh fs gd (nI o) x2 (nI k) post := by
        have t118 : ∀ y : Int32, M 4 o + y = cmx (M 4 o) k → q_m_text_118 0 (M 0) sz (upd fl 0 (MXr M o).1) (upd fp 0 (MXr M o).2.1) (M 4) (M 5) (M 6) (M 7) (M 8) re (nI n) be so va wd wr lf lp td rd fh fs gd (nI o) (nI k) (nI o) (M 4 o) y post := by
          intro y hy v1 e9
          refine ⟨vp_in_nI (by omega) (by omega), fun mn em => ?_⟩
          rw [nI_clamp (by omega), e9, hy] at em
          have fin : ∀ ld ev sg ch : Nat → Int32, (∀ j, j < wD o → (mmk (M 0) sz (upd fl 0 (MXr M o).1) (upd fp 0 (MXr M o).2.1) mn ld ev sg ch (M 9)) (5 + o) (wD o * k + j) = td j) → (∀ j, j < wD o * k ∨ wD o * k + wD o ≤ j → (mmk (M 0) sz (upd fl 0 (MXr M o).1) (upd fp 0 (MXr M o).2.1) mn ld ev sg ch (M 9)) (5 + o) j = M (5 + o) j) → (∀ i, 5 ≤ i → i < 9 → ¬ i = 5 + o → (mmk (M 0) sz (upd fl 0 (MXr M o).1) (upd fp 0 (MXr M o).2.1) mn ld ev sg ch (M 9)) i = M i) → post (nI k) 0 sz (upd fl 0 (MXr M o).1) (upd fp 0 (MXr M o).2.1) mn ld ev sg ch re (nI n) be so va wd wr lf lp td rd fh fs gd := by
            intro ld ev sg ch g1 g2 g3
            refine hp _ _ _ _ _ _ _ _ _ _ _ _ _ _ _ _ _ _ _ _ _ _ _ (mTX_mk ho hk e1 hN rfl rfl ?_ (fun j hj => ⟨?_, ?_, ?_⟩) ?_ ?_ (fun h9 => absurd hz h9) (fun _ => ⟨rfl, ?_, fun j hj => (g1 j hj).trans (htd j ?_), g2, g3⟩))
            · show sz 0 = 0
              rw [es]; exact up_s
            · show sz j = M 1 j
              rw [es]; exact up_n hj
            · show upd fl 0 _ j = M 2 j
              rw [up_n hj, ef]; exact up_n hj
            · show upd fp 0 _ j = M 3 j
              rw [up_n hj, ep]; exact up_n hj
            · exact up_s
            · exact up_s
            · exact em
            · have hw : ∀ o, o < 4 → wD o ≤ 132 := by decide
              have := hw o ho
              omega
          have hoc : o = 0 ∨ o = 1 ∨ o = 2 ∨ o = 3 := by omega
          rcases hoc with rfl | rfl | rfl | rfl
          · refine ⟨fun h9 => absurd h9 (by decide +kernel), fun _ => ?_, fun h9 => absurd h9 (by decide +kernel), fun h9 => absurd h9 (by decide +kernel)⟩
            exact e_store_6 hk (fun t a b => fin t _ _ _ a b (fun i h1 h2 h3 => by
              have : i = 6 ∨ i = 7 ∨ i = 8 := by omega
              rcases this with rfl | rfl | rfl <;> rfl))
          · refine ⟨fun h9 => absurd h9 (by decide +kernel), fun h9 => absurd h9 (by decide +kernel), fun _ => ?_, fun h9 => absurd h9 (by decide +kernel)⟩
            exact e_store_7 hk (fun t a b => fin _ t _ _ a b (fun i h1 h2 h3 => by
              have : i = 5 ∨ i = 7 ∨ i = 8 := by omega
              rcases this with rfl | rfl | rfl <;> rfl))
          · refine ⟨fun h9 => absurd h9 (by decide +kernel), fun h9 => absurd h9 (by decide +kernel), fun h9 => absurd h9 (by decide +kernel), fun _ => ?_⟩
            exact e_store_8 hk (fun t a b => fin _ _ t _ a b (fun i h1 h2 h3 => by
              have : i = 5 ∨ i = 6 ∨ i = 8 := by omega
              rcases this with rfl | rfl | rfl <;> rfl))
          · refine ⟨fun _ => ?_, fun h9 => absurd h9 (by decide +kernel), fun h9 => absurd h9 (by decide +kernel), fun h9 => absurd h9 (by decide +kernel)⟩
            exact e_store_9 hk (fun t a b => fin _ _ _ t a b (fun i h1 h2 h3 => by
              have : i = 5 ∨ i = 6 ∨ i = 7 := by omega
              rcases this with rfl | rfl | rfl <;> rfl))
        refine ⟨vp_in_nI (by omega) (by omega), fun hx => ?_, fun hx => ?_⟩
        · rw [nI_clamp (by omega)]
          refine t118 0 ?_
          rcases hN with ⟨q1, _⟩ | ⟨_, _, q3⟩
          · exact absurd q1 hx
          · unfold cmx
            rw [nI_1, if_neg (Int32.not_lt.mpr ?_)]
            · simp
            · obtain ⟨c, hc, -, hc2, -⟩ := iv_nI (hcnt o) (by decide)
              rw [hc] at q3 ⊢
              have := (nI_ltI (by omega) (by omega)).mp q3
              exact nI_le (by omega) (by omega)
        · rw [nI_clamp (by omega)]
          refine t118 1 ?_
          rcases hN with ⟨_, q2⟩ | ⟨q1, _, _⟩
          · unfold cmx
            rw [q2, nI_1, if_pos (nI_lt (by omega) (by omega))]
          · exact absurd hx q1
      refine ⟨fun hx => ?_, fun hx => ⟨vp_in_nI (by omega) (by omega), ?_⟩⟩
      · rcases hN with ⟨q1, _⟩ | ⟨_, q2, _⟩
        · exact absurd q1 hx
        · have e : q_m_text_100 0 (M 0) sz (upd fl 0 (MXr M o).1) (upd fp 0 (MXr M o).2.1) (M 4) (M 5) (M 6) (M 7) (M 8) re (nI n) be so va wd wr lf lp td rd fh fs gd (nI o) x2 x2 post = q_m_text_100 0 (M 0) sz (upd fl 0 (MXr M o).1) (upd fp 0 (MXr M o).2.1) (M 4) (M 5) (M 6) (M 7) (M 8) re (nI n) be so va wd wr lf lp td rd fh fs gd (nI o) x2 (nI k) post := by rw [← q2]
          rw [e]
          exact t100
      · rw [nI_clamp (by omega)]
        rcases hN with ⟨_, q2⟩ | ⟨q1, _, _⟩
        · have e : q_m_text_100 0 (M 0) sz (upd fl 0 (MXr M o).1) (upd fp 0 (MXr M o).2.1) (M 4) (M 5) (M 6) (M 7) (M 8) re (nI n) be so va wd wr lf lp td rd fh fs gd (nI o) x2 (M 4 o) post = q_m_text_100 0 (M 0) sz (upd fl 0 (MXr M o).1) (upd fp 0 (MXr M o).2.1) (M 4) (M 5) (M 6) (M 7) (M 8) re (nI n) be so va wd wr lf lp td rd fh fs gd (nI o) x2 (nI k) post := by rw [← q2]
          rw [e]
          exact t100
        · exact absurd hx q1
  refine sp_in (fun h => iz (no ?_)) (fun h1 h2 => oi ?_)
  · rintro ⟨o, k, ho, _, e, _⟩
    rw [e] at h
    exact h ⟨nI_pos' (by omega), nI_le (b := 3) (by omega) (by omega)⟩
  · obtain ⟨o, ho, e⟩ := nI_of2 (M := 3) (n := 3) (by decide) (Int32.not_lt.mpr h1) h2
    obtain ⟨c, hc, -, hc2, -⟩ := iv_nI (hcnt o) (by decide)
    have noN : (∀ k, k < 2 → ¬ NUM (M 4 o) x2 k) → ¬ ∃ o k, o < 4 ∧ k < 2 ∧ x1 = nI o ∧ NUM (M 4 o) x2 k := by
      rintro hno ⟨o', k, ho', hk, e', hN⟩
      have : o = o' := (nI_eq (by omega) (by omega)).mp (e.symm.trans e')
      subst this
      exact hno k hk hN
    have hclo : Int32.toNatClampNeg x1 = o := by rw [e]; exact nI_clamp (by omega)
    have hin16 : vp_in x1 16 := by rw [e]; exact vp_in_nI (by omega) (by omega)
    refine ⟨fun hx => ⟨hin16, ?_⟩, fun hx => ⟨hin16, ?_⟩⟩
    · rw [hclo]
      refine sp_in (fun h => ⟨rfl, zi (no (noN ?_))⟩) (fun g1 g2 => ⟨rfl, io ?_⟩)
      · rintro k hk (⟨q1, _⟩ | ⟨_, q2, q3⟩)
        · exact hx q1
        · refine h ⟨?_, ?_⟩
          · rw [q2]; exact nI_pos' (by omega)
          · rw [q2, hc]
            rw [hc] at q3
            have := (nI_ltI (by omega) (by omega)).mp q3
            rw [show (1 : Int32) = nI 1 from rfl, pk_sub (by omega)]
            exact nI_le (by omega) (by omega)
      · rw [hc] at g2
        have h1c : 1 ≤ c := by
          by_cases hc0 : c = 0
          · exfalso
            rw [hc0] at g2
            have a := r_le g1
            have b := r_le g2
            have e0 : (0 : Int32).toInt = 0 := rfl
            have em : (nI 0 - 1 : Int32).toInt = -1 := by decide
            omega
          · omega
        rw [show (1 : Int32) = nI 1 from rfl, pk_sub h1c] at g2
        obtain ⟨k, hk, ek⟩ := nI_of2 (M := nI (c - 1)) (n := c - 1) (x := x2) (nI_toInt (by omega)) (Int32.not_lt.mpr g1) g2
        exact yes o k (by omega) (by omega) e (Or.inr ⟨hx, ek, by rw [hc]; exact nI_lt (by omega) (by omega)⟩)
    · rw [hclo]
      refine ⟨fun h => ?_, fun h => no (noN ?_)⟩
      · have hcl2 : c < 2 := by
          by_cases h9 : c = 2
          · exact absurd (by rw [hc, h9]; rfl) h
          · omega
        exact yes o c (by omega) hcl2 e (Or.inl ⟨hx, hc⟩)
      · rintro k hk (⟨_, q2⟩ | ⟨q1, _, _⟩)
        · rw [q2] at h
          have := (nI_eq (a := k) (b := 2) (by omega) (by omega)).mp h
          omega
        · exact q1 hx
end
section
/-- bytes of a number -/
def byt (v : Int32) (i : Nat) : Int32 := (Int32.toInt8 (v >>> (nI (24 - 8 * i) &&& 31))).toInt32
theorem sh_eq (v : Int32) (s : Int32) (k : Nat) (hk : k ≤ 24) (h1 : (s.toBitVec.smod 32).toNat = k) (h2 : ((s.toUInt32 &&& Int32.toUInt32 31).toBitVec % 32).toNat = k) : Int32.toInt8 ((Int32.toUInt32 v >>> (Int32.toUInt32 s &&& Int32.toUInt32 31)).toInt32) = Int32.toInt8 (v >>> s) := by
  apply Int8.toBitVec_inj.mp
  have e1 : ((Int32.toUInt32 v >>> (Int32.toUInt32 s &&& Int32.toUInt32 31)).toInt32).toBitVec = v.toBitVec >>> k := by
    have h3 : ((Int32.toUInt32 v >>> (Int32.toUInt32 s &&& Int32.toUInt32 31)).toInt32).toBitVec = v.toBitVec >>> ((s.toUInt32 &&& Int32.toUInt32 31).toBitVec % 32) := rfl
    rw [h3, BitVec.ushiftRight_eq', h2]
  have e2 : (v >>> s).toBitVec = v.toBitVec.sshiftRight k := by
    have h3 : (v >>> s).toBitVec = v.toBitVec.sshiftRight' (s.toBitVec.smod 32) := rfl
    rw [h3, BitVec.sshiftRight_eq', h1]
  show ((Int32.toUInt32 v >>> (Int32.toUInt32 s &&& Int32.toUInt32 31)).toInt32).toBitVec.signExtend 8 = (v >>> s).toBitVec.signExtend 8
  rw [e1, e2]
  apply BitVec.eq_of_getLsbD_eq
  intro i hi
  rw [BitVec.getLsbD_signExtend, BitVec.getLsbD_signExtend]
  have hi32 : i < 32 := by omega
  simp only [hi, hi32, decide_true, Bool.true_and, if_true]
  rw [BitVec.getLsbD_ushiftRight, BitVec.getLsbD_sshiftRight]
  have h4 : ¬ 32 ≤ i := by omega
  have h5 : k + i < 32 := by omega
  simp [h4, h5]
theorem byt_x (v : Int32) : ∀ i, i < 4 → (Int32.toInt8 ((Int32.toUInt32 v >>> (Int32.toUInt32 (nI (24 - 8 * i)) &&& Int32.toUInt32 31)).toInt32)).toInt32 = byt v i := by
  intro i hi
  have hc : i = 0 ∨ i = 1 ∨ i = 2 ∨ i = 3 := by omega
  unfold byt
  rcases hc with rfl | rfl | rfl | rfl
  · rw [sh_eq v (nI 24) 24 (by omega) (by decide) (by decide), show nI 24 &&& 31 = nI 24 by decide]
  · rw [sh_eq v (nI 16) 16 (by omega) (by decide) (by decide), show nI 16 &&& 31 = nI 16 by decide]
  · rw [sh_eq v (nI 8) 8 (by omega) (by decide) (by decide), show nI 8 &&& 31 = nI 8 by decide]
  · rw [sh_eq v (nI 0) 0 (by omega) (by decide) (by decide), show nI 0 &&& 31 = nI 0 by decide]
/-- four bytes come behind n -/
def B4 (t t' : Nat → Int32) (n : Nat) (v : Int32) : Prop := (∀ j, ¬ (n ≤ j ∧ j < n + 4) → t' j = t j) ∧ ∀ i, i < 4 → t' (n + i) = byt v i
theorem B4_of {t t1 t2 t3 t4 : Nat → Int32} {n : Nat} {v : Int32} (h1 : t1 = upd t n (byt v 0)) (h2 : t2 = upd t1 (n + 1) (byt v 1)) (h3 : t3 = upd t2 (n + 2) (byt v 2)) (h4 : t4 = upd t3 (n + 3) (byt v 3)) : B4 t t4 n v := by
  refine ⟨fun j hj => ?_, fun i hi => ?_⟩
  · rw [h4, up_n (by omega), h3, up_n (by omega), h2, up_n (by omega), h1, up_n (by omega)]
  · have hc : i = 0 ∨ i = 1 ∨ i = 2 ∨ i = 3 := by omega
    rcases hc with rfl | rfl | rfl | rfl
    · rw [h4, up_n (by omega), h3, up_n (by omega), h2, up_n (by omega), h1]; exact up_s
    · rw [h4, up_n (by omega), h3, up_n (by omega), h2]; exact up_s
    · rw [h4, up_n (by omega), h3]; exact up_s
    · rw [h4]; exact up_s
theorem e_put2 {t : Nat → Int32} {n : Nat} {v : Int32} {post : (Nat → Int32) → Int32 → Prop} (hn : n + 4 ≤ 600) (h : ∀ t', B4 t t' n v → post t' (nI (n + 4))) : q_wx_X9_put_0 t (nI n) v post := by
  intro P hP
  have st : ∀ (i : Nat) (x y : Int32) (t : Nat → Int32) (m : Nat), i < 4 → x = nI (24 - 8 * i) → ¬ x < 0 → y = x + -8 → m + 1 ≤ 600 → P y (upd t m (byt v i)) (nI (m + 1)) → P x t (nI m) := by
    intro i x y t m hi hx h1 h2 h3 h5
    apply hP
    refine ⟨fun h => absurd h h1, fun _ => ⟨fun h => absurd h (nI_ge (b := 600) (by omega) (by omega)), fun _ v1 e1 => ⟨vp_in_nI (by omega) (by omega), fun t1 e2 v2 e3 v3 e5 => ?_⟩⟩⟩
    rw [hx, byt_x v i hi] at e1
    rw [e1, nI_clamp (by omega)] at e2
    have e6 : vp_nar .byte (byt v i) = byt v i := pk_vb _
    rw [e6] at e2
    rw [e3, nI_1, e5, ← h2, e2]
    exact h5
  refine st 0 24 16 _ n (by omega) rfl (by decide) (by decide) (by omega) ?_
  refine st 1 16 8 _ (n + 1) (by omega) rfl (by decide) (by decide) (by omega) ?_
  refine st 2 8 0 _ (n + 2) (by omega) rfl (by decide) (by decide) (by omega) ?_
  refine st 3 0 (-8) _ (n + 3) (by omega) rfl (by decide) (by decide) (by omega) ?_
  apply hP
  exact ⟨fun _ => h _ (B4_of rfl rfl rfl rfl), fun h => absurd (by decide) h⟩
theorem e_four2 {t z : Nat → Int32} {n : Nat} {v : Int32} {post : (Nat → Int32) → (Nat → Int32) → Prop} (hs : z 0 = nI n) (hn : n + 4 ≤ 600) (h : ∀ t' z', B4 t t' n v → z' 0 = nI (n + 4) → (∀ j, ¬ j = 0 → z' j = z j) → post t' z') : q_m_four_0 t z v post := by
  intro P hP
  have st : ∀ (i : Nat) (x y : Int32) (t z : Nat → Int32) (m : Nat), i < 4 → x = nI (24 - 8 * i) → ¬ x < 0 → y = x + -8 → z 0 = nI m → m + 1 ≤ 600 → (∀ z', z' 0 = nI (m + 1) → (∀ j, ¬ j = 0 → z' j = z j) → P y (upd t m (byt v i)) z') → P x t z := by
    intro i x y t z m hi hx h1 h2 h3 h4 h5
    apply hP
    refine ⟨fun h => absurd h h1, fun _ v1 e1 => ?_⟩
    rw [c_0, h3]
    refine ⟨vp_in_nI (by omega) (by omega), fun t1 e2 v2 e3 z1 e4 v3 e5 => ?_⟩
    rw [hx] at e1
    rw [e1, nI_clamp (by omega)] at e2
    have e6 : vp_nar .byte (byt v i) = byt v i := pk_vb _
    have e7 : t1 = upd t m (byt v i) := by rw [e2]; exact congrArg _ e6
    rw [nI_1] at e3
    rw [e5, ← h2, e7]
    refine h5 z1 ?_ (fun j hj => ?_)
    · rw [e4, e3]; exact up_s
    · rw [e4]; exact up_n hj
  refine st 0 24 16 _ _ n (by omega) rfl (by decide) (by decide) hs (by omega) fun z1 a1 n1 => ?_
  refine st 1 16 8 _ _ (n + 1) (by omega) rfl (by decide) (by decide) a1 (by omega) fun z2 a2 n2 => ?_
  refine st 2 8 0 _ _ (n + 2) (by omega) rfl (by decide) (by decide) a2 (by omega) fun z3 a3 n3 => ?_
  refine st 3 0 (-8) _ _ (n + 3) (by omega) rfl (by decide) (by decide) a3 (by omega) fun z4 a4 n4 => ?_
  apply hP
  exact ⟨fun _ => h _ z4 (B4_of rfl rfl rfl rfl) a4 (fun j hj => by rw [n4 j hj, n3 j hj, n2 j hj, n1 j hj]), fun h => absurd (by decide) h⟩
/-- twenty bytes come behind n -/
def B20 (t t' : Nat → Int32) (n : Nat) (a b c d e : Int32) : Prop := ∃ t1 t2 t3 t4, B4 t t1 n a ∧ B4 t1 t2 (n + 4) b ∧ B4 t2 t3 (n + 4 + 4) c ∧ B4 t3 t4 (n + 4 + 4 + 4) d ∧ B4 t4 t' (n + 4 + 4 + 4 + 4) e
theorem B4_un {t u t' u' : Nat → Int32} {n m : Nat} {v : Int32} (hm : m ≤ n) (h : B4 t t' n v) (g : B4 u u' n v) (he : ∀ j, j < n → t j = u j) : ∀ j, j < n + 4 → t' j = u' j := by
  intro j hj
  by_cases hjn : j < n
  · rw [h.1 j (by omega), g.1 j (by omega)]; exact he j hjn
  · obtain ⟨i, hi⟩ : ∃ i, j = n + i := ⟨j - n, by omega⟩
    rw [hi, h.2 i (by omega), g.2 i (by omega)]
theorem B20_un {t u t' u' : Nat → Int32} {n : Nat} {a b c d e : Int32} (h : B20 t t' n a b c d e) (g : B20 u u' n a b c d e) (he : ∀ j, j < n → t j = u j) : ∀ j, j < n + 20 → t' j = u' j := by
  obtain ⟨t1, t2, t3, t4, h1, h2, h3, h4, h5⟩ := h
  obtain ⟨u1, u2, u3, u4, g1, g2, g3, g4, g5⟩ := g
  have k1 := B4_un (m := 0) (by omega) h1 g1 he
  have k2 := B4_un (m := 0) (by omega) h2 g2 k1
  have k3 := B4_un (m := 0) (by omega) h3 g3 k2
  have k4 := B4_un (m := 0) (by omega) h4 g4 k3
  have k5 := B4_un (m := 0) (by omega) h5 g5 k4
  exact fun j hj => k5 j (by omega)
theorem B20_out {t t' : Nat → Int32} {n : Nat} {a b c d e : Int32} (h : B20 t t' n a b c d e) : ∀ j, n + 20 ≤ j → t' j = t j := by
  obtain ⟨t1, t2, t3, t4, h1, h2, h3, h4, h5⟩ := h
  intro j hj
  rw [h5.1 j (by omega), h4.1 j (by omega), h3.1 j (by omega), h2.1 j (by omega), h1.1 j (by omega)]
theorem e_x_feed2 {t : Nat → Int32} {l x1 x2 x3 x4 x5 : Int32} {post : Int32 → (Nat → Int32) → Int32 → Prop} (hl : iv 0 600 l) (h0 : ¬ l + 20 ≤ 600 → post (-1) t l) (h1 : ∀ n, l = nI n → n + 20 ≤ 600 → ∀ t', B20 t t' n x1 x2 x3 x4 x5 → post (nI (n + 20)) t' (nI (n + 20))) : q_wx_X10_feed_0 t l x1 x2 x3 x4 x5 post := by
  obtain ⟨n, rfl, -, hn6, hn2⟩ := iv_nI hl (by omega)
  have hn : n ≤ 600 := by omega
  refine ⟨fun hc => ?_, fun hc => h0 hc⟩
  have hle := (e_len hn).mp hc
  refine e_put2 (by omega) fun t1 d1 => ?_
  refine e_put2 (n := n + 4) (by omega) fun t2 d2 => ?_
  refine e_put2 (n := n + 4 + 4) (by omega) fun t3 d3 => ?_
  refine e_put2 (n := n + 4 + 4 + 4) (by omega) fun t4 d4 => ?_
  refine e_put2 (n := n + 4 + 4 + 4 + 4) (by omega) fun t5 d5 => ?_
  exact h1 n rfl hle t5 ⟨t1, t2, t3, t4, d1, d2, d3, d4, d5⟩
theorem e_m_feed2 {f_code : Int32} {t z : Nat → Int32} {x1 x2 x3 x4 x5 : Int32} {post : Int32 → Int32 → (Nat → Int32) → (Nat → Int32) → Prop} (hz : iv 0 600 (z 0)) (h0 : ¬ z 0 + 20 ≤ 600 → post (-1) 0 t z) (h1 : ∀ n, z 0 = nI n → n + 20 ≤ 600 → ∀ t' z', B20 t t' n x1 x2 x3 x4 x5 → z' 0 = nI (n + 20) → (∀ j, ¬ j = 0 → z' j = z j) → post (nI (n + 20)) 0 t' z') : q_m_feed_0 f_code t z x1 x2 x3 x4 x5 post := by
  obtain ⟨n, hn, -, hn6, hn2⟩ := iv_nI hz (by omega)
  refine ⟨fun hc => ?_, fun hc => h0 (by rw [c_0] at hc; exact hc)⟩
  rw [c_0, hn] at hc
  have hle := (e_len (by omega)).mp hc
  refine e_four2 hn (by omega) fun t1 z1 d1 a1 n1 => ?_
  refine e_four2 a1 (by omega) fun t2 z2 d2 a2 n2 => ?_
  refine e_four2 a2 (by omega) fun t3 z3 d3 a3 n3 => ?_
  refine e_four2 a3 (by omega) fun t4 z4 d4 a4 n4 => ?_
  refine e_four2 a4 (by omega) fun t5 z5 d5 a5 n5 => ?_
  have g := h1 n hn hle t5 z5 ⟨t1, t2, t3, t4, d1, d2, d3, d4, d5⟩ a5 (fun j hj => by rw [n5 j hj, n4 j hj, n3 j hj, n2 j hj, n1 j hj])
  rw [c_0, a5]
  exact g
/-- the reference copies a slot to another -/
def wR (c : Nat) : Nat := [600, 1, 1, 1, 4, 264, 242, 62, 40].getD c 0
def rCP (a a' : Nat → Int32) (w f g : Nat) : Prop := (∀ i, i < w → a' (w * g + i) = a (w * f + i)) ∧ ∀ j, j < w * g ∨ w * g + w ≤ j → a' j = a j
def mCP (M M' : Nat → Nat → Int32) (f g : Nat) : Prop := ∀ c, c < 9 → rCP (M c) (M' c) (wR c) f g
theorem nar_b {x : Int32} (h : iv (-128) 127 x) : vp_nar .byte x = x := by
  rw [vp_nar_byte]
  apply Int32.toInt_inj.mp
  rw [Int8.toInt_toInt32, Int32.toInt_toInt8]
  have := h.1
  have := h.2
  exact Int.bmod_eq_of_le (by omega) (by omega)
theorem e_copyAll2 {M : Nat → Nat → Int32} {f g : Nat} {post : (Nat → Int32) → (Nat → Int32) → (Nat → Int32) → (Nat → Int32) → (Nat → Int32) → (Nat → Int32) → (Nat → Int32) → (Nat → Int32) → (Nat → Int32) → Prop} (hf : f ≤ 3) (hg : g ≤ 3) (hne : ¬ f = g) (ht : ∀ j, iv (-128) 127 (M 0 j)) (h : ∀ t z fa fp mn l e s c kp, mCP M (mmk t z fa fp mn l e s c kp) f g → post t z fa fp mn l e s c) : q_m_copyAll_0 (M 0) (M 1) (M 2) (M 3) (M 4) (M 5) (M 6) (M 7) (M 8) (nI f) (nI g) post := by
  intro P hP
  have ef : (600 : Int32) * nI f = nI (600 * f) := pk_mul 600 f
  have eg : (600 : Int32) * nI g = nI (600 * g) := pk_mul 600 g
  have loop : ∀ (n i : Nat) (t : Nat → Int32), n + i = 600 → (∀ j, j < i → t (600 * g + j) = M 0 (600 * f + j)) → (∀ j, j < 600 * g ∨ 600 * g + i ≤ j → t j = M 0 j) → P (nI i) t := by
    intro n
    induction n with
    | zero =>
      intro i t hi h1 h2
      apply hP
      refine ⟨fun _ => ?_, fun h2 => absurd (nI_le (a := 600) (by omega) (by omega)) h2⟩
      refine sp_row2E hf hg hne fun z' a1 a2 => sp_row3E hf hg hne fun _ b1 b2 => sp_row4E hf hg hne fun _ c1 c2 => sp_row5E hf hg hne fun m' d1 d2 => sp_row6E hf hg hne fun l' f1 f2 => sp_row7E hf hg hne fun e' g1 g2 => sp_row8E hf hg hne fun s' i1 i2 => sp_row9E hf hg hne fun c' j1 j2 => ?_
      refine h _ _ _ _ _ _ _ _ _ (fun _ => 0) (fun c hc => ?_)
      have hcc : c = 0 ∨ c = 1 ∨ c = 2 ∨ c = 3 ∨ c = 4 ∨ c = 5 ∨ c = 6 ∨ c = 7 ∨ c = 8 := by omega
      rcases hcc with rfl | rfl | rfl | rfl | rfl | rfl | rfl | rfl | rfl
      · exact ⟨fun j hj => h1 j (by have : wR 0 = 600 := rfl; omega), fun j hj => h2 j (by have hj2 : j < 600 * g ∨ 600 * g + 600 ≤ j := hj; omega)⟩
      · exact ⟨a1, a2⟩
      · exact ⟨b1, b2⟩
      · exact ⟨c1, c2⟩
      · exact ⟨d1, d2⟩
      · exact ⟨f1, f2⟩
      · exact ⟨g1, g2⟩
      · exact ⟨i1, i2⟩
      · exact ⟨j1, j2⟩
    | succ n ih =>
      intro i t hi h1 h2
      apply hP
      refine ⟨fun h2 => absurd h2 (nI_ge (b := 600) (by omega) (by omega)), fun _ => ?_⟩
      rw [ef, eg, nI_add, nI_add]
      refine ⟨vp_in_nI (by omega) (by omega), fun v1 ev => ⟨vp_in_nI (by omega) (by omega), fun t1 e1 v2 e2 => ?_⟩⟩
      rw [nI_clamp (by omega)] at ev e1
      have e3 : v1 = M 0 (600 * f + i) := by
        rw [ev]
        exact h2 _ (by omega)
      rw [e3, nar_b (ht _)] at e1
      rw [e2, nI_1, e1]
      refine ih (i + 1) _ (by omega) (fun j hj => ?_) (fun j hj => ?_)
      · by_cases hji : j = i
        · subst hji; exact up_s
        · rw [up_n (by omega)]; exact h1 j (by omega)
      · rw [up_n (by omega)]; exact h2 j (by omega)
  exact loop 600 0 (M 0) rfl (fun j hj => absurd hj (by omega)) (fun _ _ => rfl)
end
section
def tCP (T' T : TT) : Prop := (∀ i, i < 25 → T'.1 i = T.1 i) ∧ (∀ j, j < (T.1 0).toNatClampNeg → T'.2 0 j = T.2 0 j) ∧ (∀ j, j < 4 → T'.2 1 j = T.2 1 j) ∧ (∀ o k td, o < 4 → k < 2 → SL o k T td → SL o k T' td)
theorem cs_S0 {i : Nat} (h2 : i < 25) : i = 0 ∨ i = 1 ∨ i = 2 ∨ i = 3 ∨ i = 4 ∨ i = 5 ∨ i = 6 ∨ i = 7 ∨ i = 8 ∨ i = 9 ∨ i = 10 ∨ i = 11 ∨ i = 12 ∨ i = 13 ∨ i = 14 ∨ i = 15 ∨ i = 16 ∨ i = 17 ∨ i = 18 ∨ i = 19 ∨ i = 20 ∨ i = 21 ∨ i = 22 ∨ i = 23 ∨ i = 24 := by omega
set_option maxRecDepth 40000 in
set_option maxHeartbeats 4000000 in
theorem e_cp {f_length f_fault f_place l0f_huts l0f_singers l0f_villages l0f_dams l0f_echoes l0f_deep l0f_slide l1f_huts l1f_singers l1f_villages l1f_dams l1f_echoes l1f_deep l1f_slide v0f_deeds v1f_deeds s0f_facts s1f_facts c0f_voices c0f_step c1f_voices c1f_step : Int32} {a_tape a_counts l0a_heights l0a_ladders l0a_minutes l0a_echoFrom l0a_echoTo l0a_homes l0a_talls l0a_known l1a_heights l1a_ladders l1a_minutes l1a_echoFrom l1a_echoTo l1a_homes l1a_talls l1a_known v0a_kinds v0a_firsts v0a_seconds v1a_kinds v1a_firsts v1a_seconds s0a_heard s0a_huts s0a_minutes s1a_heard s1a_huts s1a_minutes c0a_parts c0a_heights c1a_parts c1a_heights : Nat → Int32} {of_length of_fault of_place ol0f_huts ol0f_singers ol0f_villages ol0f_dams ol0f_echoes ol0f_deep ol0f_slide ol1f_huts ol1f_singers ol1f_villages ol1f_dams ol1f_echoes ol1f_deep ol1f_slide ov0f_deeds ov1f_deeds os0f_facts os1f_facts oc0f_voices oc0f_step oc1f_voices oc1f_step : Int32} {oa_tape oa_counts ol0a_heights ol0a_ladders ol0a_minutes ol0a_echoFrom ol0a_echoTo ol0a_homes ol0a_talls ol0a_known ol1a_heights ol1a_ladders ol1a_minutes ol1a_echoFrom ol1a_echoTo ol1a_homes ol1a_talls ol1a_known ov0a_kinds ov0a_firsts ov0a_seconds ov1a_kinds ov1a_firsts ov1a_seconds os0a_heard os0a_huts os0a_minutes os1a_heard os1a_huts os1a_minutes oc0a_parts oc0a_heights oc1a_parts oc1a_heights : Nat → Int32} {post : (Nat → Int32) → (Int32) → (Int32) → (Int32) → (Nat → Int32) → (Int32) → (Int32) → (Int32) → (Int32) → (Int32) → (Int32) → (Int32) → (Nat → Int32) → (Nat → Int32) → (Nat → Int32) → (Nat → Int32) → (Nat → Int32) → (Nat → Int32) → (Nat → Int32) → (Nat → Int32) → (Int32) → (Int32) → (Int32) → (Int32) → (Int32) → (Int32) → (Int32) → (Nat → Int32) → (Nat → Int32) → (Nat → Int32) → (Nat → Int32) → (Nat → Int32) → (Nat → Int32) → (Nat → Int32) → (Nat → Int32) → (Int32) → (Nat → Int32) → (Nat → Int32) → (Nat → Int32) → (Int32) → (Nat → Int32) → (Nat → Int32) → (Nat → Int32) → (Int32) → (Nat → Int32) → (Nat → Int32) → (Nat → Int32) → (Int32) → (Nat → Int32) → (Nat → Int32) → (Nat → Int32) → (Int32) → (Int32) → (Nat → Int32) → (Nat → Int32) → (Int32) → (Int32) → (Nat → Int32) → (Nat → Int32) → Prop} (k_f_length : iv 0 600 of_length) (k_a_tape : ∀ j, iv (-128) 127 (oa_tape j)) (k_l0f_huts : iv 0 9 ol0f_huts) (k_l0f_singers : iv 0 6 ol0f_singers) (k_l0f_echoes : iv 0 4 ol0f_echoes) (k_v0f_deeds : iv 0 40 ov0f_deeds) (k_s0f_facts : iv 0 10 os0f_facts) (k_c0f_voices : iv 0 9 oc0f_voices) (k_l1f_huts : iv 0 9 ol1f_huts) (k_l1f_singers : iv 0 6 ol1f_singers) (k_l1f_echoes : iv 0 4 ol1f_echoes) (k_v1f_deeds : iv 0 40 ov1f_deeds) (k_s1f_facts : iv 0 10 os1f_facts) (k_c1f_voices : iv 0 9 oc1f_voices) (hp : ∀ (na_tape : Nat → Int32) (nf_length : Int32) (nf_fault : Int32) (nf_place : Int32) (na_counts : Nat → Int32) (nl0f_huts : Int32) (nl0f_singers : Int32) (nl0f_villages : Int32) (nl0f_dams : Int32) (nl0f_echoes : Int32) (nl0f_deep : Int32) (nl0f_slide : Int32) (nl0a_heights : Nat → Int32) (nl0a_ladders : Nat → Int32) (nl0a_minutes : Nat → Int32) (nl0a_echoFrom : Nat → Int32) (nl0a_echoTo : Nat → Int32) (nl0a_homes : Nat → Int32) (nl0a_talls : Nat → Int32) (nl0a_known : Nat → Int32) (nl1f_huts : Int32) (nl1f_singers : Int32) (nl1f_villages : Int32) (nl1f_dams : Int32) (nl1f_echoes : Int32) (nl1f_deep : Int32) (nl1f_slide : Int32) (nl1a_heights : Nat → Int32) (nl1a_ladders : Nat → Int32) (nl1a_minutes : Nat → Int32) (nl1a_echoFrom : Nat → Int32) (nl1a_echoTo : Nat → Int32) (nl1a_homes : Nat → Int32) (nl1a_talls : Nat → Int32) (nl1a_known : Nat → Int32) (nv0f_deeds : Int32) (nv0a_kinds : Nat → Int32) (nv0a_firsts : Nat → Int32) (nv0a_seconds : Nat → Int32) (nv1f_deeds : Int32) (nv1a_kinds : Nat → Int32) (nv1a_firsts : Nat → Int32) (nv1a_seconds : Nat → Int32) (ns0f_facts : Int32) (ns0a_heard : Nat → Int32) (ns0a_huts : Nat → Int32) (ns0a_minutes : Nat → Int32) (ns1f_facts : Int32) (ns1a_heard : Nat → Int32) (ns1a_huts : Nat → Int32) (ns1a_minutes : Nat → Int32) (nc0f_voices : Int32) (nc0f_step : Int32) (nc0a_parts : Nat → Int32) (nc0a_heights : Nat → Int32) (nc1f_voices : Int32) (nc1f_step : Int32) (nc1a_parts : Nat → Int32) (nc1a_heights : Nat → Int32), tCP (tmk na_tape nf_length nf_fault nf_place na_counts nl0f_huts nl0f_singers nl0f_villages nl0f_dams nl0f_echoes nl0f_deep nl0f_slide nl0a_heights nl0a_ladders nl0a_minutes nl0a_echoFrom nl0a_echoTo nl0a_homes nl0a_talls nl0a_known nl1f_huts nl1f_singers nl1f_villages nl1f_dams nl1f_echoes nl1f_deep nl1f_slide nl1a_heights nl1a_ladders nl1a_minutes nl1a_echoFrom nl1a_echoTo nl1a_homes nl1a_talls nl1a_known nv0f_deeds nv0a_kinds nv0a_firsts nv0a_seconds nv1f_deeds nv1a_kinds nv1a_firsts nv1a_seconds ns0f_facts ns0a_heard ns0a_huts ns0a_minutes ns1f_facts ns1a_heard ns1a_huts ns1a_minutes nc0f_voices nc0f_step nc0a_parts nc0a_heights nc1f_voices nc1f_step nc1a_parts nc1a_heights) (tmk oa_tape of_length of_fault of_place oa_counts ol0f_huts ol0f_singers ol0f_villages ol0f_dams ol0f_echoes ol0f_deep ol0f_slide ol0a_heights ol0a_ladders ol0a_minutes ol0a_echoFrom ol0a_echoTo ol0a_homes ol0a_talls ol0a_known ol1f_huts ol1f_singers ol1f_villages ol1f_dams ol1f_echoes ol1f_deep ol1f_slide ol1a_heights ol1a_ladders ol1a_minutes ol1a_echoFrom ol1a_echoTo ol1a_homes ol1a_talls ol1a_known ov0f_deeds ov0a_kinds ov0a_firsts ov0a_seconds ov1f_deeds ov1a_kinds ov1a_firsts ov1a_seconds os0f_facts os0a_heard os0a_huts os0a_minutes os1f_facts os1a_heard os1a_huts os1a_minutes oc0f_voices oc0f_step oc0a_parts oc0a_heights oc1f_voices oc1f_step oc1a_parts oc1a_heights) → post na_tape nf_length nf_fault nf_place na_counts nl0f_huts nl0f_singers nl0f_villages nl0f_dams nl0f_echoes nl0f_deep nl0f_slide nl0a_heights nl0a_ladders nl0a_minutes nl0a_echoFrom nl0a_echoTo nl0a_homes nl0a_talls nl0a_known nl1f_huts nl1f_singers nl1f_villages nl1f_dams nl1f_echoes nl1f_deep nl1f_slide nl1a_heights nl1a_ladders nl1a_minutes nl1a_echoFrom nl1a_echoTo nl1a_homes nl1a_talls nl1a_known nv0f_deeds nv0a_kinds nv0a_firsts nv0a_seconds nv1f_deeds nv1a_kinds nv1a_firsts nv1a_seconds ns0f_facts ns0a_heard ns0a_huts ns0a_minutes ns1f_facts ns1a_heard ns1a_huts ns1a_minutes nc0f_voices nc0f_step nc0a_parts nc0a_heights nc1f_voices nc1f_step nc1a_parts nc1a_heights) : q_wtt_X9_copyFrom_47_0 a_tape f_length f_fault f_place a_counts l0f_huts l0f_singers l0f_villages l0f_dams l0f_echoes l0f_deep l0f_slide l0a_heights l0a_ladders l0a_minutes l0a_echoFrom l0a_echoTo l0a_homes l0a_talls l0a_known l1f_huts l1f_singers l1f_villages l1f_dams l1f_echoes l1f_deep l1f_slide l1a_heights l1a_ladders l1a_minutes l1a_echoFrom l1a_echoTo l1a_homes l1a_talls l1a_known v0f_deeds v0a_kinds v0a_firsts v0a_seconds v1f_deeds v1a_kinds v1a_firsts v1a_seconds s0f_facts s0a_heard s0a_huts s0a_minutes s1f_facts s1a_heard s1a_huts s1a_minutes c0f_voices c0f_step c0a_parts c0a_heights c1f_voices c1f_step c1a_parts c1a_heights oa_tape of_length of_fault of_place oa_counts ol0f_huts ol0f_singers ol0f_villages ol0f_dams ol0f_echoes ol0f_deep ol0f_slide ol0a_heights ol0a_ladders ol0a_minutes ol0a_echoFrom ol0a_echoTo ol0a_homes ol0a_talls ol0a_known ol1f_huts ol1f_singers ol1f_villages ol1f_dams ol1f_echoes ol1f_deep ol1f_slide ol1a_heights ol1a_ladders ol1a_minutes ol1a_echoFrom ol1a_echoTo ol1a_homes ol1a_talls ol1a_known ov0f_deeds ov0a_kinds ov0a_firsts ov0a_seconds ov1f_deeds ov1a_kinds ov1a_firsts ov1a_seconds os0f_facts os0a_heard os0a_huts os0a_minutes os1f_facts os1a_heard os1a_huts os1a_minutes oc0f_voices oc0f_step oc0a_parts oc0a_heights oc1f_voices oc1f_step oc1a_parts oc1a_heights post := by
  have h0 : ¬ of_length < 0 := iv_nn k_f_length (by decide)
  have h1 : Int32.toNatClampNeg (0 : Int32) + Int32.toNatClampNeg of_length ≤ 600 := by rw [c_0, Nat.zero_add]; exact cl_le k_f_length (by decide)
  refine ⟨h0, h1, h1, fun i _ => iv_fitB (k_a_tape _), fun tp et cn en => ?_⟩
  intro P hP
  apply hP
  refine ⟨fun h => absurd h (by decide), fun _ => ⟨vp_in_nI (n := 0) (by decide) (by decide), fun _ => ?_, fun h => absurd rfl h⟩⟩
  refine e_ll (fun nl0a_heights nl0a_ladders nl0a_minutes nl0a_echoFrom nl0a_echoTo nl0a_homes nl0a_talls nl0a_known ql0a_heights ql0a_ladders ql0a_minutes ql0a_echoFrom ql0a_echoTo ql0a_homes ql0a_talls ql0a_known => ?_)
  refine e_vv k_v0f_deeds (fun nv0a_kinds nv0a_firsts nv0a_seconds qv0a_kinds qv0a_firsts qv0a_seconds => ?_)
  refine e_ss k_s0f_facts (fun ns0a_heard ns0a_huts ns0a_minutes qs0a_heard qs0a_huts qs0a_minutes => ?_)
  refine e_cc k_c0f_voices (fun nc0a_parts nc0a_heights qc0a_parts qc0a_heights v0 ev0 => ?_)
  have ev : v0 = 1 := ev0.trans (by decide)
  subst ev
  apply hP
  refine ⟨fun h => absurd h (by decide), fun _ => ⟨vp_in_nI (n := 1) (by decide) (by decide), fun h => absurd h (by decide), fun _ => ?_⟩⟩
  refine e_ll (fun nl1a_heights nl1a_ladders nl1a_minutes nl1a_echoFrom nl1a_echoTo nl1a_homes nl1a_talls nl1a_known ql1a_heights ql1a_ladders ql1a_minutes ql1a_echoFrom ql1a_echoTo ql1a_homes ql1a_talls ql1a_known => ?_)
  refine e_vv k_v1f_deeds (fun nv1a_kinds nv1a_firsts nv1a_seconds qv1a_kinds qv1a_firsts qv1a_seconds => ?_)
  refine e_ss k_s1f_facts (fun ns1a_heard ns1a_huts ns1a_minutes qs1a_heard qs1a_huts qs1a_minutes => ?_)
  refine e_cc k_c1f_voices (fun nc1a_parts nc1a_heights qc1a_parts qc1a_heights v1 ev1 => ?_)
  have ev : v1 = 2 := ev1.trans (by decide)
  subst ev
  apply hP
  refine ⟨fun _ => hp tp of_length of_fault of_place cn ol0f_huts ol0f_singers ol0f_villages ol0f_dams ol0f_echoes ol0f_deep ol0f_slide nl0a_heights nl0a_ladders nl0a_minutes nl0a_echoFrom nl0a_echoTo nl0a_homes nl0a_talls nl0a_known ol1f_huts ol1f_singers ol1f_villages ol1f_dams ol1f_echoes ol1f_deep ol1f_slide nl1a_heights nl1a_ladders nl1a_minutes nl1a_echoFrom nl1a_echoTo nl1a_homes nl1a_talls nl1a_known ov0f_deeds nv0a_kinds nv0a_firsts nv0a_seconds ov1f_deeds nv1a_kinds nv1a_firsts nv1a_seconds os0f_facts ns0a_heard ns0a_huts ns0a_minutes os1f_facts ns1a_heard ns1a_huts ns1a_minutes oc0f_voices oc0f_step nc0a_parts nc0a_heights oc1f_voices oc1f_step nc1a_parts nc1a_heights ⟨fun i hi => ?_, cpy0 et rfl, cpy0 en rfl, fun o k td ho hk hSL => ?_⟩, fun h => absurd (by decide) h⟩
  · rcases cs_S0 hi with rfl | rfl | rfl | rfl | rfl | rfl | rfl | rfl | rfl | rfl | rfl | rfl | rfl | rfl | rfl | rfl | rfl | rfl | rfl | rfl | rfl | rfl | rfl | rfl | rfl <;> rfl
  · have hoc : o = 0 ∨ o = 1 ∨ o = 2 ∨ o = 3 := by omega
    have hkc : k = 0 ∨ k = 1 := by omega
    rcases hoc with rfl | rfl | rfl | rfl <;> rcases hkc with rfl | rfl
    · have hR : LDR ol0f_huts ol0f_singers ol0f_villages ol0f_dams ol0f_echoes ol0f_deep ol0f_slide ol0a_heights ol0a_ladders ol0a_minutes ol0a_echoFrom ol0a_echoTo ol0a_homes ol0a_talls ol0a_known td := hSL
      exact LDR_cp hR (by rw [← hR.1]; exact cl_le k_l0f_huts (by decide)) (by rw [← hR.2.1]; exact cl_le k_l0f_singers (by decide)) (by rw [← hR.2.2.2.2.1]; exact cl_le k_l0f_echoes (by decide)) ql0a_heights ql0a_ladders ql0a_minutes ql0a_echoFrom ql0a_echoTo ql0a_homes ql0a_talls ql0a_known
    · have hR : LDR ol1f_huts ol1f_singers ol1f_villages ol1f_dams ol1f_echoes ol1f_deep ol1f_slide ol1a_heights ol1a_ladders ol1a_minutes ol1a_echoFrom ol1a_echoTo ol1a_homes ol1a_talls ol1a_known td := hSL
      exact LDR_cp hR (by rw [← hR.1]; exact cl_le k_l1f_huts (by decide)) (by rw [← hR.2.1]; exact cl_le k_l1f_singers (by decide)) (by rw [← hR.2.2.2.2.1]; exact cl_le k_l1f_echoes (by decide)) ql1a_heights ql1a_ladders ql1a_minutes ql1a_echoFrom ql1a_echoTo ql1a_homes ql1a_talls ql1a_known
    · have hR : R3 ov0f_deeds ov0a_kinds ov0a_firsts ov0a_seconds td := hSL
      exact R3_cp hR qv0a_kinds qv0a_firsts qv0a_seconds
    · have hR : R3 ov1f_deeds ov1a_kinds ov1a_firsts ov1a_seconds td := hSL
      exact R3_cp hR qv1a_kinds qv1a_firsts qv1a_seconds
    · have hR : R3 os0f_facts os0a_heard os0a_huts os0a_minutes td := hSL
      exact R3_cp hR qs0a_heard qs0a_huts qs0a_minutes
    · have hR : R3 os1f_facts os1a_heard os1a_huts os1a_minutes td := hSL
      exact R3_cp hR qs1a_heard qs1a_huts qs1a_minutes
    · have hR : CDR oc0f_voices oc0f_step oc0a_parts oc0a_heights td := hSL
      exact CDR_cp hR qc0a_parts qc0a_heights
    · have hR : CDR oc1f_voices oc1f_step oc1a_parts oc1a_heights td := hSL
      exact CDR_cp hR qc1a_parts qc1a_heights
end
section
def tB (T : TT) : Prop := iv 0 600 (T.1 0) ∧ (∀ j, iv (-128) 127 (T.2 0 j)) ∧ (∀ j, iv 0 2 (T.2 1 j)) ∧ iv 0 9 (T.1 3) ∧ iv 0 6 (T.1 4) ∧ iv 0 4 (T.1 7) ∧ iv 0 40 (T.1 17) ∧ iv 0 10 (T.1 19) ∧ iv 0 9 (T.1 21) ∧ iv 0 9 (T.1 10) ∧ iv 0 6 (T.1 11) ∧ iv 0 4 (T.1 14) ∧ iv 0 40 (T.1 18) ∧ iv 0 10 (T.1 20) ∧ iv 0 9 (T.1 23)
theorem tB_of {T : TT} (hT : tJ T) : tB T := ⟨hT.1 0, hT.2 0, hT.2 1, hT.1 3, hT.1 4, hT.1 7, hT.1 17, hT.1 19, hT.1 21, hT.1 10, hT.1 11, hT.1 14, hT.1 18, hT.1 20, hT.1 23⟩
theorem LDR_ext {huts singers villages dams echoes deep slide : Int32} {heights ladders minutes echoFrom echoTo homes talls known td td' : Nat → Int32} (h : LDR huts singers villages dams echoes deep slide heights ladders minutes echoFrom echoTo homes talls known td) (b0 : huts.toNatClampNeg ≤ 9) (b1 : singers.toNatClampNeg ≤ 6) (b4 : echoes.toNatClampNeg ≤ 4) (e : ∀ j, j < 132 → td j = td' j) : LDR huts singers villages dams echoes deep slide heights ladders minutes echoFrom echoTo homes talls known td' := by
  obtain ⟨e0, e1, e2, e3, e4, e5, e6, f1, f2, f3, f4, f5, f6⟩ := h
  rw [e0] at b0
  rw [e1] at b1
  rw [e4] at b4
  refine ⟨e0.trans (e 0 (by omega)), e1.trans (e 1 (by omega)), e2.trans (e 2 (by omega)), e3.trans (e 3 (by omega)), e4.trans (e 4 (by omega)), e5.trans (e 5 (by omega)), e6.trans (e 6 (by omega)), fun j hj => ?_, fun j hj => ?_, fun j hj => ?_, fun j hj => ?_, fun j hj => ?_, fun j hj => ?_⟩
  · rw [← e 0 (by omega)] at hj
    exact (f1 j hj).trans (e _ (by omega))
  · exact (f2 j hj).trans (e _ (by omega))
  · exact (f3 j hj).trans (e _ (by omega))
  · rw [← e 4 (by omega)] at hj
    exact ⟨(f4 j hj).1.trans (e _ (by omega)), (f4 j hj).2.trans (e _ (by omega))⟩
  · rw [← e 1 (by omega)] at hj
    exact ⟨(f5 j hj).1.trans (e _ (by omega)), (f5 j hj).2.trans (e _ (by omega))⟩
  · exact (f6 j hj).trans (e _ (by omega))
theorem R3_ext {c : Int32} {a b d td td' : Nat → Int32} {m w : Nat} (h : R3 c a b d td) (hc : c.toNatClampNeg ≤ m) (hm : 3 * m < w) (e : ∀ j, j < w → td j = td' j) : R3 c a b d td' := by
  have hc2 := hc
  rw [h.1] at hc2
  refine ⟨h.1.trans (e 0 (by omega)), fun j hj => ?_⟩
  rw [← e 0 (by omega)] at hj
  exact ⟨(h.2 j hj).1.trans (e _ (by omega)), (h.2 j hj).2.1.trans (e _ (by omega)), (h.2 j hj).2.2.trans (e _ (by omega))⟩
theorem CDR_ext {c st : Int32} {a b td td' : Nat → Int32} (h : CDR c st a b td) (hc : c.toNatClampNeg ≤ 9) (e : ∀ j, j < 20 → td j = td' j) : CDR c st a b td' := by
  have hc2 := hc
  rw [h.1] at hc2
  refine ⟨h.1.trans (e 0 (by omega)), h.2.1.trans (e 19 (by omega)), fun j hj => ?_⟩
  rw [← e 0 (by omega)] at hj
  exact ⟨(h.2.2 j hj).1.trans (e _ (by omega)), (h.2.2 j hj).2.trans (e _ (by omega))⟩
theorem SL_ext {o k : Nat} {T : TT} {td td' : Nat → Int32} (ho : o < 4) (hk : k < 2) (hB : tB T) (e : ∀ j, j < wD o → td j = td' j) (h : SL o k T td) : SL o k T td' := by
  have hoc : o = 0 ∨ o = 1 ∨ o = 2 ∨ o = 3 := by omega
  have hkc : k = 0 ∨ k = 1 := by omega
  rcases hoc with rfl | rfl | rfl | rfl <;> rcases hkc with rfl | rfl
  · exact LDR_ext h (cl_le (hB.2.2.2.1) (by decide)) (cl_le (hB.2.2.2.2.1) (by decide)) (cl_le (hB.2.2.2.2.2.1) (by decide)) e
  · exact LDR_ext h (cl_le (hB.2.2.2.2.2.2.2.2.2.1) (by decide)) (cl_le (hB.2.2.2.2.2.2.2.2.2.2.1) (by decide)) (cl_le (hB.2.2.2.2.2.2.2.2.2.2.2.1) (by decide)) e
  · exact R3_ext (m := 40) (w := 121) h (cl_le (hB.2.2.2.2.2.2.1) (by decide)) (by decide) e
  · exact R3_ext (m := 40) (w := 121) h (cl_le (hB.2.2.2.2.2.2.2.2.2.2.2.2.1) (by decide)) (by decide) e
  · exact R3_ext (m := 10) (w := 31) h (cl_le (hB.2.2.2.2.2.2.2.1) (by decide)) (by decide) e
  · exact R3_ext (m := 10) (w := 31) h (cl_le (hB.2.2.2.2.2.2.2.2.2.2.2.2.2.1) (by decide)) (by decide) e
  · exact CDR_ext h (cl_le (hB.2.2.2.2.2.2.2.2.1) (by decide)) e
  · exact CDR_ext h (cl_le (hB.2.2.2.2.2.2.2.2.2.2.2.2.2.2) (by decide)) e
/-- slot s of the reference's rows is as a told state of the class -/
def TM (T : TT) (M : Nat → Nat → Int32) (s : Nat) : Prop := M 1 s = T.1 0 ∧ (∀ j, j < (T.1 0).toNatClampNeg → M 0 (600 * s + j) = T.2 0 j) ∧ M 2 s = T.1 1 ∧ M 3 s = T.1 2 ∧ (∀ o, o < 4 → M 4 (4 * s + o) = T.2 1 o) ∧ (∀ o k, o < 4 → k < 2 → nI k < T.2 1 o → SL o k T (fun j => M (5 + o) (2 * wD o * s + wD o * k + j)))
theorem wD_R : ∀ o, o < 4 → wR (5 + o) = 2 * wD o := by decide
theorem TM_mv {T : TT} {M M' : Nat → Nat → Int32} {s s' : Nat} (hB : tB T) (h : ∀ c, c < 9 → ∀ i, i < wR c → M' c (wR c * s' + i) = M c (wR c * s + i)) (hT : TM T M s) : TM T M' s' := by
  obtain ⟨h1, h2, h3, h4, h5, h6⟩ := hT
  have one : ∀ c, (c = 1 ∨ c = 2 ∨ c = 3) → M' c s' = M c s := by
    intro c hc
    have hw : wR c = 1 := by rcases hc with rfl | rfl | rfl <;> rfl
    have g := h c (by omega) 0 (by omega)
    rw [hw, Nat.one_mul, Nat.one_mul, Nat.add_zero, Nat.add_zero] at g
    exact g
  refine ⟨(one 1 (by omega)).trans h1, fun j hj => ?_, (one 2 (by omega)).trans h3, (one 3 (by omega)).trans h4, fun o ho => (h 4 (by omega) o ho).trans (h5 o ho), fun o k ho hk hl => ?_⟩
  · have hle : (T.1 0).toNatClampNeg ≤ 600 := cl_le hB.1 (by decide)
    exact (h 0 (by omega) j (by have : wR 0 = 600 := rfl; omega)).trans (h2 j hj)
  · refine SL_ext ho hk hB (fun j hj => ?_) (h6 o k ho hk hl)
    have hw := wD_R o ho
    have hkw : wD o * k + j < 2 * wD o := by
      have hkc : k = 0 ∨ k = 1 := by omega
      rcases hkc with rfl | rfl
      · rw [Nat.mul_zero]; omega
      · rw [Nat.mul_one]; omega
    have g := h (5 + o) (by omega) (wD o * k + j) (by rw [hw]; exact hkw)
    rw [hw] at g
    show M (5 + o) (2 * wD o * s + wD o * k + j) = M' (5 + o) (2 * wD o * s' + wD o * k + j)
    rw [Nat.add_assoc, Nat.add_assoc]
    exact g.symm
theorem TM_cp {T T' : TT} {M : Nat → Nat → Int32} {s : Nat} (hc : tCP T' T) (hT : TM T M s) : TM T' M s := by
  obtain ⟨h1, h2, h3, h4, h5, h6⟩ := hT
  obtain ⟨c1, c2, c3, c4⟩ := hc
  refine ⟨h1.trans (c1 0 (by omega)).symm, fun j hj => ?_, h3.trans (c1 1 (by omega)).symm, h4.trans (c1 2 (by omega)).symm, fun o ho => (h5 o ho).trans (c3 o ho).symm, fun o k ho hk hl => c4 o k _ ho hk (h6 o k ho hk (by rw [← c3 o ho]; exact hl))⟩
  rw [c1 0 (by omega)] at hj
  exact (h2 j hj).trans (c2 j hj).symm
/-- the relation that all calls keep -/
def RF (T : TT) (M : Nat → Nat → Int32) (I : Nat → TT) (mi : Nat → Option Nat) : Prop := TM T M 0 ∧ ∀ j, j < 3 → (mi j = none ↔ M 9 j = 0) ∧ (¬ mi j = none → TM (I j) M (j + 1))
theorem mCP_out {M M' : Nat → Nat → Int32} {f g s : Nat} (h : mCP M M' f g) (hs : ¬ s = g) : ∀ c, c < 9 → ∀ i, i < wR c → M' c (wR c * s + i) = M c (wR c * s + i) := by
  intro c hc i hi
  refine (h c hc).2 _ ?_
  rcases Nat.lt_or_ge s g with hl | hl
  · left
    have : wR c * (s + 1) ≤ wR c * g := Nat.mul_le_mul_left _ hl
    rw [Nat.mul_succ] at this
    omega
  · right
    have hl2 : g + 1 ≤ s := by omega
    have : wR c * (g + 1) ≤ wR c * s := Nat.mul_le_mul_left _ hl2
    rw [Nat.mul_succ] at this
    omega
end
section
def tBI (I : Nat → TT) (mi : Nat → Option Nat) : Prop := ∀ j, j < 3 → ¬ mi j = none → tB (I j)
/-- what feed and end do -/
def xSA (T T' : TT) : Prop := (∀ i, 1 ≤ i → i < 25 → T'.1 i = T.1 i) ∧ (∀ i, 1 ≤ i → i < 34 → T'.2 i = T.2 i)
def xFD (T T' : TT) (a b c d e r : Int32) : Prop := xSA T T' ∧ (¬ T.1 0 + 20 ≤ 600 → r = -1 ∧ T'.1 0 = T.1 0 ∧ T'.2 0 = T.2 0) ∧ (∀ n, T.1 0 = nI n → n + 20 ≤ 600 → r = nI (n + 20) ∧ T'.1 0 = nI (n + 20) ∧ B20 (T.2 0) (T'.2 0) n a b c d e)
def mSA (M M' : Nat → Nat → Int32) : Prop := (∀ i, 2 ≤ i → i < 10 → M' i = M i) ∧ (∀ j, ¬ j = 0 → M' 1 j = M 1 j)
def mFD (M M' : Nat → Nat → Int32) (a b c d e r : Int32) : Prop := mSA M M' ∧ (¬ M 1 0 + 20 ≤ 600 → r = -1 ∧ M' 1 0 = M 1 0 ∧ M' 0 = M 0) ∧ (∀ n, M 1 0 = nI n → n + 20 ≤ 600 → r = nI (n + 20) ∧ M' 1 0 = nI (n + 20) ∧ B20 (M 0) (M' 0) n a b c d e)
def xEN (T T' : TT) (a r : Int32) : Prop := xSA T T' ∧ T'.2 0 = T.2 0 ∧ r = enR (T.1 0) a ∧ T'.1 0 = enL (T.1 0) a
def mEN (M M' : Nat → Nat → Int32) (a r : Int32) : Prop := mSA M M' ∧ M' 0 = M 0 ∧ r = enR (M 1 0) a ∧ M' 1 0 = enL (M 1 0) a
theorem TM_sa {T T' : TT} {M M' : Nat → Nat → Int32} (h : TM T M 0) (hx : xSA T T') (hm : mSA M M') (hl : M' 1 0 = T'.1 0) (ht : ∀ j, j < (T'.1 0).toNatClampNeg → M' 0 j = T'.2 0 j) : TM T' M' 0 := by
  obtain ⟨h1, h2, h3, h4, h5, h6⟩ := h
  refine ⟨hl, fun j hj => ?_, ?_, ?_, fun o ho => ?_, fun o k ho hk hlt => ?_⟩
  · rw [Nat.mul_zero, Nat.zero_add]; exact ht j hj
  · rw [hm.1 2 (by omega) (by omega), hx.1 1 (by omega) (by omega)]; exact h3
  · rw [hm.1 3 (by omega) (by omega), hx.1 2 (by omega) (by omega)]; exact h4
  · rw [hm.1 4 (by omega) (by omega), hx.2 1 (by omega) (by omega)]; exact h5 o ho
  · rw [hx.2 1 (by omega) (by omega)] at hlt
    rw [hm.1 (5 + o) (by omega) (by omega)]
    have hz : ∀ o, o < 4 → ∀ k, k < 2 → ∀ i, i < 25 → slS o k i = true → 1 ≤ i := by decide
    have hz2 : ∀ o, o < 4 → ∀ k, k < 2 → ∀ i, i < 34 → slA o k i = true → 1 ≤ i := by decide
    exact SL_same ho hk (fun i hi hs => hx.1 i (hz o ho k hk i hi hs) hi) (fun i hi hs => hx.2 i (hz2 o ho k hk i hi hs) hi) (h6 o k ho hk hlt)
theorem TM_im {T : TT} {M M' : Nat → Nat → Int32} {s : Nat} (hB : tB T) (hs : 1 ≤ s) (hm : mSA M M') (ht : ∀ j, 600 ≤ j → M' 0 j = M 0 j) (h : TM T M s) : TM T M' s := by
  refine TM_mv hB (fun c hc i hi => ?_) h
  have hcc : c = 0 ∨ c = 1 ∨ 2 ≤ c := by omega
  rcases hcc with rfl | rfl | hc2
  · exact ht _ (by have : wR 0 = 600 := rfl; rw [this]; omega)
  · exact hm.2 _ (by have : wR 1 = 1 := rfl; rw [this]; omega)
  · rw [hm.1 c hc2 (by omega)]
theorem RF_sa {T T' : TT} {M M' : Nat → Nat → Int32} {I : Nat → TT} {mi : Nat → Option Nat} (h : RF T M I mi) (hI : tBI I mi) (hm : mSA M M') (ht : ∀ j, 600 ≤ j → M' 0 j = M 0 j) (h0 : TM T' M' 0) : RF T' M' I mi := by
  refine ⟨h0, fun j hj => ⟨?_, fun hn => ?_⟩⟩
  · rw [hm.1 9 (by omega) (by omega)]; exact (h.2 j hj).1
  · exact TM_im (hI j hj hn) (by omega) hm ht ((h.2 j hj).2 hn)
theorem RF_fd {T T' : TT} {M M' : Nat → Nat → Int32} {I : Nat → TT} {mi : Nat → Option Nat} {a b c d e r1 r2 : Int32} (h : RF T M I mi) (hB : tB T) (hI : tBI I mi) (h1 : xFD T T' a b c d e r1) (h2 : mFD M M' a b c d e r2) : r1 = r2 ∧ RF T' M' I mi := by
  obtain ⟨hx, x0, x1⟩ := h1
  obtain ⟨hm, m0, m1⟩ := h2
  have hl := h.1.1
  obtain ⟨n, hn, -, hn6, -⟩ := iv_nI hB.1 (by decide)
  have hcl : (T.1 0).toNatClampNeg = n := by rw [hn]; exact nI_clamp (by omega)
  have ht0 : ∀ j, j < n → M 0 j = T.2 0 j := fun j hj => by
    have g := h.1.2.1 j (by rw [hcl]; exact hj)
    rw [Nat.mul_zero, Nat.zero_add] at g
    exact g
  by_cases hc : T.1 0 + 20 ≤ 600
  · have hle : n + 20 ≤ 600 := by rw [hn] at hc; exact (e_len (by omega)).mp hc
    obtain ⟨a1, a2, a3⟩ := x1 n hn hle
    obtain ⟨b1, b2, b3⟩ := m1 n (hl.trans hn) hle
    refine ⟨a1.trans b1.symm, RF_sa h hI hm (fun j hj => B20_out b3 j (by omega)) (TM_sa h.1 hx hm (b2.trans a2.symm) (fun j hj => ?_))⟩
    rw [a2, nI_clamp (by omega)] at hj
    exact B20_un b3 a3 ht0 j hj
  · obtain ⟨a1, a2, a3⟩ := x0 hc
    obtain ⟨b1, b2, b3⟩ := m0 (by rw [hl]; exact hc)
    refine ⟨a1.trans b1.symm, RF_sa h hI hm (fun j hj => by rw [b3]) (TM_sa h.1 hx hm (b2.trans (hl.trans a2.symm)) (fun j hj => ?_))⟩
    rw [a2, hcl] at hj
    rw [b3, a3]
    exact ht0 j hj
theorem RF_en {T T' : TT} {M M' : Nat → Nat → Int32} {I : Nat → TT} {mi : Nat → Option Nat} {a r1 r2 : Int32} (h : RF T M I mi) (hB : tB T) (hI : tBI I mi) (h1 : xEN T T' a r1) (h2 : mEN M M' a r2) : r1 = r2 ∧ RF T' M' I mi := by
  obtain ⟨hx, x1, x2, x3⟩ := h1
  obtain ⟨hm, m1, m2, m3⟩ := h2
  have hl := h.1.1
  refine ⟨by rw [x2, m2, hl], RF_sa h hI hm (fun j hj => by rw [m1]) (TM_sa h.1 hx hm (by rw [x3, m3, hl]) (fun j hj => ?_))⟩
  have hle : (T'.1 0).toNatClampNeg ≤ (T.1 0).toNatClampNeg := by
    rw [x3]
    unfold enL
    by_cases hc : 0 ≤ a ∧ a ≤ T.1 0
    · rw [if_pos hc]
      have := r_le hc.2
      have e1 : a.toNatClampNeg = a.toInt.toNat := rfl
      have e2 : (T.1 0).toNatClampNeg = (T.1 0).toInt.toNat := rfl
      omega
    · rw [if_neg hc]; exact Nat.le_refl _
  have g := h.1.2.1 j (by omega)
  rw [Nat.mul_zero, Nat.zero_add] at g
  rw [m1, x1]
  exact g
/-- images -/
def xIM (mi mi' : Nat → Option Nat) (I I' : Nat → TT) (T : TT) (a r : Int32) : Prop := (¬ imJ a → r = 0 ∧ mi' = mi ∧ I' = I) ∧ (∀ k, k < 3 → a = nI k → r = 1 ∧ ¬ mi' k = none ∧ (∀ j, ¬ j = k → mi' j = mi j ∧ I' j = I j) ∧ tCP (I' k) T)
def xAG (mi : Nat → Option Nat) (I : Nat → TT) (T T' : TT) (a r : Int32) : Prop := (¬ (∃ k, k < 3 ∧ a = nI k ∧ ¬ mi k = none) → r = 0 ∧ T' = T) ∧ (∀ k, k < 3 → a = nI k → ¬ mi k = none → r = 1 ∧ tCP T' (I k))
def mIM (M M' : Nat → Nat → Int32) (a r : Int32) : Prop := (¬ imJ a → r = 0 ∧ ∀ i, i < 10 → M' i = M i) ∧ (∀ k, k < 3 → a = nI k → r = 1 ∧ mCP M M' 0 (k + 1) ∧ M' 9 k = 1 ∧ ∀ j, ¬ j = k → M' 9 j = M 9 j)
def mAG (M M' : Nat → Nat → Int32) (a r : Int32) : Prop := (¬ (∃ k, k < 3 ∧ a = nI k ∧ ¬ M 9 k = 0) → r = 0 ∧ ∀ i, i < 10 → M' i = M i) ∧ (∀ k, k < 3 → a = nI k → ¬ M 9 k = 0 → r = 1 ∧ mCP M M' (k + 1) 0 ∧ M' 9 = M 9)
theorem TM_eq {T : TT} {M M' : Nat → Nat → Int32} {s : Nat} (hB : tB T) (h : ∀ i, i < 10 → M' i = M i) (hT : TM T M s) : TM T M' s := TM_mv hB (fun c hc i _ => by rw [h c (by omega)]) hT
theorem RF_im {T : TT} {M M' : Nat → Nat → Int32} {I I' : Nat → TT} {mi mi' : Nat → Option Nat} {a r1 r2 : Int32} (h : RF T M I mi) (hB : tB T) (hI : tBI I mi) (h1 : xIM mi mi' I I' T a r1) (h2 : mIM M M' a r2) : r1 = r2 ∧ RF T M' I' mi' := by
  by_cases hj : imJ a
  rotate_left
  · obtain ⟨e1, rfl, rfl⟩ := h1.1 hj
    obtain ⟨e2, m1⟩ := h2.1 hj
    refine ⟨by rw [e1, e2], TM_eq hB m1 h.1, fun j hj => ⟨?_, fun hn => TM_eq (hI j hj hn) m1 ((h.2 j hj).2 hn)⟩⟩
    rw [m1 9 (by omega)]; exact (h.2 j hj).1
  · obtain ⟨k, hk, rfl⟩ := imJ_nI.mp hj
    obtain ⟨e1, a2, a3, a4⟩ := h1.2 k hk rfl
    obtain ⟨e2, b1, b3, b4⟩ := h2.2 k hk rfl
    refine ⟨by rw [e1, e2], TM_mv hB (mCP_out b1 (by omega)) h.1, fun j hj => ?_⟩
    by_cases hjk : j = k
    · subst hjk
      refine ⟨⟨fun h9 => absurd h9 a2, fun h9 => absurd (b3.symm.trans h9) (by decide)⟩, fun _ => TM_cp a4 (TM_mv hB (fun c hc i hi => (b1 c hc).1 i hi) h.1)⟩
    · rw [(a3 j hjk).1, (a3 j hjk).2, b4 j hjk]
      exact ⟨(h.2 j hj).1, fun hn => TM_mv (hI j hj hn) (mCP_out b1 (by omega)) ((h.2 j hj).2 hn)⟩
theorem RF_ag {T T' : TT} {M M' : Nat → Nat → Int32} {I : Nat → TT} {mi : Nat → Option Nat} {a r1 r2 : Int32} (h : RF T M I mi) (hB : tB T) (hI : tBI I mi) (h1 : xAG mi I T T' a r1) (h2 : mAG M M' a r2) : r1 = r2 ∧ RF T' M' I mi := by
  by_cases hj : ∃ k, k < 3 ∧ a = nI k ∧ ¬ mi k = none
  · obtain ⟨k, hk, e, hm⟩ := hj
    obtain ⟨e1, a1⟩ := h1.2 k hk e hm
    obtain ⟨e2, b1, b2⟩ := h2.2 k hk e (fun h9 => hm ((h.2 k hk).1.mpr h9))
    refine ⟨by rw [e1, e2], TM_cp a1 (TM_mv (hI k hk hm) (fun c hc i hi => (b1 c hc).1 i hi) ((h.2 k hk).2 hm)), fun j hj => ?_⟩
    rw [b2]
    exact ⟨(h.2 j hj).1, fun hn => TM_mv (hI j hj hn) (mCP_out b1 (by omega)) ((h.2 j hj).2 hn)⟩
  · obtain ⟨e1, rfl⟩ := h1.1 hj
    obtain ⟨e2, m1⟩ := h2.1 (fun ⟨k, hk, e, h9⟩ => hj ⟨k, hk, e, fun h8 => h9 ((h.2 k hk).1.mp h8)⟩)
    refine ⟨by rw [e1, e2], TM_eq hB m1 h.1, fun j hj => ⟨?_, fun hn => TM_eq (hI j hj hn) m1 ((h.2 j hj).2 hn)⟩⟩
    rw [m1 9 (by omega)]; exact (h.2 j hj).1
/-- texts -/
theorem TX_eq {T : TT} {M : Nat → Nat → Int32} (h : TM T M 0) (o : Nat) : MXr M o = TXr T o := by
  unfold MXr TXr
  rw [h.1]
  have e : nB (M 0) (T.1 0).toNatClampNeg = nB (T.2 0) (T.1 0).toNatClampNeg := by
    funext j
    unfold nB
    by_cases hj : j < (T.1 0).toNatClampNeg
    · rw [if_pos hj, if_pos hj]
      have g := h.2.1 j hj
      rw [Nat.mul_zero, Nat.zero_add] at g
      exact g
    · rw [if_neg hj, if_neg hj]
  rw [e]
theorem sl_neS : ((List.range 4).all fun o => (List.range 2).all fun k => (List.range 4).all fun o' => (List.range 2).all fun k' => (List.range 25).all fun i => (o == o' && k == k') || !slS o' k' i || (decide (3 ≤ i) && !slS o k i)) = true := by decide +kernel
theorem sl_neA : ((List.range 4).all fun o => (List.range 2).all fun k => (List.range 4).all fun o' => (List.range 2).all fun k' => (List.range 34).all fun i => (o == o' && k == k') || !slA o' k' i || (decide (2 ≤ i) && !slA o k i)) = true := by decide +kernel
theorem sl_ne (o : Nat) (ho : o < 4) (k : Nat) (hk : k < 2) (o' : Nat) (ho' : o' < 4) (k' : Nat) (hk' : k' < 2) (hn : ¬ (o = o' ∧ k = k')) : (∀ i, i < 25 → slS o' k' i = true → 3 ≤ i ∧ ¬ slS o k i = true) ∧ (∀ i, i < 34 → slA o' k' i = true → 2 ≤ i ∧ ¬ slA o k i = true) := by
  have rg : ∀ {n : Nat} {p : Nat → Bool}, (List.range n).all p = true → ∀ x, x < n → p x = true := fun h x hx => List.all_eq_true.mp h x (List.mem_range.mpr hx)
  refine ⟨fun i hi hs => ?_, fun i hi hs => ?_⟩
  · have h := rg (rg (rg (rg (rg sl_neS o ho) k hk) o' ho') k' hk') i hi
    simp only [hs, Bool.not_true, Bool.or_false, Bool.or_eq_true, Bool.and_eq_true, beq_iff_eq, decide_eq_true_eq, Bool.not_eq_true'] at h
    rcases h with h | h
    · exact absurd h hn
    · exact ⟨h.1, by rw [h.2]; decide⟩
  · have h := rg (rg (rg (rg (rg sl_neA o ho) k hk) o' ho') k' hk') i hi
    simp only [hs, Bool.not_true, Bool.or_false, Bool.or_eq_true, Bool.and_eq_true, beq_iff_eq, decide_eq_true_eq, Bool.not_eq_true'] at h
    rcases h with h | h
    · exact absurd h hn
    · exact ⟨h.1, by rw [h.2]; decide⟩
theorem sl_lo : ∀ o, o < 4 → ∀ k, k < 2 → (∀ i, i < 25 → slS o k i = true → 3 ≤ i) ∧ (∀ i, i < 34 → slA o k i = true → 2 ≤ i) := by decide +kernel
theorem wD_le : ∀ o, o < 4 → 20 ≤ wD o ∧ wD o ≤ 132 := by decide
/-- the other slots behind a text -/
theorem RF_tx {T T' : TT} {M M' : Nat → Nat → Int32} {I : Nat → TT} {mi : Nat → Option Nat} {a1 a2 r1 r2 : Int32} (h : RF T M I mi) (hB : tB T) (hB' : tB T') (hI : tBI I mi) (h1 : xTX T T' a1 a2 r1) (h2 : mTX M M' a1 a2 r2) : r1 = r2 ∧ RF T' M' I mi := by
  obtain ⟨x0, xt, xn, xy⟩ := h1
  obtain ⟨m0, m9, ml, ms, mn, my⟩ := h2
  have hT := h.1
  have hcnt : ∀ o, o < 4 → M 4 o = T.2 1 o := fun o ho => by
    have g := hT.2.2.2.2.1 o ho
    rw [Nat.mul_zero, Nat.zero_add] at g
    exact g
  have emp : ∀ j, j < (T'.1 0).toNatClampNeg → M' 0 (600 * 0 + j) = T'.2 0 j := fun j hj => by
    rw [x0] at hj
    exact absurd hj (by have : Int32.toNatClampNeg 0 = 0 := rfl; omega)
  -- nothing of the rows changes
  have stay : (∀ i, 4 ≤ i → i < 9 → M' i = M i) → T'.2 1 = T.2 1 → sameT T T' → M' 2 0 = T'.1 1 → M' 3 0 = T'.1 2 → RF T' M' I mi := by
    intro q1 q2 q3 q4 q5
    refine ⟨⟨ml.trans x0.symm, emp, q4, q5, fun o ho => ?_, fun o k ho hk hlt => ?_⟩, fun j hj => ⟨by rw [m9]; exact (h.2 j hj).1, fun hn => TM_mv (hI j hj hn) (fun c hc i hi => ?_) ((h.2 j hj).2 hn)⟩⟩
    · rw [q1 4 (by omega) (by omega), q2]; exact hT.2.2.2.2.1 o ho
    · rw [q2] at hlt
      rw [q1 (5 + o) (by omega) (by omega)]
      exact SL_same ho hk (fun i hi hs => q3.1 i ((sl_lo o ho k hk).1 i hi hs) hi) (fun i hi hs => q3.2 i ((sl_lo o ho k hk).2 i hi hs) hi) (hT.2.2.2.2.2 o k ho hk hlt)
    · have hcc : c = 0 ∨ c = 1 ∨ c = 2 ∨ c = 3 ∨ 4 ≤ c := by omega
      have hpos : ∀ c, (c = 1 ∨ c = 2 ∨ c = 3) → ¬ wR c * (j + 1) + i = 0 := by
        intro c hc9
        have : wR c = 1 := by rcases hc9 with rfl | rfl | rfl <;> rfl
        rw [this]; omega
      rcases hcc with rfl | rfl | rfl | rfl | hc4
      · rw [m0]
      · exact (ms _ (hpos 1 (by omega))).1
      · exact (ms _ (hpos 2 (by omega))).2.1
      · exact (ms _ (hpos 3 (by omega))).2.2
      · rw [q1 c hc4 (by omega)]
  by_cases hex : ∃ o k, o < 4 ∧ k < 2 ∧ a1 = nI o ∧ NUM (T.2 1 o) a2 k
  rotate_left
  · obtain ⟨u1, u2, u3, u4, u5⟩ := xn hex
    obtain ⟨w1, w2, w3, w4⟩ := mn (fun ⟨o, k, ho, hk, e, hN⟩ => hex ⟨o, k, ho, hk, e, by rw [← hcnt o ho]; exact hN⟩)
    exact ⟨u1.trans w1.symm, stay w4 u4 u5 (w2.trans u2.symm) (w3.trans u3.symm)⟩
  · obtain ⟨o, k, ho, hk, e, hN⟩ := hex
    obtain ⟨u1, u2, u3, u4⟩ := xy o k ho hk e hN
    obtain ⟨w1, w2, w3, w4⟩ := my o k ho hk e (by rw [hcnt o ho]; exact hN)
    rw [TX_eq hT o] at w1 w2 w3 w4
    by_cases hz : (TXr T o).1 = 0
    rotate_left
    · obtain ⟨p1, p2, p3⟩ := u3 hz
      obtain ⟨s1, s2⟩ := w3 hz
      exact ⟨p1.trans s1.symm, stay s2 p2 p3 (w1.trans u1.symm) (w2.trans u2.symm)⟩
    · obtain ⟨p1, p2, p3, p4⟩ := u4 hz
      obtain ⟨s1, s2, s3, s4, s5⟩ := w4 hz
      refine ⟨p1.trans s1.symm, ⟨ml.trans x0.symm, emp, w1.trans u1.symm, w2.trans u2.symm, fun o' ho' => ?_, fun o' k' ho' hk' hlt => ?_⟩, fun j hj => ⟨by rw [m9]; exact (h.2 j hj).1, fun hn => TM_mv (hI j hj hn) (fun c hc i hi => ?_) ((h.2 j hj).2 hn)⟩⟩
      · rw [Nat.mul_zero, Nat.zero_add, s2, p2, hcnt o ho]
        by_cases hoo : o' = o
        · subst hoo; rw [up_s, up_s]
        · rw [up_n hoo, up_n hoo]; exact hcnt o' ho'
      · have hw := wD_le o ho
        have hw' := wD_le o' ho'
        by_cases hsame : o = o' ∧ k = k'
        · obtain ⟨rfl, rfl⟩ := hsame
          refine SL_ext ho hk hB' (fun j hj => ?_) p3
          show (TXr T o).2.2 j = M' (5 + o) (2 * wD o * 0 + wD o * k + j)
          rw [Nat.mul_zero, Nat.zero_add]
          exact (s3 j hj).symm
        · have hsl := sl_ne o ho k hk o' ho' k' hk' hsame
          rw [p2] at hlt
          by_cases hoo : o' = o
          · subst hoo
            rw [up_s] at hlt
            have hkk : ¬ k' = k := fun h9 => hsame ⟨rfl, h9.symm⟩
            have hlt2 : nI k' < T.2 1 o' := by
              obtain ⟨c, hc, -, hc2, -⟩ := iv_nI (hB.2.2.1 o') (by decide)
              rw [hc] at hlt ⊢
              unfold cmx at hlt
              rw [nI_1] at hlt
              by_cases hcl : nI c < nI (k + 1)
              · rw [if_pos hcl] at hlt
                have q1 := (nI_ltI (by omega) (by omega)).mp hlt
                rcases hN with ⟨_, q2⟩ | ⟨_, _, q3⟩
                · rw [hc] at q2
                  have := (nI_eq (by omega) (by omega)).mp q2
                  exact nI_lt (by omega) (by omega)
                · rw [hc] at q3
                  have q4 := (nI_ltI (by omega) (by omega)).mp q3
                  have q5 := (nI_ltI (by omega) (by omega)).mp hcl
                  omega
              · rw [if_neg hcl] at hlt; exact hlt
            have hq := SL_same (T' := T') ho' hk' (fun i hi hs => p4.1 i (hsl.1 i hi hs).1 hi (hsl.1 i hi hs).2) (fun i hi hs => p4.2 i (hsl.2 i hi hs).1 hi (hsl.2 i hi hs).2) (hT.2.2.2.2.2 o' k' ho' hk' hlt2)
            refine SL_ext ho' hk' hB' (fun j hj => ?_) hq
            show M (5 + o') (2 * wD o' * 0 + wD o' * k' + j) = M' (5 + o') (2 * wD o' * 0 + wD o' * k' + j)
            rw [Nat.mul_zero, Nat.zero_add]
            refine (s4 _ ?_).symm
            have hkc : (k = 0 ∧ k' = 1) ∨ (k = 1 ∧ k' = 0) := by omega
            rcases hkc with ⟨rfl, rfl⟩ | ⟨rfl, rfl⟩
            · rw [Nat.mul_zero, Nat.mul_one]; omega
            · rw [Nat.mul_zero, Nat.mul_one]; omega
          · rw [up_n hoo] at hlt
            rw [s5 (5 + o') (by omega) (by omega) (by omega)]
            exact SL_same ho' hk' (fun i hi hs => p4.1 i (hsl.1 i hi hs).1 hi (hsl.1 i hi hs).2) (fun i hi hs => p4.2 i (hsl.2 i hi hs).1 hi (hsl.2 i hi hs).2) (hT.2.2.2.2.2 o' k' ho' hk' hlt)
      · have hcc : c = 0 ∨ c = 1 ∨ c = 2 ∨ c = 3 ∨ c = 4 ∨ 5 ≤ c := by omega
        have hpos : ∀ c, (c = 1 ∨ c = 2 ∨ c = 3) → ¬ wR c * (j + 1) + i = 0 := by
          intro c hc9
          have : wR c = 1 := by rcases hc9 with rfl | rfl | rfl <;> rfl
          rw [this]; omega
        rcases hcc with rfl | rfl | rfl | rfl | rfl | hc5
        · rw [m0]
        · exact (ms _ (hpos 1 (by omega))).1
        · exact (ms _ (hpos 2 (by omega))).2.1
        · exact (ms _ (hpos 3 (by omega))).2.2
        · rw [s2, up_n (by have : wR 4 = 4 := rfl; rw [this]; omega)]
        · by_cases hco : c = 5 + o
          · subst hco
            refine s4 _ (Or.inr ?_)
            rw [wD_R o ho]
            have hkc : k = 0 ∨ k = 1 := by omega
            have hj1 : 2 * wD o * 1 ≤ 2 * wD o * (j + 1) := Nat.mul_le_mul_left _ (by omega)
            rcases hkc with rfl | rfl
            · rw [Nat.mul_zero]; omega
            · rw [Nat.mul_one]; omega
          · rw [s5 c hc5 hc hco]
end
section
theorem mCP_k {M : Nat → Nat → Int32} {t z fa fp mn l e s c kp kp' : Nat → Int32} {f g : Nat} (h : mCP M (mmk t z fa fp mn l e s c kp) f g) : mCP M (mmk t z fa fp mn l e s c kp') f g := by
  intro q hq
  have h1 := h q hq
  have : q = 0 ∨ q = 1 ∨ q = 2 ∨ q = 3 ∨ q = 4 ∨ q = 5 ∨ q = 6 ∨ q = 7 ∨ q = 8 := by omega
  rcases this with rfl | rfl | rfl | rfl | rfl | rfl | rfl | rfl | rfl <;> exact h1
theorem e_m_image2 {M : Nat → Nat → Int32} {f_code x1 : Int32} {post : Int32 → Int32 → (Nat → Int32) → (Nat → Int32) → (Nat → Int32) → (Nat → Int32) → (Nat → Int32) → (Nat → Int32) → (Nat → Int32) → (Nat → Int32) → (Nat → Int32) → (Nat → Int32) → Prop} (ht : ∀ j, iv (-128) 127 (M 0 j)) (hp : ∀ r t z fa fp mn l e s c kp, mIM M (mmk t z fa fp mn l e s c kp) x1 r → post r 0 t z fa fp mn l e s c kp) : q_m_image_0 f_code (M 0) (M 1) (M 2) (M 3) (M 4) (M 5) (M 6) (M 7) (M 8) (M 9) x1 post := by
  refine sp_in (fun h => zi (hp _ _ _ _ _ _ _ _ _ _ _ ⟨fun _ => ⟨rfl, fun i hi => ?_⟩, fun k hk e => absurd (imJ_nI.mpr ⟨k, hk, e⟩) h⟩)) (fun a1 a2 => io ?_)
  · have : i = 0 ∨ i = 1 ∨ i = 2 ∨ i = 3 ∨ i = 4 ∨ i = 5 ∨ i = 6 ∨ i = 7 ∨ i = 8 ∨ i = 9 := by omega
    rcases this with rfl | rfl | rfl | rfl | rfl | rfl | rfl | rfl | rfl | rfl <;> rfl
  · obtain ⟨j, rfl, -, hj, hj2⟩ := iv_nI (iv_of (l := 0) (h := 2) rfl rfl a1 a2) (by omega)
    rw [nI_1]
    refine e_copyAll2 (f := 0) (by omega) (by omega) (by omega) ht (fun t z fa fp mn l e s c kp hcp => ⟨vp_in_nI (by omega) (by omega), fun kp2 ek => ?_⟩)
    rw [nI_clamp (by omega)] at ek
    refine hp _ _ _ _ _ _ _ _ _ _ _ ⟨fun h => absurd (imJ_nI.mpr ⟨j, by omega, rfl⟩) h, fun k hk e => ?_⟩
    have hkj : k = j := (nI_eq (by omega) (by omega)).mp e.symm
    subst hkj
    exact ⟨rfl, mCP_k hcp, by show kp2 k = 1; rw [ek]; exact up_s, fun q hq => by show kp2 q = M 9 q; rw [ek]; exact up_n hq⟩
theorem e_m_again2 {M : Nat → Nat → Int32} {f_code x1 : Int32} {post : Int32 → Int32 → (Nat → Int32) → (Nat → Int32) → (Nat → Int32) → (Nat → Int32) → (Nat → Int32) → (Nat → Int32) → (Nat → Int32) → (Nat → Int32) → (Nat → Int32) → Prop} (hb : ∀ j, iv (-128) 127 (M 0 j)) (hp : ∀ r t z fa fp mn l e s c, mAG M (mmk t z fa fp mn l e s c (M 9)) x1 r → post r 0 t z fa fp mn l e s c) : q_m_again_0 f_code (M 0) (M 1) (M 2) (M 3) (M 4) (M 5) (M 6) (M 7) (M 8) (M 9) x1 post := by
  have no : ¬ (∃ k, k < 3 ∧ x1 = nI k ∧ ¬ M 9 k = 0) → post 0 0 (M 0) (M 1) (M 2) (M 3) (M 4) (M 5) (M 6) (M 7) (M 8) := by
    intro h
    refine hp _ _ _ _ _ _ _ _ _ _ ⟨fun _ => ⟨rfl, fun i hi => ?_⟩, fun k hk e h9 => absurd ⟨k, hk, e, h9⟩ h⟩
    have : i = 0 ∨ i = 1 ∨ i = 2 ∨ i = 3 ∨ i = 4 ∨ i = 5 ∨ i = 6 ∨ i = 7 ∨ i = 8 ∨ i = 9 := by omega
    rcases this with rfl | rfl | rfl | rfl | rfl | rfl | rfl | rfl | rfl | rfl <;> rfl
  refine sp_in (fun h => ⟨fun _ => no (fun ⟨k, hk, e, _⟩ => h (by rw [e]; exact ⟨nI_pos' (by omega), nI_le (b := 2) (by omega) (by omega)⟩)), fun h9 => absurd rfl h9⟩) (fun a1 a2 => ⟨fun h9 => absurd h9 (by decide), fun _ => ?_⟩)
  obtain ⟨j, rfl, -, hj, hj2⟩ := iv_nI (iv_of (l := 0) (h := 2) rfl rfl a1 a2) (by omega)
  refine ⟨vp_in_nI (by omega) (by omega), ?_⟩
  rw [nI_clamp (by omega)]
  refine ⟨fun hk => ?_, fun hk => no (fun ⟨k, hk3, e, h9⟩ => h9 (by rw [(nI_eq (by omega) (by omega)).mp e] at hk; exact hk))⟩
  rw [nI_1]
  refine e_copyAll2 (g := 0) (by omega) (by omega) (by omega) hb (fun t z fa fp mn l e s c kp hcp => ?_)
  refine hp _ _ _ _ _ _ _ _ _ _ ⟨fun h => absurd ⟨j, by omega, rfl, hk⟩ h, fun k hk3 e _ => ?_⟩
  have hkj : k = j := (nI_eq (by omega) (by omega)).mp e.symm
  subst hkj
  exact ⟨rfl, mCP_k hcp, rfl⟩
set_option maxRecDepth 40000 in
theorem xSA_mk {T : TT} {t : Nat → Int32} {l : Int32} : xSA T (tmk t l (T.1 1) (T.1 2) (T.2 1) (T.1 3) (T.1 4) (T.1 5) (T.1 6) (T.1 7) (T.1 8) (T.1 9) (T.2 2) (T.2 3) (T.2 4) (T.2 5) (T.2 6) (T.2 7) (T.2 8) (T.2 9) (T.1 10) (T.1 11) (T.1 12) (T.1 13) (T.1 14) (T.1 15) (T.1 16) (T.2 10) (T.2 11) (T.2 12) (T.2 13) (T.2 14) (T.2 15) (T.2 16) (T.2 17) (T.1 17) (T.2 18) (T.2 19) (T.2 20) (T.1 18) (T.2 21) (T.2 22) (T.2 23) (T.1 19) (T.2 24) (T.2 25) (T.2 26) (T.1 20) (T.2 27) (T.2 28) (T.2 29) (T.1 21) (T.1 22) (T.2 30) (T.2 31) (T.1 23) (T.1 24) (T.2 32) (T.2 33)) := by
  refine ⟨fun i h1 h2 => ?_, fun i h1 h2 => ?_⟩
  · have : i = 1 ∨ i = 2 ∨ i = 3 ∨ i = 4 ∨ i = 5 ∨ i = 6 ∨ i = 7 ∨ i = 8 ∨ i = 9 ∨ i = 10 ∨ i = 11 ∨ i = 12 ∨ i = 13 ∨ i = 14 ∨ i = 15 ∨ i = 16 ∨ i = 17 ∨ i = 18 ∨ i = 19 ∨ i = 20 ∨ i = 21 ∨ i = 22 ∨ i = 23 ∨ i = 24 := by omega
    rcases this with rfl | rfl | rfl | rfl | rfl | rfl | rfl | rfl | rfl | rfl | rfl | rfl | rfl | rfl | rfl | rfl | rfl | rfl | rfl | rfl | rfl | rfl | rfl | rfl <;> rfl
  · have : i = 1 ∨ i = 2 ∨ i = 3 ∨ i = 4 ∨ i = 5 ∨ i = 6 ∨ i = 7 ∨ i = 8 ∨ i = 9 ∨ i = 10 ∨ i = 11 ∨ i = 12 ∨ i = 13 ∨ i = 14 ∨ i = 15 ∨ i = 16 ∨ i = 17 ∨ i = 18 ∨ i = 19 ∨ i = 20 ∨ i = 21 ∨ i = 22 ∨ i = 23 ∨ i = 24 ∨ i = 25 ∨ i = 26 ∨ i = 27 ∨ i = 28 ∨ i = 29 ∨ i = 30 ∨ i = 31 ∨ i = 32 ∨ i = 33 := by omega
    rcases this with rfl | rfl | rfl | rfl | rfl | rfl | rfl | rfl | rfl | rfl | rfl | rfl | rfl | rfl | rfl | rfl | rfl | rfl | rfl | rfl | rfl | rfl | rfl | rfl | rfl | rfl | rfl | rfl | rfl | rfl | rfl | rfl | rfl <;> rfl
theorem xFD_no {T : TT} {a b c d e : Int32} (hlen : iv 0 600 (T.1 0)) (h : ¬ T.1 0 + 20 ≤ 600) : xFD T (tmk (T.2 0) (T.1 0) (T.1 1) (T.1 2) (T.2 1) (T.1 3) (T.1 4) (T.1 5) (T.1 6) (T.1 7) (T.1 8) (T.1 9) (T.2 2) (T.2 3) (T.2 4) (T.2 5) (T.2 6) (T.2 7) (T.2 8) (T.2 9) (T.1 10) (T.1 11) (T.1 12) (T.1 13) (T.1 14) (T.1 15) (T.1 16) (T.2 10) (T.2 11) (T.2 12) (T.2 13) (T.2 14) (T.2 15) (T.2 16) (T.2 17) (T.1 17) (T.2 18) (T.2 19) (T.2 20) (T.1 18) (T.2 21) (T.2 22) (T.2 23) (T.1 19) (T.2 24) (T.2 25) (T.2 26) (T.1 20) (T.2 27) (T.2 28) (T.2 29) (T.1 21) (T.1 22) (T.2 30) (T.2 31) (T.1 23) (T.1 24) (T.2 32) (T.2 33)) a b c d e (-1) := ⟨xSA_mk, fun _ => ⟨rfl, rfl, rfl⟩, fun n hn hle => absurd (by rw [hn]; exact (e_len (by omega)).mpr hle) h⟩
theorem xFD_yes {T : TT} {a b c d e : Int32} {n : Nat} {t : Nat → Int32} (hn : T.1 0 = nI n) (hle : n + 20 ≤ 600) (hb : B20 (T.2 0) t n a b c d e) : xFD T (tmk t (nI (n + 20)) (T.1 1) (T.1 2) (T.2 1) (T.1 3) (T.1 4) (T.1 5) (T.1 6) (T.1 7) (T.1 8) (T.1 9) (T.2 2) (T.2 3) (T.2 4) (T.2 5) (T.2 6) (T.2 7) (T.2 8) (T.2 9) (T.1 10) (T.1 11) (T.1 12) (T.1 13) (T.1 14) (T.1 15) (T.1 16) (T.2 10) (T.2 11) (T.2 12) (T.2 13) (T.2 14) (T.2 15) (T.2 16) (T.2 17) (T.1 17) (T.2 18) (T.2 19) (T.2 20) (T.1 18) (T.2 21) (T.2 22) (T.2 23) (T.1 19) (T.2 24) (T.2 25) (T.2 26) (T.1 20) (T.2 27) (T.2 28) (T.2 29) (T.1 21) (T.1 22) (T.2 30) (T.2 31) (T.1 23) (T.1 24) (T.2 32) (T.2 33)) a b c d e (nI (n + 20)) := by
  refine ⟨xSA_mk, fun h => absurd (by rw [hn]; exact (e_len (by omega)).mpr hle) h, fun m hm hle2 => ?_⟩
  have : m = n := (nI_eq (by omega) (by omega)).mp (hm.symm.trans hn)
  subst this
  exact ⟨rfl, rfl, hb⟩
theorem mSA_mk {M : Nat → Nat → Int32} {t z : Nat → Int32} (hz : ∀ j, ¬ j = 0 → z j = M 1 j) : mSA M (mmk t z (M 2) (M 3) (M 4) (M 5) (M 6) (M 7) (M 8) (M 9)) := by
  refine ⟨fun i h1 h2 => ?_, hz⟩
  have : i = 2 ∨ i = 3 ∨ i = 4 ∨ i = 5 ∨ i = 6 ∨ i = 7 ∨ i = 8 ∨ i = 9 := by omega
  rcases this with rfl | rfl | rfl | rfl | rfl | rfl | rfl | rfl <;> rfl
theorem mFD_no {M : Nat → Nat → Int32} {a b c d e : Int32} (h : ¬ M 1 0 + 20 ≤ 600) : mFD M (mmk (M 0) (M 1) (M 2) (M 3) (M 4) (M 5) (M 6) (M 7) (M 8) (M 9)) a b c d e (-1) := ⟨mSA_mk (fun _ _ => rfl), fun _ => ⟨rfl, rfl, rfl⟩, fun n hn hle => absurd (by rw [hn]; exact (e_len (by omega)).mpr hle) h⟩
theorem mFD_yes {M : Nat → Nat → Int32} {a b c d e : Int32} {n : Nat} {t z : Nat → Int32} (hn : M 1 0 = nI n) (hle : n + 20 ≤ 600) (hb : B20 (M 0) t n a b c d e) (h0 : z 0 = nI (n + 20)) (hz : ∀ j, ¬ j = 0 → z j = M 1 j) : mFD M (mmk t z (M 2) (M 3) (M 4) (M 5) (M 6) (M 7) (M 8) (M 9)) a b c d e (nI (n + 20)) := by
  refine ⟨mSA_mk hz, fun h => absurd (by rw [hn]; exact (e_len (by omega)).mpr hle) h, fun m hm hle2 => ?_⟩
  have : m = n := (nI_eq (by omega) (by omega)).mp (hm.symm.trans hn)
  subst this
  exact ⟨rfl, h0, hb⟩
end
section
def AN_count (M : Nat → Nat → Int32) (a : Int32) : Int32 := if 0 ≤ a ∧ a ≤ 3 then M 4 a.toNatClampNeg else -2
def AN_fault (M : Nat → Nat → Int32) (a : Int32) : Int32 := if a = 0 then M 2 0 else if a = 1 then M 3 0 else -1
def rowM (M : Nat → Nat → Int32) (o : Nat) (a : Int32) : Nat → Int32 := fun j => M (5 + o) (wD o * a.toNatClampNeg + j)
def F3 (td : Nat → Int32) (b c : Int32) : Int32 := if b = -1 then (if c = 0 then td 0 else -2) else if (0 ≤ b ∧ b < td 0) ∧ 0 ≤ c ∧ c ≤ 2 then td (1 + 3 * b.toNatClampNeg + c.toNatClampNeg) else -2
def AN_deed (M : Nat → Nat → Int32) (a b c : Int32) : Int32 := if 0 ≤ a ∧ a < M 4 1 then F3 (rowM M 1 a) b c else -2
def AN_fact (M : Nat → Nat → Int32) (a b c : Int32) : Int32 := if 0 ≤ a ∧ a < M 4 2 then F3 (rowM M 2 a) b c else -2
def Fec (td : Nat → Int32) (b c : Int32) : Int32 := if (0 ≤ b ∧ b < td 4) ∧ 0 ≤ c ∧ c ≤ 1 then td (43 + 2 * b.toNatClampNeg + c.toNatClampNeg) else -1
def AN_echo (M : Nat → Nat → Int32) (a b c : Int32) : Int32 := if 0 ≤ a ∧ a < M 4 0 then Fec (rowM M 0 a) b c else -1
def FL (td : Nat → Int32) (n : Nat) : Int32 := if 60 ≤ n then (if nI ((n - 60) / 9) < td 0 ∧ nI ((n - 60) % 9) < td 0 then td (51 + 9 * ((n - 60) / 9) + (n - 60) % 9) else -1) else if n / 10 = 1 then (if nI (n % 10) < td 0 then td (7 + n % 10) else -1) else if n / 10 = 2 then (if nI (n % 10) < td 0 then td (16 + n % 10) else -1) else if n / 10 = 3 then (if nI (n % 10) < td 1 then td (25 + n % 10) else -1) else if n / 10 = 4 then (if nI (n % 10) < td 1 then td (31 + n % 10) else -1) else if n / 10 = 5 then (if nI (n % 10) < td 1 then td (37 + n % 10) else -1) else if n ≤ 6 then td n else -1
def AN_land (M : Nat → Nat → Int32) (a b : Int32) : Int32 := if 0 ≤ a ∧ a < M 4 0 then (if 0 ≤ b ∧ b ≤ 140 then FL (rowM M 0 a) b.toNatClampNeg else -1) else -1
theorem TM_cnt {T : TT} {M : Nat → Nat → Int32} (h : TM T M 0) (o : Nat) (ho : o < 4) : M 4 o = T.2 1 o := by
  have g := h.2.2.2.2.1 o ho
  rw [Nat.mul_zero, Nat.zero_add] at g
  exact g
theorem TM_sl {T : TT} {M : Nat → Nat → Int32} (h : TM T M 0) (o k : Nat) (ho : o < 4) (hk : k < 2) (hl : nI k < T.2 1 o) : SL o k T (rowM M o (nI k)) := by
  have g := h.2.2.2.2.2 o k ho hk hl
  unfold rowM
  rw [nI_clamp (by omega)]
  rw [Nat.mul_zero, Nat.zero_add] at g
  exact g
theorem in_lt {x c : Int32} (hc : iv 0 1000 c) : (0 ≤ x ∧ x ≤ c - 1) ↔ (0 ≤ x ∧ x < c) := by
  have e0 : (0 : Int32).toInt = 0 := rfl
  have e1 : (1 : Int32).toInt = 1 := rfl
  have es : (c - 1).toInt = c.toInt - 1 := by
    rw [Int32.toInt_sub, e1]
    have := hc.1
    have := hc.2
    exact Int.bmod_eq_of_le (by omega) (by omega)
  constructor
  · rintro ⟨h1, h2⟩
    refine ⟨h1, Int32.lt_iff_toInt_lt.mpr ?_⟩
    have := r_le h2
    omega
  · rintro ⟨h1, h2⟩
    refine ⟨h1, Int32.le_iff_toInt_le.mpr ?_⟩
    have := r_lt h2
    omega
theorem lt_nI {x c : Int32} {m : Nat} (hc : iv 0 m c) (h : 0 ≤ x ∧ x < c) : ∃ k : Nat, k < m ∧ x = nI k := by
  obtain ⟨j, hj, e⟩ := nI_of (Int32.not_lt.mpr h.1)
  refine ⟨j, ?_, e⟩
  have := r_lt h.2
  rw [e, nI_toInt hj] at this
  have := hc.2
  omega
theorem e_is {mn : Nat → Int32} {o : Nat} {x : Int32} {post : Int32 → Prop} (ho : o < 4) (hc : iv 0 2 (mn o)) (h0 : ¬ (0 ≤ x ∧ x < mn o) → post 0) (h1 : (0 ≤ x ∧ x < mn o) → post 1) : q_m_is_0 mn (nI o) x post := by
  refine ⟨vp_in_nI (by omega) (by omega), ?_⟩
  rw [nI_clamp (by omega)]
  have e := in_lt (x := x) (iv_w hc (by decide) : iv 0 1000 (mn o))
  exact sp_in (fun h => ⟨rfl, h0 (fun h2 => h (e.mpr h2))⟩) (fun a b => ⟨rfl, h1 (e.mp ⟨a, b⟩)⟩)
theorem e_at {c : Int32} {x : Int32} {A C D : Prop} (hc : iv 0 2 c) (h0 : ¬ (0 ≤ x ∧ x < c) → A) (h2 : x = nI 0 → nI 0 < c → C) (h1 : x = nI 1 → nI 1 < c → D) : (x < 0 → A) ∧ (¬ x < 0 → ((c ≤ x → A) ∧ (¬ c ≤ x → (vp_in x 2 ∧ (x = 0 → C) ∧ (¬ x = 0 → D))))) := by
  refine ⟨fun h => h0 (fun h9 => absurd h (Int32.not_lt.mpr h9.1)), fun h => ⟨fun h9 => h0 (fun h8 => absurd h8.2 (Int32.not_lt.mpr h9)), fun h9 => ?_⟩⟩
  have hlt := Int32.not_le.mp h9
  obtain ⟨k, hk, e⟩ := lt_nI (m := 2) hc ⟨Int32.not_lt.mp h, hlt⟩
  refine ⟨by rw [e]; exact vp_in_nI hk (by omega), fun hx => ?_, fun hx => ?_⟩
  · exact h2 hx (by rw [hx] at hlt; exact hlt)
  · have hk1 : k = 1 := by
      by_cases h0 : k = 0
      · exact absurd (by rw [e, h0]; rfl) hx
      · omega
    rw [hk1] at e
    exact h1 e (by rw [e] at hlt; exact hlt)
theorem e_x_count {T : TT} {M : Nat → Nat → Int32} {a : Int32} {post : Int32 → Prop} (h : TM T M 0) (hp : post (AN_count M a)) : q_wx_X10_count_0 (T.2 1) a post := by
  unfold AN_count at hp
  refine ⟨fun h9 => ?_, fun h9 => ⟨fun h4 => ?_, fun h4 => ?_⟩⟩
  · rw [if_neg (fun h8 => absurd h9 (Int32.not_lt.mpr h8.1))] at hp; exact hp
  · have h3 : a ≤ 3 := Int32.le_iff_toInt_le.mpr (by have := r_lt h4; have e3 : (3 : Int32).toInt = 3 := rfl; have e4 : (4 : Int32).toInt = 4 := rfl; omega)
    obtain ⟨o, ho, e⟩ := nI_of2 (M := 3) (n := 3) (by decide) h9 h3
    rw [if_pos ⟨Int32.not_lt.mp h9, h3⟩] at hp
    subst e
    rw [nI_clamp (by omega)] at hp ⊢
    rw [TM_cnt h o (by omega)] at hp
    exact ⟨vp_in_nI (by omega) (by omega), hp⟩
  · rw [if_neg (fun h8 => h4 (Int32.lt_iff_toInt_lt.mpr (by have := r_le h8.2; have e3 : (3 : Int32).toInt = 3 := rfl; have e4 : (4 : Int32).toInt = 4 := rfl; omega)))] at hp; exact hp
theorem e_m_count {M : Nat → Nat → Int32} {cd a : Int32} {post : Int32 → Int32 → Prop} (hp : post (AN_count M a) 0) : q_m_count_0 cd (M 4) a post := by
  unfold AN_count at hp
  refine sp_in (fun h => iz ?_) (fun h1 h2 => oi ?_)
  · rw [if_neg h] at hp; exact hp
  · rw [if_pos ⟨h1, h2⟩] at hp
    obtain ⟨o, ho, e⟩ := nI_of2 (M := 3) (n := 3) (by decide) (Int32.not_lt.mpr h1) h2
    exact ⟨by rw [e]; exact vp_in_nI (by omega) (by omega), hp⟩
theorem e_x_fault {T : TT} {M : Nat → Nat → Int32} {a : Int32} {post : Int32 → Prop} (h : TM T M 0) (hp : post (AN_fault M a)) : q_wx_X10_fault_0 (T.1 1) (T.1 2) a post := by
  unfold AN_fault at hp
  rw [h.2.2.1, h.2.2.2.1] at hp
  refine ⟨fun h0 => ?_, fun h0 => ?_⟩
  · rw [if_neg h0] at hp
    refine ⟨fun h1 => ?_, fun h1 => ?_⟩
    · rw [if_neg h1] at hp; exact hp
    · rw [if_pos h1] at hp; exact hp
  · rw [if_pos h0] at hp; exact hp
theorem e_m_fault {M : Nat → Nat → Int32} {cd a : Int32} {post : Int32 → Int32 → Prop} (hp : post (AN_fault M a) 0) : q_m_fault_0 cd (M 2) (M 3) a post := by
  unfold AN_fault at hp
  refine ⟨fun h0 => ?_, fun h0 => ?_⟩
  · rw [if_neg h0] at hp
    refine ⟨fun h1 => ?_, fun h1 => ?_⟩
    · rw [if_neg h1] at hp; exact hp
    · rw [if_pos h1] at hp; exact hp
  · rw [if_pos h0] at hp; exact hp
theorem e_look_deed {c x b : Int32} {p q s td : Nat → Int32} {post : Int32 → Prop} (hR : R3 c p q s td) (hc : iv 0 40 c) (hb : ¬ b = -1) (hlt : 0 ≤ b ∧ b < c) (hp : post (F3 td b x)) : q_wv_X1_look_0 p q s b x post := by
  have hlt' : 0 ≤ b ∧ b < td 0 := by rw [← hR.1]; exact hlt
  obtain ⟨k, hk, e⟩ := lt_nI (m := 40) hc hlt
  have hin : vp_in b 40 := by rw [e]; exact vp_in_nI hk (by omega)
  have hkc : k < (td 0).toNatClampNeg := by
    rw [← hR.1]
    have h1 := r_lt hlt.2
    rw [e, nI_toInt (by omega)] at h1
    have e2 : c.toNatClampNeg = c.toInt.toNat := rfl
    omega
  have hcl : b.toNatClampNeg = k := by rw [e]; exact nI_clamp (by omega)
  obtain ⟨r1, r2, r3⟩ := hR.2 k hkc
  unfold F3 at hp
  rw [if_neg hb] at hp
  refine ⟨fun h => ?_, fun h => ⟨hin, ?_⟩, fun h => ⟨hin, ?_⟩, fun h => ⟨hin, ?_⟩⟩
  · rw [if_neg (fun h9 => ?_)] at hp
    · exact hp
    · have a1 := r_le h9.2.1
      have a2 := r_le h9.2.2
      have e0 : (0 : Int32).toInt = 0 := rfl
      have e2 : (2 : Int32).toInt = 2 := rfl
      omega
  · subst h
    rw [if_pos ⟨hlt', by decide⟩, hcl, c_0] at hp
    rw [hcl, r1]
    exact hp
  · subst h
    rw [if_pos ⟨hlt', by decide⟩, hcl, c_1, show 1 + 3 * k + 1 = 2 + 3 * k by omega] at hp
    rw [hcl, r2]
    exact hp
  · subst h
    rw [if_pos ⟨hlt', by decide⟩, hcl, c_2, show 1 + 3 * k + 2 = 3 + 3 * k by omega] at hp
    rw [hcl, r3]
    exact hp
set_option maxRecDepth 40000 in
theorem e_x_deed {T : TT} {M : Nat → Nat → Int32} {a b c : Int32} {post : Int32 → Prop} (h : TM T M 0) (hB : tB T) (hp : post (AN_deed M a b c)) : q_wx_X10_deed_0 (T.2 1) (T.1 17) (T.2 18) (T.2 19) (T.2 20) (T.1 18) (T.2 21) (T.2 22) (T.2 23) a b c post := by
  unfold AN_deed at hp
  rw [TM_cnt h 1 (by decide)] at hp
  have hc2 : iv 0 2 (T.2 1 1) := hB.2.2.1 1
  have sl1 : a = nI 1 → nI 1 < T.2 1 1 → (post (F3 (rowM M 1 a) b c) → ((¬ b = -1 → q_wx_X10_deed_30k1 (T.2 1) (T.1 17) (T.2 18) (T.2 19) (T.2 20) (T.1 18) (T.2 21) (T.2 22) (T.2 23) b c post) ∧ (b = -1 → ((¬ c = 0 → q_wx_X10_deed_30k1 (T.2 1) (T.1 17) (T.2 18) (T.2 19) (T.2 20) (T.1 18) (T.2 21) (T.2 22) (T.2 23) b c post) ∧ (c = 0 → post (T.1 18)))))) := by
    intro ea hl hp
    rw [ea] at hp
    have hR : R3 (T.1 18) (T.2 21) (T.2 22) (T.2 23) (rowM M 1 (nI 1)) := TM_sl h 1 1 (by decide) (by decide) hl
    have k30 : (b = -1 → ¬ c = 0) → q_wx_X10_deed_30k1 (T.2 1) (T.1 17) (T.2 18) (T.2 19) (T.2 20) (T.1 18) (T.2 21) (T.2 22) (T.2 23) b c post := by
      intro hbc
      refine ⟨fun h9 => ?_, fun h9 => ⟨fun h8 => ?_, fun h8 => ?_⟩⟩
      · unfold F3 at hp
        by_cases hb : b = -1
        · rw [if_pos hb, if_neg (hbc hb)] at hp; exact hp
        · rw [if_neg hb, if_neg (fun h7 => absurd h9 (Int32.not_lt.mpr h7.1.1))] at hp; exact hp
      · have hb : ¬ b = -1 := fun h7 => h9 (by rw [h7]; decide)
        exact e_look_deed hR (hB.2.2.2.2.2.2.2.2.2.2.2.2.1) hb ⟨Int32.not_lt.mp h9, h8⟩ hp
      · have hb : ¬ b = -1 := fun h7 => h9 (by rw [h7]; decide)
        unfold F3 at hp
        rw [if_neg hb, if_neg (fun h7 => h8 (by rw [hR.1]; exact h7.1.2))] at hp; exact hp
    refine ⟨fun hb => k30 (fun h9 => absurd h9 hb), fun hb => ⟨fun hcc => k30 (fun _ => hcc), fun hcc => ?_⟩⟩
    unfold F3 at hp
    rw [if_pos hb, if_pos hcc, ← hR.1] at hp
    exact hp
  have sl0 : a = nI 0 → nI 0 < T.2 1 1 → (post (F3 (rowM M 1 a) b c) → ((¬ b = -1 → q_wx_X10_deed_30k0 (T.2 1) (T.1 17) (T.2 18) (T.2 19) (T.2 20) (T.1 18) (T.2 21) (T.2 22) (T.2 23) b c post) ∧ (b = -1 → ((¬ c = 0 → q_wx_X10_deed_30k0 (T.2 1) (T.1 17) (T.2 18) (T.2 19) (T.2 20) (T.1 18) (T.2 21) (T.2 22) (T.2 23) b c post) ∧ (c = 0 → post (T.1 17)))))) := by
    intro ea hl hp
    rw [ea] at hp
    have hR : R3 (T.1 17) (T.2 18) (T.2 19) (T.2 20) (rowM M 1 (nI 0)) := TM_sl h 1 0 (by decide) (by decide) hl
    have k30 : (b = -1 → ¬ c = 0) → q_wx_X10_deed_30k0 (T.2 1) (T.1 17) (T.2 18) (T.2 19) (T.2 20) (T.1 18) (T.2 21) (T.2 22) (T.2 23) b c post := by
      intro hbc
      refine ⟨fun h9 => ?_, fun h9 => ⟨fun h8 => ?_, fun h8 => ?_⟩⟩
      · unfold F3 at hp
        by_cases hb : b = -1
        · rw [if_pos hb, if_neg (hbc hb)] at hp; exact hp
        · rw [if_neg hb, if_neg (fun h7 => absurd h9 (Int32.not_lt.mpr h7.1.1))] at hp; exact hp
      · have hb : ¬ b = -1 := fun h7 => h9 (by rw [h7]; decide)
        exact e_look_deed hR (hB.2.2.2.2.2.2.1) hb ⟨Int32.not_lt.mp h9, h8⟩ hp
      · have hb : ¬ b = -1 := fun h7 => h9 (by rw [h7]; decide)
        unfold F3 at hp
        rw [if_neg hb, if_neg (fun h7 => h8 (by rw [hR.1]; exact h7.1.2))] at hp; exact hp
    refine ⟨fun hb => k30 (fun h9 => absurd h9 hb), fun hb => ⟨fun hcc => k30 (fun _ => hcc), fun hcc => ?_⟩⟩
    unfold F3 at hp
    rw [if_pos hb, if_pos hcc, ← hR.1] at hp
    exact hp
  refine e_at hc2 (fun (hn : ¬ (0 ≤ a ∧ a < T.2 1 1)) => ?_) (fun ea hl => ?_) (fun ea hl => ?_)
  · rw [if_neg hn] at hp
    exact ⟨fun _ => hp, fun h9 => absurd h9 (by decide), fun h9 => absurd rfl h9⟩
  · rw [if_pos (by rw [ea]; exact ⟨by decide, hl⟩)] at hp
    exact ⟨fun h9 => absurd h9 (by decide), fun h9 => absurd h9 (by decide), fun _ _ => sl0 ea hl hp⟩
  · rw [if_pos (by rw [ea]; exact ⟨by decide, hl⟩)] at hp
    exact ⟨fun h9 => absurd h9 (by decide), fun _ => sl1 ea hl hp, fun _ h9 => absurd rfl h9⟩
set_option maxRecDepth 40000 in
theorem e_m_deed {M : Nat → Nat → Int32} {cd ev a b c : Int32} {post : Int32 → Int32 → Int32 → Prop} (hcnt : iv 0 2 (M 4 1)) (hE : mEve (M 6)) (hp : ∀ ev', post (AN_deed M a b c) 0 ev') : q_m_deed_0 cd (M 4) (M 6) ev a b c post := by
  unfold AN_deed at hp
  refine e_is (o := 1) (by decide) hcnt (fun hn => ⟨rfl, zi ?_⟩) (fun hy => ⟨rfl, io ?_⟩)
  · rw [if_neg hn] at hp; exact hp _
  · rw [if_pos hy] at hp
    obtain ⟨k, hk, ea⟩ := lt_nI (m := 2) hcnt hy
    have hcl : a.toNatClampNeg = k := by rw [ea]; exact nI_clamp (by omega)
    have row : ∀ j, rowM M 1 a j = M 6 (121 * k + j) := fun j => by unfold rowM; rw [hcl]; rfl
    have dd : ∀ {Q : Int32 → Prop}, Q (rowM M 1 a 0) → q_m_deeds_0 (M 6) a Q := by
      intro Q hQ
      have e : (121 : Int32) * a = nI (121 * k) := by rw [ea]; exact pk_mul 121 k
      refine ⟨by rw [e]; exact vp_in_nI (by omega) (by omega), ?_⟩
      rw [e, nI_clamp (by omega)]
      rw [row 0, Nat.add_zero] at hQ
      exact hQ
    have hr0 : iv 0 40 (rowM M 1 a 0) := by rw [row 0, Nat.add_zero]; exact (hE k (by omega)).1
    have il := in_lt (x := b) (iv_w hr0 (by decide) : iv 0 1000 (rowM M 1 a 0))
    unfold F3 at hp
    refine ⟨fun hb => dd ?_, fun hb => ⟨fun hc => ?_, fun hc => dd ?_⟩⟩
    · rw [if_neg hb] at hp
      refine sp_in (fun h => iz ?_) (fun h1 h2 => oi (sp_in (fun h => iz ?_) (fun h3 h4 => oi ?_)))
      · rw [if_neg (fun h9 => h (il.mpr h9.1))] at hp; exact hp _
      · rw [if_neg (fun h9 => h h9.2)] at hp; exact hp _
      · rw [if_pos ⟨il.mp ⟨h1, h2⟩, h3, h4⟩] at hp
        obtain ⟨j, hj, eb⟩ := lt_nI (m := 40) hr0 (il.mp ⟨h1, h2⟩)
        obtain ⟨i, hi, ec⟩ := nI_of2 (M := 2) (n := 2) (by decide) (Int32.not_lt.mpr h3) h4
        have e : (((121 * a) + 1) + (3 * b)) + c = nI (121 * k + 1 + 3 * j + i) := by rw [ea, eb, ec]; exact ix3 121
        refine ⟨by rw [e]; exact vp_in_nI (by omega) (by omega), ?_⟩
        rw [e, nI_clamp (by omega)]
        rw [row, eb, ec, nI_clamp (by omega), nI_clamp (by omega), show 121 * k + (1 + 3 * j + i) = 121 * k + 1 + 3 * j + i by omega] at hp
        exact hp _
    · rw [if_pos hb, if_neg hc] at hp; exact hp _
    · rw [if_pos hb, if_pos hc] at hp; exact hp _
theorem e_look_fact {c x b : Int32} {p q s td : Nat → Int32} {post : Int32 → Prop} (hR : R3 c p q s td) (hc : iv 0 10 c) (hb : ¬ b = -1) (hlt : 0 ≤ b ∧ b < c) (hp : post (F3 td b x)) : q_ws_X6_look_0 p q s b x post := by
  have hlt' : 0 ≤ b ∧ b < td 0 := by rw [← hR.1]; exact hlt
  obtain ⟨k, hk, e⟩ := lt_nI (m := 10) hc hlt
  have hin : vp_in b 10 := by rw [e]; exact vp_in_nI hk (by omega)
  have hkc : k < (td 0).toNatClampNeg := by
    rw [← hR.1]
    have h1 := r_lt hlt.2
    rw [e, nI_toInt (by omega)] at h1
    have e2 : c.toNatClampNeg = c.toInt.toNat := rfl
    omega
  have hcl : b.toNatClampNeg = k := by rw [e]; exact nI_clamp (by omega)
  obtain ⟨r1, r2, r3⟩ := hR.2 k hkc
  unfold F3 at hp
  rw [if_neg hb] at hp
  refine ⟨fun h => ?_, fun h => ⟨hin, ?_⟩, fun h => ⟨hin, ?_⟩, fun h => ⟨hin, ?_⟩⟩
  · rw [if_neg (fun h9 => ?_)] at hp
    · exact hp
    · have a1 := r_le h9.2.1
      have a2 := r_le h9.2.2
      have e0 : (0 : Int32).toInt = 0 := rfl
      have e2 : (2 : Int32).toInt = 2 := rfl
      omega
  · subst h
    rw [if_pos ⟨hlt', by decide⟩, hcl, c_0] at hp
    rw [hcl, r1]
    exact hp
  · subst h
    rw [if_pos ⟨hlt', by decide⟩, hcl, c_1, show 1 + 3 * k + 1 = 2 + 3 * k by omega] at hp
    rw [hcl, r2]
    exact hp
  · subst h
    rw [if_pos ⟨hlt', by decide⟩, hcl, c_2, show 1 + 3 * k + 2 = 3 + 3 * k by omega] at hp
    rw [hcl, r3]
    exact hp
set_option maxRecDepth 40000 in
theorem e_x_fact {T : TT} {M : Nat → Nat → Int32} {a b c : Int32} {post : Int32 → Prop} (h : TM T M 0) (hB : tB T) (hp : post (AN_fact M a b c)) : q_wx_X10_fact_0 (T.2 1) (T.1 19) (T.2 24) (T.2 25) (T.2 26) (T.1 20) (T.2 27) (T.2 28) (T.2 29) a b c post := by
  unfold AN_fact at hp
  rw [TM_cnt h 2 (by decide)] at hp
  have hc2 : iv 0 2 (T.2 1 2) := hB.2.2.1 2
  have sl1 : a = nI 1 → nI 1 < T.2 1 2 → (post (F3 (rowM M 2 a) b c) → ((¬ b = -1 → q_wx_X10_fact_30k1 (T.2 1) (T.1 19) (T.2 24) (T.2 25) (T.2 26) (T.1 20) (T.2 27) (T.2 28) (T.2 29) b c post) ∧ (b = -1 → ((¬ c = 0 → q_wx_X10_fact_30k1 (T.2 1) (T.1 19) (T.2 24) (T.2 25) (T.2 26) (T.1 20) (T.2 27) (T.2 28) (T.2 29) b c post) ∧ (c = 0 → post (T.1 20)))))) := by
    intro ea hl hp
    rw [ea] at hp
    have hR : R3 (T.1 20) (T.2 27) (T.2 28) (T.2 29) (rowM M 2 (nI 1)) := TM_sl h 2 1 (by decide) (by decide) hl
    have k30 : (b = -1 → ¬ c = 0) → q_wx_X10_fact_30k1 (T.2 1) (T.1 19) (T.2 24) (T.2 25) (T.2 26) (T.1 20) (T.2 27) (T.2 28) (T.2 29) b c post := by
      intro hbc
      refine ⟨fun h9 => ?_, fun h9 => ⟨fun h8 => ?_, fun h8 => ?_⟩⟩
      · unfold F3 at hp
        by_cases hb : b = -1
        · rw [if_pos hb, if_neg (hbc hb)] at hp; exact hp
        · rw [if_neg hb, if_neg (fun h7 => absurd h9 (Int32.not_lt.mpr h7.1.1))] at hp; exact hp
      · have hb : ¬ b = -1 := fun h7 => h9 (by rw [h7]; decide)
        exact e_look_fact hR (hB.2.2.2.2.2.2.2.2.2.2.2.2.2.1) hb ⟨Int32.not_lt.mp h9, h8⟩ hp
      · have hb : ¬ b = -1 := fun h7 => h9 (by rw [h7]; decide)
        unfold F3 at hp
        rw [if_neg hb, if_neg (fun h7 => h8 (by rw [hR.1]; exact h7.1.2))] at hp; exact hp
    refine ⟨fun hb => k30 (fun h9 => absurd h9 hb), fun hb => ⟨fun hcc => k30 (fun _ => hcc), fun hcc => ?_⟩⟩
    unfold F3 at hp
    rw [if_pos hb, if_pos hcc, ← hR.1] at hp
    exact hp
  have sl0 : a = nI 0 → nI 0 < T.2 1 2 → (post (F3 (rowM M 2 a) b c) → ((¬ b = -1 → q_wx_X10_fact_30k0 (T.2 1) (T.1 19) (T.2 24) (T.2 25) (T.2 26) (T.1 20) (T.2 27) (T.2 28) (T.2 29) b c post) ∧ (b = -1 → ((¬ c = 0 → q_wx_X10_fact_30k0 (T.2 1) (T.1 19) (T.2 24) (T.2 25) (T.2 26) (T.1 20) (T.2 27) (T.2 28) (T.2 29) b c post) ∧ (c = 0 → post (T.1 19)))))) := by
    intro ea hl hp
    rw [ea] at hp
    have hR : R3 (T.1 19) (T.2 24) (T.2 25) (T.2 26) (rowM M 2 (nI 0)) := TM_sl h 2 0 (by decide) (by decide) hl
    have k30 : (b = -1 → ¬ c = 0) → q_wx_X10_fact_30k0 (T.2 1) (T.1 19) (T.2 24) (T.2 25) (T.2 26) (T.1 20) (T.2 27) (T.2 28) (T.2 29) b c post := by
      intro hbc
      refine ⟨fun h9 => ?_, fun h9 => ⟨fun h8 => ?_, fun h8 => ?_⟩⟩
      · unfold F3 at hp
        by_cases hb : b = -1
        · rw [if_pos hb, if_neg (hbc hb)] at hp; exact hp
        · rw [if_neg hb, if_neg (fun h7 => absurd h9 (Int32.not_lt.mpr h7.1.1))] at hp; exact hp
      · have hb : ¬ b = -1 := fun h7 => h9 (by rw [h7]; decide)
        exact e_look_fact hR (hB.2.2.2.2.2.2.2.1) hb ⟨Int32.not_lt.mp h9, h8⟩ hp
      · have hb : ¬ b = -1 := fun h7 => h9 (by rw [h7]; decide)
        unfold F3 at hp
        rw [if_neg hb, if_neg (fun h7 => h8 (by rw [hR.1]; exact h7.1.2))] at hp; exact hp
    refine ⟨fun hb => k30 (fun h9 => absurd h9 hb), fun hb => ⟨fun hcc => k30 (fun _ => hcc), fun hcc => ?_⟩⟩
    unfold F3 at hp
    rw [if_pos hb, if_pos hcc, ← hR.1] at hp
    exact hp
  refine e_at hc2 (fun (hn : ¬ (0 ≤ a ∧ a < T.2 1 2)) => ?_) (fun ea hl => ?_) (fun ea hl => ?_)
  · rw [if_neg hn] at hp
    exact ⟨fun _ => hp, fun h9 => absurd h9 (by decide), fun h9 => absurd rfl h9⟩
  · rw [if_pos (by rw [ea]; exact ⟨by decide, hl⟩)] at hp
    exact ⟨fun h9 => absurd h9 (by decide), fun h9 => absurd h9 (by decide), fun _ _ => sl0 ea hl hp⟩
  · rw [if_pos (by rw [ea]; exact ⟨by decide, hl⟩)] at hp
    exact ⟨fun h9 => absurd h9 (by decide), fun _ => sl1 ea hl hp, fun _ h9 => absurd rfl h9⟩
set_option maxRecDepth 40000 in
theorem e_m_fact {M : Nat → Nat → Int32} {cd ev a b c : Int32} {post : Int32 → Int32 → Int32 → Prop} (hcnt : iv 0 2 (M 4 2)) (hE : mSig (M 7)) (hp : ∀ ev', post (AN_fact M a b c) 0 ev') : q_m_fact_0 cd (M 4) (M 7) ev a b c post := by
  unfold AN_fact at hp
  refine e_is (o := 2) (by decide) hcnt (fun hn => ⟨rfl, zi ?_⟩) (fun hy => ⟨rfl, io ?_⟩)
  · rw [if_neg hn] at hp; exact hp _
  · rw [if_pos hy] at hp
    obtain ⟨k, hk, ea⟩ := lt_nI (m := 2) hcnt hy
    have hcl : a.toNatClampNeg = k := by rw [ea]; exact nI_clamp (by omega)
    have row : ∀ j, rowM M 2 a j = M 7 (31 * k + j) := fun j => by unfold rowM; rw [hcl]; rfl
    have dd : ∀ {Q : Int32 → Prop}, Q (rowM M 2 a 0) → q_m_facts_0 (M 7) a Q := by
      intro Q hQ
      have e : (31 : Int32) * a = nI (31 * k) := by rw [ea]; exact pk_mul 31 k
      refine ⟨by rw [e]; exact vp_in_nI (by omega) (by omega), ?_⟩
      rw [e, nI_clamp (by omega)]
      rw [row 0, Nat.add_zero] at hQ
      exact hQ
    have hr0 : iv 0 10 (rowM M 2 a 0) := by rw [row 0, Nat.add_zero]; exact (hE k (by omega)).1
    have il := in_lt (x := b) (iv_w hr0 (by decide) : iv 0 1000 (rowM M 2 a 0))
    unfold F3 at hp
    refine ⟨fun hb => dd ?_, fun hb => ⟨fun hc => ?_, fun hc => dd ?_⟩⟩
    · rw [if_neg hb] at hp
      refine sp_in (fun h => iz ?_) (fun h1 h2 => oi (sp_in (fun h => iz ?_) (fun h3 h4 => oi ?_)))
      · rw [if_neg (fun h9 => h (il.mpr h9.1))] at hp; exact hp _
      · rw [if_neg (fun h9 => h h9.2)] at hp; exact hp _
      · rw [if_pos ⟨il.mp ⟨h1, h2⟩, h3, h4⟩] at hp
        obtain ⟨j, hj, eb⟩ := lt_nI (m := 10) hr0 (il.mp ⟨h1, h2⟩)
        obtain ⟨i, hi, ec⟩ := nI_of2 (M := 2) (n := 2) (by decide) (Int32.not_lt.mpr h3) h4
        have e : (((31 * a) + 1) + (3 * b)) + c = nI (31 * k + 1 + 3 * j + i) := by rw [ea, eb, ec]; exact ix3 31
        refine ⟨by rw [e]; exact vp_in_nI (by omega) (by omega), ?_⟩
        rw [e, nI_clamp (by omega)]
        rw [row, eb, ec, nI_clamp (by omega), nI_clamp (by omega), show 31 * k + (1 + 3 * j + i) = 31 * k + 1 + 3 * j + i by omega] at hp
        exact hp _
    · rw [if_pos hb, if_neg hc] at hp; exact hp _
    · rw [if_pos hb, if_pos hc] at hp; exact hp _
end
