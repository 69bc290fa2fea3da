def tB (T : TT) : Prop := iv 0 600 (T.1 0) ∧ (∀ j, iv (-128) 127 (T.2 0 j)) ∧ (∀ j, iv 0 2 (T.2 1 j)) ∧ iv 0 9 (T.1 3) ∧ iv 0 6 (T.1 4) ∧ iv 0 4 (T.1 7) ∧ iv 0 40 (T.1 17) ∧ iv 0 10 (T.1 19) ∧ iv 0 9 (T.1 21) ∧ iv 0 9 (T.1 10) ∧ iv 0 6 (T.1 11) ∧ iv 0 4 (T.1 14) ∧ iv 0 40 (T.1 18) ∧ iv 0 10 (T.1 20) ∧ iv 0 9 (T.1 23)
theorem tB_of {T : TT} (hT : tJ T) : tB T := ⟨hT.1 0, hT.2 0, hT.2 1, hT.1 3, hT.1 4, hT.1 7, hT.1 17, hT.1 19, hT.1 21, hT.1 10, hT.1 11, hT.1 14, hT.1 18, hT.1 20, hT.1 23⟩
theorem LDR_ext {huts singers villages dams echoes deep slide : Int32} {heights ladders minutes echoFrom echoTo homes talls known td td' : Nat → Int32} (h : LDR huts singers villages dams echoes deep slide heights ladders minutes echoFrom echoTo homes talls known td) (b0 : huts.toNatClampNeg ≤ 9) (b1 : singers.toNatClampNeg ≤ 6) (b4 : echoes.toNatClampNeg ≤ 4) (e : ∀ j, j < 132 → td j = td' j) : LDR huts singers villages dams echoes deep slide heights ladders minutes echoFrom echoTo homes talls known td' := by
  obtain ⟨e0, e1, e2, e3, e4, e5, e6, f1, f2, f3, f4, f5, f6⟩ := h
  rw [e0] at b0
  rw [e1] at b1
  rw [e4] at b4
  refine ⟨e0.trans (e 0 (by omega)), e1.trans (e 1 (by omega)), e2.trans (e 2 (by omega)), e3.trans (e 3 (by omega)), e4.trans (e 4 (by omega)), e5.trans (e 5 (by omega)), e6.trans (e 6 (by omega)), fun j hj => ?_, fun j hj => ?_, fun j hj => ?_, fun j hj => ?_, fun j hj => ?_, fun j hj => ?_⟩
  · rw [← e 0 (by omega)] at hj
    exact (f1 j hj).trans (e _ (by omega))
  · exact (f2 j hj).trans (e _ (by omega))
  · exact (f3 j hj).trans (e _ (by omega))
  · rw [← e 4 (by omega)] at hj
    exact ⟨(f4 j hj).1.trans (e _ (by omega)), (f4 j hj).2.trans (e _ (by omega))⟩
  · rw [← e 1 (by omega)] at hj
    exact ⟨(f5 j hj).1.trans (e _ (by omega)), (f5 j hj).2.trans (e _ (by omega))⟩
  · exact (f6 j hj).trans (e _ (by omega))
theorem R3_ext {c : Int32} {a b d td td' : Nat → Int32} {m w : Nat} (h : R3 c a b d td) (hc : c.toNatClampNeg ≤ m) (hm : 3 * m < w) (e : ∀ j, j < w → td j = td' j) : R3 c a b d td' := by
  have hc2 := hc
  rw [h.1] at hc2
  refine ⟨h.1.trans (e 0 (by omega)), fun j hj => ?_⟩
  rw [← e 0 (by omega)] at hj
  exact ⟨(h.2 j hj).1.trans (e _ (by omega)), (h.2 j hj).2.1.trans (e _ (by omega)), (h.2 j hj).2.2.trans (e _ (by omega))⟩
theorem CDR_ext {c st : Int32} {a b td td' : Nat → Int32} (h : CDR c st a b td) (hc : c.toNatClampNeg ≤ 9) (e : ∀ j, j < 20 → td j = td' j) : CDR c st a b td' := by
  have hc2 := hc
  rw [h.1] at hc2
  refine ⟨h.1.trans (e 0 (by omega)), h.2.1.trans (e 19 (by omega)), fun j hj => ?_⟩
  rw [← e 0 (by omega)] at hj
  exact ⟨(h.2.2 j hj).1.trans (e _ (by omega)), (h.2.2 j hj).2.trans (e _ (by omega))⟩
theorem SL_ext {o k : Nat} {T : TT} {td td' : Nat → Int32} (ho : o < 4) (hk : k < 2) (hB : tB T) (e : ∀ j, j < wD o → td j = td' j) (h : SL o k T td) : SL o k T td' := by
  have hoc : o = 0 ∨ o = 1 ∨ o = 2 ∨ o = 3 := by omega
  have hkc : k = 0 ∨ k = 1 := by omega
  rcases hoc with rfl | rfl | rfl | rfl <;> rcases hkc with rfl | rfl
  · exact LDR_ext h (cl_le (hB.2.2.2.1) (by decide)) (cl_le (hB.2.2.2.2.1) (by decide)) (cl_le (hB.2.2.2.2.2.1) (by decide)) e
  · exact LDR_ext h (cl_le (hB.2.2.2.2.2.2.2.2.2.1) (by decide)) (cl_le (hB.2.2.2.2.2.2.2.2.2.2.1) (by decide)) (cl_le (hB.2.2.2.2.2.2.2.2.2.2.2.1) (by decide)) e
  · exact R3_ext (m := 40) (w := 121) h (cl_le (hB.2.2.2.2.2.2.1) (by decide)) (by decide) e
  · exact R3_ext (m := 40) (w := 121) h (cl_le (hB.2.2.2.2.2.2.2.2.2.2.2.2.1) (by decide)) (by decide) e
  · exact R3_ext (m := 10) (w := 31) h (cl_le (hB.2.2.2.2.2.2.2.1) (by decide)) (by decide) e
  · exact R3_ext (m := 10) (w := 31) h (cl_le (hB.2.2.2.2.2.2.2.2.2.2.2.2.2.1) (by decide)) (by decide) e
  · exact CDR_ext h (cl_le (hB.2.2.2.2.2.2.2.2.1) (by decide)) e
  · exact CDR_ext h (cl_le (hB.2.2.2.2.2.2.2.2.2.2.2.2.2.2) (by decide)) e
/-- slot s of the reference's rows is as a told state of the class -/
def TM (T : TT) (M : Nat → Nat → Int32) (s : Nat) : Prop := M 1 s = T.1 0 ∧ (∀ j, j < (T.1 0).toNatClampNeg → M 0 (600 * s + j) = T.2 0 j) ∧ M 2 s = T.1 1 ∧ M 3 s = T.1 2 ∧ (∀ o, o < 4 → M 4 (4 * s + o) = T.2 1 o) ∧ (∀ o k, o < 4 → k < 2 → nI k < T.2 1 o → SL o k T (fun j => M (5 + o) (2 * wD o * s + wD o * k + j)))
theorem wD_R : ∀ o, o < 4 → wR (5 + o) = 2 * wD o := by decide
theorem TM_mv {T : TT} {M M' : Nat → Nat → Int32} {s s' : Nat} (hB : tB T) (h : ∀ c, c < 9 → ∀ i, i < wR c → M' c (wR c * s' + i) = M c (wR c * s + i)) (hT : TM T M s) : TM T M' s' := by
  obtain ⟨h1, h2, h3, h4, h5, h6⟩ := hT
  have one : ∀ c, (c = 1 ∨ c = 2 ∨ c = 3) → M' c s' = M c s := by
    intro c hc
    have hw : wR c = 1 := by rcases hc with rfl | rfl | rfl <;> rfl
    have g := h c (by omega) 0 (by omega)
    rw [hw, Nat.one_mul, Nat.one_mul, Nat.add_zero, Nat.add_zero] at g
    exact g
  refine ⟨(one 1 (by omega)).trans h1, fun j hj => ?_, (one 2 (by omega)).trans h3, (one 3 (by omega)).trans h4, fun o ho => (h 4 (by omega) o ho).trans (h5 o ho), fun o k ho hk hl => ?_⟩
  · have hle : (T.1 0).toNatClampNeg ≤ 600 := cl_le hB.1 (by decide)
    exact (h 0 (by omega) j (by have : wR 0 = 600 := rfl; omega)).trans (h2 j hj)
  · refine SL_ext ho hk hB (fun j hj => ?_) (h6 o k ho hk hl)
    have hw := wD_R o ho
    have hkw : wD o * k + j < 2 * wD o := by
      have hkc : k = 0 ∨ k = 1 := by omega
      rcases hkc with rfl | rfl
      · rw [Nat.mul_zero]; omega
      · rw [Nat.mul_one]; omega
    have g := h (5 + o) (by omega) (wD o * k + j) (by rw [hw]; exact hkw)
    rw [hw] at g
    show M (5 + o) (2 * wD o * s + wD o * k + j) = M' (5 + o) (2 * wD o * s' + wD o * k + j)
    rw [Nat.add_assoc, Nat.add_assoc]
    exact g.symm
theorem TM_cp {T T' : TT} {M : Nat → Nat → Int32} {s : Nat} (hc : tCP T' T) (hT : TM T M s) : TM T' M s := by
  obtain ⟨h1, h2, h3, h4, h5, h6⟩ := hT
  obtain ⟨c1, c2, c3, c4⟩ := hc
  refine ⟨h1.trans (c1 0 (by omega)).symm, fun j hj => ?_, h3.trans (c1 1 (by omega)).symm, h4.trans (c1 2 (by omega)).symm, fun o ho => (h5 o ho).trans (c3 o ho).symm, fun o k ho hk hl => c4 o k _ ho hk (h6 o k ho hk (by rw [← c3 o ho]; exact hl))⟩
  rw [c1 0 (by omega)] at hj
  exact (h2 j hj).trans (c2 j hj).symm
/-- the relation that all calls keep -/
def RF (T : TT) (M : Nat → Nat → Int32) (I : Nat → TT) (mi : Nat → Option Nat) : Prop := TM T M 0 ∧ ∀ j, j < 3 → (mi j = none ↔ M 9 j = 0) ∧ (¬ mi j = none → TM (I j) M (j + 1))
theorem mCP_out {M M' : Nat → Nat → Int32} {f g s : Nat} (h : mCP M M' f g) (hs : ¬ s = g) : ∀ c, c < 9 → ∀ i, i < wR c → M' c (wR c * s + i) = M c (wR c * s + i) := by
  intro c hc i hi
  refine (h c hc).2 _ ?_
  rcases Nat.lt_or_ge s g with hl | hl
  · left
    have : wR c * (s + 1) ≤ wR c * g := Nat.mul_le_mul_left _ hl
    rw [Nat.mul_succ] at this
    omega
  · right
    have hl2 : g + 1 ≤ s := by omega
    have : wR c * (g + 1) ≤ wR c * s := Nat.mul_le_mul_left _ hl2
    rw [Nat.mul_succ] at this
    omega
