theorem inc_ltc {x v a c : Int32} (hx : x = a) (e : v = a + c) (hs : a.toInt < (a + c).toInt) : x.toInt < v.toInt := by rw [hx, e]; exact hs
theorem iv_is1 {x : Int32} (hx : iv 0 1 x) (hc : ¬ x = 0) : x = 1 := (iv_01 hx).elim (fun h => absurd h hc) id
theorem tb_all {t : List Int32} {l h : Int} (ht : t.all (fun x => decide (l ≤ x.toInt) && decide (x.toInt ≤ h)) = true) (h0 : l ≤ 0 ∧ 0 ≤ h) (j : Nat) : iv l h (t.getD j 0) := by
  rw [List.getD_eq_getElem?_getD]
  cases e : t[j]? with
  | none => exact h0
  | some x =>
    have := List.all_eq_true.mp ht x (List.mem_of_getElem? e)
    simp only [Bool.and_eq_true, decide_eq_true_eq] at this
    exact this
theorem tbi_0 (j : Nat) : iv 0 20 (tbf_0 j) := tb_all (by decide +kernel) (by decide) j
theorem tbi_1 (j : Nat) : iv 0 3 (tbf_1 j) := tb_all (by decide +kernel) (by decide) j
theorem tbi_2 (j : Nat) : iv 0 1 (tbf_2 j) := tb_all (by decide +kernel) (by decide) j
theorem tbi_3 (j : Nat) : iv 0 99 (tbf_3 j) := tb_all (by decide +kernel) (by decide) j
theorem tbe_0 {a l h : Int} {x : Int32} (hx : iv a a x) (hs : l ≤ (tbf_0 a.toNat).toInt ∧ (tbf_0 a.toNat).toInt ≤ h) : iv l h (tbf_0 x.toNatClampNeg) := by
  have e : x.toNatClampNeg = a.toNat := by
    have e2 : x.toNatClampNeg = x.toInt.toNat := rfl
    have := hx.1; have := hx.2
    rw [e2]; congr 1; omega
  rw [e]; exact hs
theorem tbe_1 {a l h : Int} {x : Int32} (hx : iv a a x) (hs : l ≤ (tbf_1 a.toNat).toInt ∧ (tbf_1 a.toNat).toInt ≤ h) : iv l h (tbf_1 x.toNatClampNeg) := by
  have e : x.toNatClampNeg = a.toNat := by
    have e2 : x.toNatClampNeg = x.toInt.toNat := rfl
    have := hx.1; have := hx.2
    rw [e2]; congr 1; omega
  rw [e]; exact hs
theorem tbe_2 {a l h : Int} {x : Int32} (hx : iv a a x) (hs : l ≤ (tbf_2 a.toNat).toInt ∧ (tbf_2 a.toNat).toInt ≤ h) : iv l h (tbf_2 x.toNatClampNeg) := by
  have e : x.toNatClampNeg = a.toNat := by
    have e2 : x.toNatClampNeg = x.toInt.toNat := rfl
    have := hx.1; have := hx.2
    rw [e2]; congr 1; omega
  rw [e]; exact hs
theorem tbe_3 {a l h : Int} {x : Int32} (hx : iv a a x) (hs : l ≤ (tbf_3 a.toNat).toInt ∧ (tbf_3 a.toNat).toInt ≤ h) : iv l h (tbf_3 x.toNatClampNeg) := by
  have e : x.toNatClampNeg = a.toNat := by
    have e2 : x.toNatClampNeg = x.toInt.toNat := rfl
    have := hx.1; have := hx.2
    rw [e2]; congr 1; omega
  rw [e]; exact hs
def rNF (x1 huts echoes singers deeds facts voices : Int32) : Prop := (x1.toInt = 0 → ¬ huts = 9) ∧ (x1.toInt = 6 → ¬ echoes = 4) ∧ (x1.toInt = 8 → ¬ singers = 6) ∧ (10 ≤ x1.toInt ∧ x1.toInt < 16 → ¬ deeds = 40) ∧ (x1.toInt = 16 ∨ x1.toInt = 17 → ¬ facts = 10) ∧ (x1.toInt = 18 → ¬ voices = 9)
def rNB (x1 : Int32) (nums : Nat → Int32) (n : Nat) : Prop := ∀ j, j < n → ¬ nums j < tbf_2 (x1.toNatClampNeg * 3 + j) ∧ nums j ≤ tbf_3 (x1.toNatClampNeg * 3 + j)
theorem rb_iv {n a b : Int32} {l h : Int} (hh : ¬ n < a ∧ n ≤ b) (hs : l ≤ a.toInt ∧ b.toInt ≤ h) : iv l h n := ⟨Int.le_trans hs.1 (r_nlt hh.1), Int.le_trans (r_le hh.2) hs.2⟩
theorem iv_cl {x : Int32} {l h : Int} {n : Nat} (hx : iv l h x) (hs : 0 ≤ l ∧ h < n) : x.toNatClampNeg < n := by
  have e2 : x.toNatClampNeg = x.toInt.toNat := rfl
  have := hx.1; have := hx.2; omega
