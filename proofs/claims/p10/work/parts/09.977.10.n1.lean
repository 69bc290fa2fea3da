/-- bits of a number -/
def hb (s : Int32) (k : Nat) : Bool := s.toBitVec.getLsbD k
theorem sm_tab : ∀ k, k < 31 → ((nI k).toBitVec.smod 32).toNat = k := by decide +kernel
theorem hb_sh {s : Int32} {k : Nat} (hk : k < 31) : (s >>> (nI k &&& 31)) &&& 1 = if hb s k = true then 1 else 0 := by
  have e : (nI k &&& 31 : Int32) = nI k := by
    rw [pk_andN (n := k) (by omega) (m := 31) 5 (by decide), Nat.mod_eq_of_lt (by omega)]
  have sh : (s >>> nI k).toBitVec = s.toBitVec.sshiftRight k := by
    have h3 : (s >>> nI k).toBitVec = s.toBitVec.sshiftRight' ((nI k).toBitVec.smod 32) := rfl
    rw [h3, BitVec.sshiftRight_eq', sm_tab k hk]
  have g0 : (s >>> nI k).toBitVec.getLsbD 0 = hb s k := by
    unfold hb
    rw [sh, BitVec.getLsbD_sshiftRight]
    simp [show k < 32 by omega]
  have t0 : (s >>> nI k).toBitVec.getLsbD 0 = decide ((s >>> nI k).toBitVec.toNat % 2 = 1) := by
    rw [BitVec.getLsbD, Nat.testBit_zero]
  rw [e, pk_and (s >>> nI k) (m := 1) 1 (by decide), ← g0, t0]
  by_cases h : (s >>> nI k).toBitVec.toNat % 2 = 1
  · rw [decide_eq_true h, if_pos rfl, show (2 : Nat) ^ 1 = 2 from rfl, h]; rfl
  · have h2 : (s >>> nI k).toBitVec.toNat % 2 = 0 := by omega
    rw [decide_eq_false h, if_neg (by decide), show (2 : Nat) ^ 1 = 2 from rfl, h2]; rfl
theorem e_hasX {s : Int32} {k : Nat} {post : Int32 → Prop} (hk : k < 31) (h0 : hb s k = false → post 0) (h1 : hb s k = true → post 1) : q_z_X10_has_0 s (nI k) post := by
  unfold q_z_X10_has_0
  rw [hb_sh hk]
  cases h : hb s k with
  | true => rw [if_pos rfl]; exact ⟨fun h9 => absurd h9 (by decide), fun _ => h1 h⟩
  | false => rw [if_neg (by decide)]; exact ⟨fun _ => h0 h, fun h9 => absurd rfl h9⟩
theorem e_damX {s : Int32} {k : Nat} {post : Int32 → Prop} (hk : k < 31) (h0 : hb s k = false → post 0) (h1 : hb s k = true → post 1) : q_wl_X2_isDam_0 s (nI k) post := by
  unfold q_wl_X2_isDam_0
  rw [hb_sh hk]
  cases h : hb s k with
  | true => rw [if_pos rfl]; exact ⟨fun h9 => absurd h9 (by decide), fun _ => h1 h⟩
  | false => rw [if_neg (by decide)]; exact ⟨fun _ => h0 h, fun h9 => absurd rfl h9⟩
theorem e_hasM {s : Int32} {k : Nat} {post : Int32 → Prop} (hk : k < 31) (h0 : hb s k = false → post 0) (h1 : hb s k = true → post 1) : q_m_has_0 s (nI k) post := by
  unfold q_m_has_0
  rw [hb_sh hk]
  cases h : hb s k with
  | true =>
    rw [if_pos rfl]
    first | exact ⟨fun h9 => absurd rfl h9, fun _ => h1 h⟩ | exact ⟨fun _ => h1 h, fun h9 => absurd rfl h9⟩
  | false =>
    rw [if_neg (by decide)]
    first | exact ⟨fun _ => h0 h, fun h9 => absurd h9 (by decide)⟩ | exact ⟨fun h9 => absurd h9 (by decide), fun _ => h0 h⟩
theorem hb_0 (k : Nat) : hb 0 k = false := by
  unfold hb
  rw [show (0 : Int32).toBitVec = 0#32 from rfl, BitVec.getLsbD_zero]
theorem hb_or (s t : Int32) (k : Nat) : hb (s ||| t) k = (hb s k || hb t k) := by
  unfold hb
  rw [Int32.toBitVec_or, BitVec.getLsbD_or]
theorem hb_and (s t : Int32) (k : Nat) : hb (s &&& t) k = (hb s k && hb t k) := by
  unfold hb
  rw [Int32.toBitVec_and, BitVec.getLsbD_and]
theorem hb_not (t : Int32) {k : Nat} (hk : k < 32) : hb (t ^^^ (-1)) k = !hb t k := by
  unfold hb
  rw [Int32.toBitVec_xor, BitVec.getLsbD_xor, show (-1 : Int32).toBitVec = BitVec.allOnes 32 from by decide, BitVec.getLsbD_allOnes]
  simp [hk]
theorem hb_bit_tab : ((List.range 31).all fun i => (List.range 31).all fun k => hb ((1 : Int32) <<< (nI i &&& 31)) k == decide (i = k)) = true := by decide +kernel
theorem hb_bit {i k : Nat} (hi : i < 31) (hk : k < 31) : hb ((1 : Int32) <<< (nI i &&& 31)) k = decide (i = k) := by
  have h := List.all_eq_true.mp (List.all_eq_true.mp hb_bit_tab i (List.mem_range.mpr hi)) k (List.mem_range.mpr hk)
  exact eq_of_beq h
/-- a set of bits below n -/
theorem hb_ext {s t : Int32} {n : Nat} (hs : iv 0 (2 ^ n - 1 : Nat) s) (ht : iv 0 (2 ^ n - 1 : Nat) t) (hn : n ≤ 30) (h : ∀ k, k < n → hb s k = hb t k) : s = t := by
  obtain ⟨a, rfl, -, ha, -⟩ := iv_nI hs (by decide)
  obtain ⟨b, rfl, -, hb', -⟩ := iv_nI ht (by decide)
  have h2 : 2 ^ n ≤ 2 ^ 30 := Nat.pow_le_pow_right (by decide) hn
  have h0 : 0 < 2 ^ n := Nat.two_pow_pos n
  have tb : ∀ (m k : Nat), m < 2 ^ 31 → hb (nI m) k = m.testBit k := by
    intro m k hm
    unfold hb
    rw [BitVec.getLsbD, iv_tn hm]
  have e : a = b := by
    apply Nat.eq_of_testBit_eq
    intro k
    by_cases hk : k < n
    · rw [← tb a k (by omega), ← tb b k (by omega)]
      exact h k hk
    · have ha2 : a < 2 ^ k := Nat.lt_of_lt_of_le (by omega) (Nat.pow_le_pow_right (by decide) (Nat.le_of_not_lt hk))
      have hb2 : b < 2 ^ k := Nat.lt_of_lt_of_le (by omega) (Nat.pow_le_pow_right (by decide) (Nat.le_of_not_lt hk))
      rw [Nat.testBit_lt_two_pow ha2, Nat.testBit_lt_two_pow hb2]
  rw [e]
