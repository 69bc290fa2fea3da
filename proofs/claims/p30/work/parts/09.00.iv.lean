section
/-- an int between two bounds -/
def iv (l h : Int) (x : Int32) : Prop := l ≤ x.toInt ∧ x.toInt ≤ h
theorem iv_top (x : Int32) : iv (-2147483648) 2147483647 x := by
  have h1 := Int32.le_toInt x
  have h2 := Int32.toInt_lt x
  exact ⟨by omega, by omega⟩
theorem iv_lit {l h : Int} {x : Int32} (hh : l ≤ x.toInt ∧ x.toInt ≤ h) : iv l h x := hh
theorem iv_w {a b l h : Int} {x : Int32} (hx : iv a b x) (hs : l ≤ a ∧ b ≤ h) : iv l h x := ⟨Int.le_trans hs.1 hx.1, Int.le_trans hx.2 hs.2⟩
theorem iv_eq {l h : Int} {v e : Int32} (he : v = e) (hx : iv l h e) : iv l h v := he ▸ hx
theorem iv_emp {a b : Int} {x : Int32} (hx : iv a b x) (hs : b < a) : False := by have := hx.1; have := hx.2; omega
theorem r_lt {x y : Int32} (h : x < y) : x.toInt < y.toInt := Int32.lt_iff_toInt_lt.mp h
theorem r_le {x y : Int32} (h : x ≤ y) : x.toInt ≤ y.toInt := Int32.le_iff_toInt_le.mp h
theorem r_nlt {x y : Int32} (h : ¬ x < y) : y.toInt ≤ x.toInt := Int.not_lt.mp (fun h2 => h (Int32.lt_iff_toInt_lt.mpr h2))
theorem r_nle {x y : Int32} (h : ¬ x ≤ y) : y.toInt < x.toInt := Int.not_le.mp (fun h2 => h (Int32.le_iff_toInt_le.mpr h2))
theorem iv_lta {a b c d l h : Int} {x y : Int32} (hc : x.toInt < y.toInt) (hx : iv a b x) (hy : iv c d y) (hs : l ≤ a ∧ (b ≤ h ∨ d - 1 ≤ h)) : iv l h x := by
  obtain ⟨h1, h2⟩ := hx; obtain ⟨h3, h4⟩ := hy; exact ⟨by omega, by omega⟩
theorem iv_ltb {a b c d l h : Int} {x y : Int32} (hc : x.toInt < y.toInt) (hx : iv a b x) (hy : iv c d y) (hs : (l ≤ c ∨ l ≤ a + 1) ∧ d ≤ h) : iv l h y := by
  obtain ⟨h1, h2⟩ := hx; obtain ⟨h3, h4⟩ := hy; exact ⟨by omega, by omega⟩
theorem iv_lea {a b c d l h : Int} {x y : Int32} (hc : x.toInt ≤ y.toInt) (hx : iv a b x) (hy : iv c d y) (hs : l ≤ a ∧ (b ≤ h ∨ d ≤ h)) : iv l h x := by
  obtain ⟨h1, h2⟩ := hx; obtain ⟨h3, h4⟩ := hy; exact ⟨by omega, by omega⟩
theorem iv_leb {a b c d l h : Int} {x y : Int32} (hc : x.toInt ≤ y.toInt) (hx : iv a b x) (hy : iv c d y) (hs : (l ≤ c ∨ l ≤ a) ∧ d ≤ h) : iv l h y := by
  obtain ⟨h1, h2⟩ := hx; obtain ⟨h3, h4⟩ := hy; exact ⟨by omega, by omega⟩
theorem iv_eqa {a b c d l h : Int} {x y : Int32} (hc : x = y) (hx : iv a b x) (hy : iv c d y) (hs : (l ≤ a ∨ l ≤ c) ∧ (b ≤ h ∨ d ≤ h)) : iv l h x := by
  subst hc; obtain ⟨h1, h2⟩ := hx; obtain ⟨h3, h4⟩ := hy; exact ⟨by omega, by omega⟩
theorem iv_eqb {a b c d l h : Int} {x y : Int32} (hc : x = y) (hx : iv a b x) (hy : iv c d y) (hs : (l ≤ a ∨ l ≤ c) ∧ (b ≤ h ∨ d ≤ h)) : iv l h y := by
  subst hc; obtain ⟨h1, h2⟩ := hx; obtain ⟨h3, h4⟩ := hy; exact ⟨by omega, by omega⟩
theorem iv_ne {a b c d l h : Int} {x y : Int32} (hc : ¬ x = y) (hx : iv a b x) (hy : iv c d y) (hs : c = d ∧ (l ≤ a ∨ (a = c ∧ l ≤ a + 1)) ∧ (b ≤ h ∨ (b = c ∧ b - 1 ≤ h))) : iv l h x := by
  obtain ⟨h1, h2⟩ := hx; obtain ⟨h3, h4⟩ := hy
  have h5 : x.toInt ≠ y.toInt := fun h => hc (Int32.toInt_inj.mp h)
  exact ⟨by omega, by omega⟩
theorem iv_add {a b c d l h : Int} {x y : Int32} (hx : iv a b x) (hy : iv c d y) (hs : -2147483648 ≤ a + c ∧ b + d ≤ 2147483647 ∧ l ≤ a + c ∧ b + d ≤ h) : iv l h (x + y) := by
  obtain ⟨h1, h2⟩ := hx; obtain ⟨h3, h4⟩ := hy
  have e : (x + y).toInt = x.toInt + y.toInt := by
    rw [Int32.toInt_add]; exact Int.bmod_eq_of_le (by omega) (by omega)
  unfold iv; rw [e]; exact ⟨by omega, by omega⟩
theorem iv_sub {a b c d l h : Int} {x y : Int32} (hx : iv a b x) (hy : iv c d y) (hs : -2147483648 ≤ a - d ∧ b - c ≤ 2147483647 ∧ l ≤ a - d ∧ b - c ≤ h) : iv l h (x - y) := by
  obtain ⟨h1, h2⟩ := hx; obtain ⟨h3, h4⟩ := hy
  have e : (x - y).toInt = x.toInt - y.toInt := by
    rw [Int32.toInt_sub]; exact Int.bmod_eq_of_le (by omega) (by omega)
  unfold iv; rw [e]; exact ⟨by omega, by omega⟩
theorem iv_mul {a b c d l h : Int} {x y : Int32} (hx : iv a b x) (hy : iv c d y) (hs : 0 ≤ a ∧ 0 ≤ c ∧ b * d ≤ 2147483647 ∧ l ≤ a * c ∧ b * d ≤ h) : iv l h (x * y) := by
  obtain ⟨h1, h2⟩ := hx; obtain ⟨h3, h4⟩ := hy; obtain ⟨s1, s2, s3, s4, s5⟩ := hs
  have u1 : x.toInt * y.toInt ≤ b * d := Int.mul_le_mul h2 h4 (by omega) (by omega)
  have u2 : a * c ≤ x.toInt * y.toInt := Int.mul_le_mul h1 h3 s2 (by omega)
  have u3 : 0 ≤ a * c := Int.mul_nonneg s1 s2
  have e : (x * y).toInt = x.toInt * y.toInt := by
    rw [Int32.toInt_mul]; exact Int.bmod_eq_of_le (by omega) (by omega)
  unfold iv; rw [e]; exact ⟨by omega, by omega⟩
theorem iv_nI {a b : Int} {x : Int32} (hx : iv a b x) (ha : 0 ≤ a) : ∃ n : Nat, x = nI n ∧ a ≤ n ∧ (n : Int) ≤ b ∧ n < 2 ^ 31 := by
  obtain ⟨h1, h2⟩ := hx
  have h0 : ¬ x < 0 := fun h => by
    have := r_lt h
    have e : (0 : Int32).toInt = 0 := rfl
    omega
  obtain ⟨n, hn, rfl⟩ := nI_of h0
  rw [nI_toInt hn] at h1 h2
  exact ⟨n, rfl, h1, h2, hn⟩
theorem iv_ofN {l h : Int} {n : Nat} (hn : n < 2 ^ 31) (h1 : l ≤ n) (h2 : (n : Int) ≤ h) : iv l h (nI n) := by
  unfold iv; rw [nI_toInt hn]; exact ⟨h1, h2⟩
theorem iv_tn {n : Nat} (h : n < 2 ^ 31) : (nI n).toBitVec.toNat = n := pk_tn (by omega)
theorem iv_ofBv {x : Int32} (h : x.toBitVec.toNat < 2 ^ 31) : x = nI x.toBitVec.toNat := by
  apply Int32.toBitVec_inj.mp
  apply BitVec.eq_of_toNat_eq
  rw [iv_tn h]
theorem iv_andr {c d l h : Int} {x y : Int32} (hy : iv c d y) (hs : 0 ≤ c ∧ l ≤ 0 ∧ d ≤ h) : iv l h (x &&& y) := by
  obtain ⟨n, rfl, h1, h2, hn⟩ := iv_nI hy hs.1
  have e : (x &&& nI n).toBitVec.toNat ≤ n := by
    rw [Int32.toBitVec_and, BitVec.toNat_and, iv_tn hn]; exact Nat.and_le_right
  rw [iv_ofBv (x := x &&& nI n) (by omega)]
  exact iv_ofN (by omega) (by omega) (by omega)
theorem iv_andl {c d l h : Int} {x y : Int32} (hy : iv c d x) (hs : 0 ≤ c ∧ l ≤ 0 ∧ d ≤ h) : iv l h (x &&& y) := by
  obtain ⟨n, rfl, h1, h2, hn⟩ := iv_nI hy hs.1
  have e : (nI n &&& y).toBitVec.toNat ≤ n := by
    rw [Int32.toBitVec_and, BitVec.toNat_and, iv_tn hn]; exact Nat.and_le_left
  rw [iv_ofBv (x := nI n &&& y) (by omega)]
  exact iv_ofN (by omega) (by omega) (by omega)
theorem iv_or (n : Nat) {a b c d l h : Int} {x y : Int32} (hx : iv a b x) (hy : iv c d y) (hs : 0 ≤ a ∧ 0 ≤ c ∧ b < (2 ^ n : Nat) ∧ d < (2 ^ n : Nat) ∧ n ≤ 30 ∧ l ≤ 0 ∧ (2 ^ n : Nat) - 1 ≤ h) : iv l h (x ||| y) := by
  obtain ⟨p, rfl, h1, h2, hp⟩ := iv_nI hx hs.1
  obtain ⟨q, rfl, h3, h4, hq⟩ := iv_nI hy hs.2.1
  obtain ⟨-, -, s3, s4, s5, s6, s7⟩ := hs
  have e : (nI p ||| nI q).toBitVec.toNat < 2 ^ n := by
    rw [Int32.toBitVec_or, BitVec.toNat_or, iv_tn hp, iv_tn hq]
    exact Nat.or_lt_two_pow (by omega) (by omega)
  have e2 : 2 ^ n ≤ 2 ^ 30 := Nat.pow_le_pow_right (by omega) s5
  rw [iv_ofBv (x := nI p ||| nI q) (by omega)]
  exact iv_ofN (by omega) (by omega) (by omega)
theorem iv_sh1 : ∀ j, j < 31 → ((1 : Int32) <<< (nI j &&& 31)) = nI (2 ^ j) := by decide +kernel
theorem iv_shl1 {a b c d l h : Int} {x y : Int32} (hx : iv a b x) (hy : iv c d y) (hs : a = 1 ∧ b = 1 ∧ 0 ≤ c ∧ d ≤ 30 ∧ l ≤ 1 ∧ (2 ^ d.toNat : Nat) ≤ h) : iv l h (x <<< (y &&& 31)) := by
  obtain ⟨s1, s2, s3, s4, s5, s6⟩ := hs
  obtain ⟨n, rfl, h1, h2, hn⟩ := iv_nI hy s3
  have e1 : x = 1 := by
    obtain ⟨g1, g2⟩ := hx
    apply Int32.toInt_inj.mp
    have : (1 : Int32).toInt = 1 := rfl
    omega
  rw [e1, iv_sh1 n (by omega)]
  have e2 : 2 ^ n ≤ 2 ^ d.toNat := Nat.pow_le_pow_right (by omega) (by omega)
  have e3 : 2 ^ n ≤ 2 ^ 30 := Nat.pow_le_pow_right (by omega) (by omega)
  have e4 : 0 < 2 ^ n := Nat.pow_pos (by omega)
  exact iv_ofN (by omega) (by omega) (by omega)
theorem iv_shrN {n : Nat} (hn : n < 2 ^ 31) (y : Int32) : ∃ m, m ≤ n ∧ nI n >>> (y &&& 31) = nI m := ⟨_, Nat.div_le_self _ _, pk_shrN hn (y &&& 31) _ rfl⟩
theorem iv_shr {a b l h : Int} {x y : Int32} (hx : iv a b x) (hs : 0 ≤ a ∧ l ≤ 0 ∧ b ≤ h) : iv l h (x >>> (y &&& 31)) := by
  obtain ⟨n, rfl, h1, h2, hn⟩ := iv_nI hx hs.1
  obtain ⟨m, hm, e⟩ := iv_shrN hn y
  rw [e]
  exact iv_ofN (by omega) (by omega) (by omega)
theorem iv_rem {a b c d l h : Int} {x y : Int32} (hx : iv a b x) (hy : iv c d y) (hs : 0 ≤ a ∧ 0 < c ∧ l ≤ 0 ∧ d - 1 ≤ h) : iv l h (x - x / y * y) := by
  obtain ⟨n, rfl, h1, h2, hn⟩ := iv_nI hx hs.1
  obtain ⟨m, rfl, h3, h4, hm⟩ := iv_nI hy (by omega)
  rw [pk_rem hn (by omega) hm]
  have e := Nat.mod_lt n (show 0 < m by omega)
  exact iv_ofN (by omega) (by omega) (by omega)
theorem iv_div {a b c d l h : Int} {x y : Int32} (hx : iv a b x) (hy : iv c d y) (hs : 0 ≤ a ∧ 0 < c ∧ l ≤ 0 ∧ b / c ≤ h) : iv l h (x / y) := by
  obtain ⟨n, rfl, h1, h2, hn⟩ := iv_nI hx hs.1
  obtain ⟨m, rfl, h3, h4, hm⟩ := iv_nI hy (by omega)
  rw [pk_div hn (by omega) hm]
  have e : n / m ≤ n := Nat.div_le_self _ _
  have e3 : n / m * m ≤ n := Nat.div_mul_le_self n m
  generalize n / m = k at e e3 ⊢
  have e2 : (k : Int) ≤ b / c := by
    rw [Int.le_ediv_iff_mul_le hs.2.1]
    have e4 : (k : Int) * c ≤ (k : Int) * (m : Int) := Int.mul_le_mul_of_nonneg_left h3 (Int.natCast_nonneg k)
    have e5 : (k : Int) * (m : Int) = ((k * m : Nat) : Int) := by simp
    omega
  exact iv_ofN (by omega) (by omega) (by omega)
theorem iv_ushr16 (x : Int32) : iv 0 65535 (Int32.toUInt32 x >>> (Int32.toUInt32 16 &&& Int32.toUInt32 31)).toInt32 := by
  have hb : x.toBitVec.toNat < 2 ^ 32 := x.toBitVec.isLt
  have e : x = nI x.toBitVec.toNat := by
    apply Int32.toBitVec_inj.mp
    apply BitVec.eq_of_toNat_eq
    rw [pk_tn hb]
  rw [e, pk_ushrN hb 16 16 (by decide)]
  exact iv_ofN (by omega) (by omega) (by omega)
theorem iv_i2b (x : Int32) : iv (-128) 127 (Int32.toInt8 x).toInt32 := by
  unfold iv
  rw [lg_i2b_toInt]
  simp only [Int.bmod]
  constructor <;> split <;> omega
theorem iv_max {a b c d l h : Int} {x y : Int32} (hx : iv a b x) (hy : iv c d y) (hs : (l ≤ a ∨ l ≤ c) ∧ b ≤ h ∧ d ≤ h) : iv l h (if x < y then y else x) := by
  obtain ⟨h1, h2⟩ := hx; obtain ⟨h3, h4⟩ := hy
  split
  · rename_i g; have := r_lt g; exact ⟨by omega, by omega⟩
  · rename_i g; have := r_nlt g; exact ⟨by omega, by omega⟩
theorem iv_min {a b c d l h : Int} {x y : Int32} (hx : iv a b x) (hy : iv c d y) (hs : l ≤ a ∧ l ≤ c ∧ (b ≤ h ∨ d ≤ h)) : iv l h (if y < x then y else x) := by
  obtain ⟨h1, h2⟩ := hx; obtain ⟨h3, h4⟩ := hy
  split
  · rename_i g; have := r_lt g; exact ⟨by omega, by omega⟩
  · rename_i g; have := r_nlt g; exact ⟨by omega, by omega⟩
theorem iv_in {a b : Int} {n : Nat} {x : Int32} (hx : iv a b x) (hs : 0 ≤ a ∧ b < n) : vp_in x n := by
  obtain ⟨h1, h2⟩ := hx
  intro h
  rcases h with h | h
  · have := r_lt h
    have e : (0 : Int32).toInt = 0 := rfl
    omega
  · have e2 : x.toNatClampNeg = x.toInt.toNat := rfl
    omega
theorem iv_ne0 {a b : Int} {x : Int32} (hx : iv a b x) (hs : 0 < a ∨ b < 0) : ¬ x = 0 := by
  intro h; subst h
  obtain ⟨h1, h2⟩ := hx
  have e : (0 : Int32).toInt = 0 := rfl
  omega
theorem iv_nn {a b : Int} {x : Int32} (hx : iv a b x) (hs : 0 ≤ a) : ¬ x < 0 := by
  intro h
  have := r_lt h
  obtain ⟨h1, h2⟩ := hx
  have e : (0 : Int32).toInt = 0 := rfl
  omega
theorem iv_len {a b c d : Int} {n : Nat} {x y : Int32} (hx : iv a b x) (hy : iv c d y) (hs : 0 ≤ a ∧ 0 ≤ c ∧ b + d ≤ n) : x.toNatClampNeg + y.toNatClampNeg ≤ n := by
  obtain ⟨h1, h2⟩ := hx; obtain ⟨h3, h4⟩ := hy
  have e1 : x.toNatClampNeg = x.toInt.toNat := rfl
  have e2 : y.toNatClampNeg = y.toInt.toNat := rfl
  omega
theorem iv_01 {x : Int32} (hx : iv 0 1 x) : x = 0 ∨ x = 1 := by
  obtain ⟨h1, h2⟩ := hx
  rcases (show x.toInt = 0 ∨ x.toInt = 1 by omega) with h | h
  · exact Or.inl (Int32.toInt_inj.mp h)
  · exact Or.inr (Int32.toInt_inj.mp h)
theorem iv_nb {a b : Int} {x : Int32} (hx : iv a b x) (hs : 0 ≤ a ∧ b ≤ 1) : narrow .boolean (.int x) = .int x := by
  rcases iv_01 (iv_w hx hs) with h | h <;> subst h <;> rfl
theorem iv_upd {l h : Int} {f g : Nat → Int32} {k : Nat} {v : Int32} (e : g = upd f k v) (hf : ∀ j, iv l h (f j)) (hv : iv l h v) : ∀ j, iv l h (g j) := by
  intro j; subst e; unfold upd; split
  · exact hv
  · exact hf j
theorem iv_updB {f g : Nat → Int32} {k : Nat} {v : Int32} (e : g = upd f k (vp_nar .byte v)) (hf : ∀ j, iv (-128) 127 (f j)) : ∀ j, iv (-128) 127 (g j) := iv_upd e hf (iv_i2b v)
theorem iv_narZ (v : Int32) : iv 0 1 (vp_nar .boolean v) := by
  have e : vp_nar .boolean v = v &&& 1 := rfl
  rw [e]
  exact iv_andr (iv_lit (l := 1) (h := 1) (by decide)) (by decide)
theorem iv_updZ {f g : Nat → Int32} {k : Nat} {v : Int32} (e : g = upd f k (vp_nar .boolean v)) (hf : ∀ j, iv 0 1 (f j)) : ∀ j, iv 0 1 (g j) := iv_upd e hf (iv_narZ v)
theorem iv_cpy {l h : Int} {f g g1 : Nat → Int32} {a b n : Nat} (e : g1 = va_cpy f g a b n) (hf : ∀ j, iv l h (f j)) (hg : ∀ j, iv l h (g j)) : ∀ j, iv l h (g1 j) := by
  intro j; subst e; unfold va_cpy; split
  · exact hf _
  · exact hg j
theorem iv_fitB {x : Int32} (hx : iv (-128) 127 x) : fits .byte (.int x) = true := by
  obtain ⟨h1, h2⟩ := hx
  have e1 : (-128 : Int32) ≤ x := Int32.le_iff_toInt_le.mpr (by have : (-128 : Int32).toInt = -128 := rfl; omega)
  have e2 : x ≤ (127 : Int32) := Int32.le_iff_toInt_le.mpr (by have : (127 : Int32).toInt = 127 := rfl; omega)
  simp [fits, e1, e2]
theorem iv_sw {a b lo hi : Int} {x : Int32} (hc : x.toInt < lo ∨ hi < x.toInt) (hx : iv a b x) (hs : lo ≤ a ∧ b ≤ hi) : False := by
  obtain ⟨h1, h2⟩ := hx; omega
theorem iv_one {y : Int32} (hy : iv 1 1 y) : y = 1 := by
  obtain ⟨h1, h2⟩ := hy
  apply Int32.toInt_inj.mp
  have : (1 : Int32).toInt = 1 := rfl
  omega
theorem iv_bit1 {x y : Int32} (h : ¬ (x &&& 1) = y) (hy : iv 0 0 y) : (x &&& 1) = 1 := by
  have e0 : y = 0 := by
    obtain ⟨h1, h2⟩ := hy
    apply Int32.toInt_inj.mp
    have : (0 : Int32).toInt = 0 := rfl
    omega
  subst e0
  rcases iv_01 (iv_andr (x := x) (iv_lit (l := 1) (h := 1) (x := 1) (by decide)) (by decide)) with h2 | h2
  · exact absurd h2 h
  · exact h2
theorem iv_bitk (n : Nat) {a b c d l h : Int} {s k : Int32} (hb : ((s >>> (k &&& 31)) &&& 1) = 1) (hS : iv a b s) (hk : iv c d k) (hs : 0 ≤ a ∧ b < (2 ^ n : Nat) ∧ n ≤ 30 ∧ -1 ≤ c ∧ d ≤ 31 ∧ (l ≤ 0 ∨ l ≤ c) ∧ (d ≤ h ∨ (n : Int) - 1 ≤ h)) : iv l h k := by
  obtain ⟨m, rfl, h1, h2, hm⟩ := iv_nI hS hs.1
  obtain ⟨-, s2, s3, s4, s5, s6, s7⟩ := hs
  obtain ⟨h3, h4⟩ := hk
  by_cases hneg : k.toInt = -1
  · exfalso
    have e : k = -1 := Int32.toInt_inj.mp hneg
    subst e
    have e2 : nI m >>> ((-1 : Int32) &&& 31) = nI (m / 2 ^ 31) := pk_shrN hm _ 31 (by decide)
    rw [e2, Nat.div_eq_of_lt hm] at hb
    exact absurd hb (by decide)
  · obtain ⟨j, rfl, g1, g2, hj⟩ := iv_nI (a := 0) (b := 31) (x := k) ⟨by omega, by omega⟩ (by omega)
    rw [nI_toInt hj] at h3 h4
    have hj31 : j < 32 := by omega
    have sm : ∀ j, j < 32 → ((nI j &&& 31).toBitVec.smod 32).toNat = j := by decide +kernel
    have e2 : nI m >>> (nI j &&& 31) = nI (m / 2 ^ j) := pk_shrN hm _ j (sm j hj31)
    have hjn : j < n := by
      refine Nat.lt_of_not_le (fun hle => ?_)
      have e3 : 2 ^ n ≤ 2 ^ j := Nat.pow_le_pow_right (by omega) hle
      rw [e2, Nat.div_eq_of_lt (by omega)] at hb
      exact absurd hb (by decide)
    unfold iv
    rw [nI_toInt hj]
    exact ⟨by omega, by omega⟩
theorem ms0_up {L l : Int} {x : Int32} (hm : L - x.toInt < ((0 : Nat) : Int)) (hx : iv l L x) : False := by have := hx.2; omega
theorem ms0_dn {L h : Int} {x : Int32} (hm : x.toInt - L < ((0 : Nat) : Int)) (hx : iv L h x) : False := by have := hx.1; omega
theorem ms_up {L a b : Int} {n : Nat} (hm : L - a < ((n + 1 : Nat) : Int)) (h : a < b) : L - b < (n : Int) := by omega
theorem ms_dn {L a b : Int} {n : Nat} (hm : a - L < ((n + 1 : Nat) : Int)) (h : b < a) : b - L < (n : Int) := by omega
theorem ms_init_up (L a : Int) : L - a < (((L - a + 1).toNat : Nat) : Int) := by omega
theorem ms_init_dn (a L : Int) : a - L < (((a - L + 1).toNat : Nat) : Int) := by omega
theorem ml_up {m a b : Int} (h1 : m ≤ a) (h2 : a < b) : m < b := by omega
theorem ml_dn {m a b : Int} (h1 : a ≤ m) (h2 : b < a) : b < m := by omega
theorem inc_lt {a b : Int} {x v c : Int32} (e : v = x + c) (hx : iv a b x) (hs : -2147483648 ≤ a + c.toInt ∧ b + c.toInt ≤ 2147483647 ∧ 0 < c.toInt) : x.toInt < v.toInt := by
  obtain ⟨h1, h2⟩ := hx
  have e2 : (x + c).toInt = x.toInt + c.toInt := by
    rw [Int32.toInt_add]; exact Int.bmod_eq_of_le (by omega) (by omega)
  rw [e, e2]; omega
theorem dec_lt {a b : Int} {x v c : Int32} (e : v = x + c) (hx : iv a b x) (hs : -2147483648 ≤ a + c.toInt ∧ b + c.toInt ≤ 2147483647 ∧ c.toInt < 0) : v.toInt < x.toInt := by
  obtain ⟨h1, h2⟩ := hx
  have e2 : (x + c).toInt = x.toInt + c.toInt := by
    rw [Int32.toInt_add]; exact Int.bmod_eq_of_le (by omega) (by omega)
  rw [e, e2]; omega
end
section
theorem lz {A B C : Prop} (a : A) : ((0 : Nat) = 0 → A) ∧ ((0 : Nat) = 1 → B) ∧ (¬ (0 : Nat) = 0 → ¬ (0 : Nat) = 1 → C) := ⟨fun _ => a, fun h => absurd h (by decide), fun h => absurd rfl h⟩
theorem iz {A B : Prop} (a : A) : ((0 : Int32) = 0 → A) ∧ (¬ (0 : Int32) = 0 → B) := ⟨fun _ => a, fun h => absurd rfl h⟩
theorem zi {A B : Prop} (a : A) : (¬ (0 : Int32) = 0 → B) ∧ ((0 : Int32) = 0 → A) := ⟨fun h => absurd rfl h, fun _ => a⟩
theorem oi {A B : Prop} (b : B) : ((1 : Int32) = 0 → A) ∧ (¬ (1 : Int32) = 0 → B) := ⟨fun h => absurd h (by decide), fun _ => b⟩
theorem io {A B : Prop} (b : B) : (¬ (1 : Int32) = 0 → B) ∧ ((1 : Int32) = 0 → A) := ⟨fun _ => b, fun h => absurd h (by decide)⟩
theorem sp_in {x lo hi : Int32} {post : Int32 → Prop} (h0 : ¬ (lo ≤ x ∧ x ≤ hi) → post 0) (h1 : lo ≤ x → x ≤ hi → post 1) : q_m_in_0 x lo hi post := ⟨fun h => h0 (fun h2 => absurd h (Int32.not_lt.mpr h2.1)), fun h => ⟨fun h2 => h0 (fun h3 => absurd h2 (Int32.not_lt.mpr h3.2)), fun h2 => h1 (Int32.not_lt.mp h) (Int32.not_lt.mp h2)⟩⟩
/-- the greatest value at a place of a land's row -/
def mRh (j : Nat) : Int := if j = 0 then 9 else if j = 1 then 6 else if j ≤ 3 then 511 else if j = 4 then 4 else if j = 5 then 9 else if j = 6 then 10 else if j ≤ 15 then 99 else if j ≤ 24 then 9 else if j ≤ 30 then 8 else if j ≤ 36 then 9 else if j ≤ 42 then 31 else if j ≤ 50 then 8 else 9
def mLand (a : Nat → Int32) : Prop := (∀ r j, r < 8 → j < 132 → iv 0 (mRh j) (a (132 * r + j))) ∧ ∀ r, r < 8 → ¬ a (132 * r + 1) = 0 → ¬ a (132 * r) = 0
def mEve (a : Nat → Int32) : Prop := ∀ r, r < 8 → iv 0 40 (a (121 * r)) ∧ ∀ k, k < 40 → iv 0 5 (a (121 * r + 1 + 3 * k)) ∧ iv 0 5 (a (121 * r + 1 + 3 * k + 1)) ∧ iv (-1) 8 (a (121 * r + 1 + 3 * k + 2))
def mSig (a : Nat → Int32) : Prop := ∀ r, r < 8 → iv 0 10 (a (31 * r)) ∧ ∀ k, k < 10 → iv 0 1 (a (31 * r + 1 + 3 * k)) ∧ iv 0 8 (a (31 * r + 1 + 3 * k + 1)) ∧ iv 0 60 (a (31 * r + 1 + 3 * k + 2))
def mCho (a : Nat → Int32) : Prop := ∀ r, r < 8 → iv 0 9 (a (20 * r)) ∧ iv 0 9 (a (20 * r + 19)) ∧ ∀ k, k < 9 → iv 0 3 (a (20 * r + 1 + 2 * k)) ∧ iv 0 9 (a (20 * r + 1 + 2 * k + 1))
def mOK (l h a b : Int) : Bool := decide (0 ≤ l) && decide (h < 132) && (List.range 132).all (fun j => !(decide (l ≤ (j : Int)) && decide ((j : Int) ≤ h)) || (decide (a ≤ 0) && decide (mRh j ≤ b)))
theorem sp_of {a b l h : Int} {f : Nat → Int32} {ld x : Int32} {post : Int32 → Prop} (hL : mLand f) (hl : iv 0 1 ld) (hx : iv l h x) (hs : mOK l h a b = true) (hp : ∀ r, iv a b r → r = f (Int32.toNatClampNeg (((132 : Int32) * ld) + x)) → post r) : q_m_of_0 f ld x post := by
  unfold mOK at hs
  simp only [Bool.and_eq_true, decide_eq_true_eq] at hs
  obtain ⟨⟨s1, s2⟩, s3⟩ := hs
  obtain ⟨r, rfl, -, h2, hr⟩ := iv_nI hl (by omega)
  obtain ⟨j, rfl, h3, h4, hj⟩ := iv_nI hx s1
  have e : (132 : Int32) = nI 132 := rfl
  have hj2 : j < 132 := by omega
  have s4 := List.all_eq_true.mp s3 j (List.mem_range.mpr hj2)
  simp only [Bool.or_eq_true, Bool.and_eq_true, Bool.not_eq_true', Bool.and_eq_false_iff, decide_eq_true_eq, decide_eq_false_iff_not] at s4
  have s5 : a ≤ 0 ∧ mRh j ≤ b := by
    rcases s4 with (s4 | s4) | s4
    · omega
    · omega
    · exact s4
  have e2 : ((132 : Int32) * nI r) + nI j = nI (132 * r + j) := by rw [e, pk_mul, nI_add]
  refine ⟨by rw [e2]; exact vp_in_nI (by omega) (by omega), hp _ ?_ rfl⟩
  rw [e2, nI_clamp (by omega)]
  exact iv_w (hL.1 r j (by omega) hj2) s5
theorem sp_deeds {f : Nat → Int32} {e : Int32} {post : Int32 → Prop} (hE : mEve f) (he : iv 0 1 e) (hp : ∀ r, iv 0 40 r → post r) : q_m_deeds_0 f e post := by
  obtain ⟨r, rfl, -, h2, hr⟩ := iv_nI he (by omega)
  have e1 : (121 : Int32) = nI 121 := rfl
  unfold q_m_deeds_0
  rw [e1, pk_mul]
  refine ⟨vp_in_nI (by omega) (by omega), ?_⟩
  rw [nI_clamp (by omega)]
  exact hp _ (hE r (by omega)).1
theorem sp_facts {f : Nat → Int32} {e : Int32} {post : Int32 → Prop} (hE : mSig f) (he : iv 0 1 e) (hp : ∀ r, iv 0 10 r → post r) : q_m_facts_0 f e post := by
  obtain ⟨r, rfl, -, h2, hr⟩ := iv_nI he (by omega)
  have e1 : (31 : Int32) = nI 31 := rfl
  unfold q_m_facts_0
  rw [e1, pk_mul]
  refine ⟨vp_in_nI (by omega) (by omega), ?_⟩
  rw [nI_clamp (by omega)]
  exact hp _ (hE r (by omega)).1
theorem sp_stepOf {f : Nat → Int32} {e : Int32} {post : Int32 → Prop} (hE : mCho f) (he : iv 0 1 e) (hp : ∀ r, iv 0 9 r → post r) : q_m_stepOf_0 f e post := by
  obtain ⟨r, rfl, -, h2, hr⟩ := iv_nI he (by omega)
  have e1 : (20 : Int32) = nI 20 := rfl
  have e2 : (19 : Int32) = nI 19 := rfl
  unfold q_m_stepOf_0
  rw [e1, e2, pk_mul, nI_add]
  refine ⟨vp_in_nI (by omega) (by omega), ?_⟩
  rw [nI_clamp (by omega)]
  exact hp _ (hE r (by omega)).2.1
theorem cho_0 {f : Nat → Int32} {k : Int32} (hE : mCho f) (he : iv 0 1 k) : iv 0 9 (f (Int32.toNatClampNeg ((20 : Int32) * k))) := by
  obtain ⟨r, rfl, -, h2, hr⟩ := iv_nI he (by omega)
  have e1 : (20 : Int32) = nI 20 := rfl
  rw [e1, pk_mul, nI_clamp (by omega)]
  exact (hE r (by omega)).1
theorem ix3 (W : Nat) {r k w : Nat} : (((nI W * nI r) + 1) + ((3 : Int32) * nI k)) + nI w = nI (W * r + 1 + 3 * k + w) := by
  have e1 : (1 : Int32) = nI 1 := rfl
  have e3 : (3 : Int32) = nI 3 := rfl
  rw [e1, e3, pk_mul, pk_mul, nI_add, nI_add, nI_add]
theorem ix2 (W : Nat) {r k w : Nat} : (((nI W * nI r) + 1) + ((2 : Int32) * nI k)) + nI w = nI (W * r + 1 + 2 * k + w) := by
  have e1 : (1 : Int32) = nI 1 := rfl
  have e3 : (2 : Int32) = nI 2 := rfl
  rw [e1, e3, pk_mul, pk_mul, nI_add, nI_add, nI_add]
theorem sp_deedOf_n {f : Nat → Int32} {e k : Int32} {w : Nat} {l h : Int} {post : Int32 → Prop} (hE : mEve f) (he : iv 0 1 e) (hk : iv 0 39 k) (hw : w ≤ 2) (hr : ∀ r k, r < 8 → k < 40 → iv l h (f (121 * r + 1 + 3 * k + w))) (hp : ∀ r, iv l h r → post r) : q_m_deedOf_0 f e k (nI w) post := by
  obtain ⟨r, rfl, -, h2, hr2⟩ := iv_nI he (by omega)
  obtain ⟨j, rfl, h3, h4, hj⟩ := iv_nI hk (by omega)
  have e1 : (121 : Int32) = nI 121 := rfl
  unfold q_m_deedOf_0
  rw [e1, ix3 121]
  refine ⟨vp_in_nI (by omega) (by omega), ?_⟩
  rw [nI_clamp (by omega)]
  exact hp _ (hr r j (by omega) (by omega))
theorem sp_deedOf_0 {f : Nat → Int32} {e k : Int32} {post : Int32 → Prop} (hE : mEve f) (he : iv 0 1 e) (hk : iv 0 39 k) (hp : ∀ r, iv 0 5 r → post r) : q_m_deedOf_0 f e k 0 post := sp_deedOf_n (w := 0) hE he hk (by omega) (fun r k hr hk => ((hE r hr).2 k hk).1) hp
theorem sp_deedOf_1 {f : Nat → Int32} {e k : Int32} {post : Int32 → Prop} (hE : mEve f) (he : iv 0 1 e) (hk : iv 0 39 k) (hp : ∀ r, iv 0 5 r → post r) : q_m_deedOf_0 f e k 1 post := sp_deedOf_n (w := 1) hE he hk (by omega) (fun r k hr hk => ((hE r hr).2 k hk).2.1) hp
theorem sp_deedOf_2 {f : Nat → Int32} {e k : Int32} {post : Int32 → Prop} (hE : mEve f) (he : iv 0 1 e) (hk : iv 0 39 k) (hp : ∀ r, iv (-1) 8 r → post r) : q_m_deedOf_0 f e k 2 post := sp_deedOf_n (w := 2) hE he hk (by omega) (fun r k hr hk => ((hE r hr).2 k hk).2.2) hp
theorem iv_012 {w : Int32} (hw : iv 0 2 w) : w = 0 ∨ w = 1 ∨ w = 2 := by
  obtain ⟨h1, h2⟩ := hw
  rcases (show w.toInt = 0 ∨ w.toInt = 1 ∨ w.toInt = 2 by omega) with h | h | h
  · exact Or.inl (Int32.toInt_inj.mp h)
  · exact Or.inr (Or.inl (Int32.toInt_inj.mp h))
  · exact Or.inr (Or.inr (Int32.toInt_inj.mp h))
theorem sp_deedOf_w {f : Nat → Int32} {e k w : Int32} {post : Int32 → Prop} (hE : mEve f) (he : iv 0 1 e) (hk : iv 0 39 k) (hw : iv 0 2 w) (hp : ∀ r, iv (-1) 8 r → post r) : q_m_deedOf_0 f e k w post := by
  rcases iv_012 hw with h | h | h <;> subst h
  · exact sp_deedOf_0 hE he hk (fun r hr => hp r (iv_w hr (by decide)))
  · exact sp_deedOf_1 hE he hk (fun r hr => hp r (iv_w hr (by decide)))
  · exact sp_deedOf_2 hE he hk hp
theorem sp_factOf_n {f : Nat → Int32} {e k : Int32} {w : Nat} {l h : Int} {post : Int32 → Prop} (hE : mSig f) (he : iv 0 1 e) (hk : iv 0 9 k) (hw : w ≤ 2) (hr : ∀ r k, r < 8 → k < 10 → iv l h (f (31 * r + 1 + 3 * k + w))) (hp : ∀ r, iv l h r → post r) : q_m_factOf_0 f e k (nI w) post := by
  obtain ⟨r, rfl, -, h2, hr2⟩ := iv_nI he (by omega)
  obtain ⟨j, rfl, h3, h4, hj⟩ := iv_nI hk (by omega)
  have e1 : (31 : Int32) = nI 31 := rfl
  unfold q_m_factOf_0
  rw [e1, ix3 31]
  refine ⟨vp_in_nI (by omega) (by omega), ?_⟩
  rw [nI_clamp (by omega)]
  exact hp _ (hr r j (by omega) (by omega))
theorem sp_factOf_0 {f : Nat → Int32} {e k : Int32} {post : Int32 → Prop} (hE : mSig f) (he : iv 0 1 e) (hk : iv 0 9 k) (hp : ∀ r, iv 0 1 r → post r) : q_m_factOf_0 f e k 0 post := sp_factOf_n (w := 0) hE he hk (by omega) (fun r k hr hk => ((hE r hr).2 k hk).1) hp
theorem sp_factOf_1 {f : Nat → Int32} {e k : Int32} {post : Int32 → Prop} (hE : mSig f) (he : iv 0 1 e) (hk : iv 0 9 k) (hp : ∀ r, iv 0 8 r → post r) : q_m_factOf_0 f e k 1 post := sp_factOf_n (w := 1) hE he hk (by omega) (fun r k hr hk => ((hE r hr).2 k hk).2.1) hp
theorem sp_factOf_2 {f : Nat → Int32} {e k : Int32} {post : Int32 → Prop} (hE : mSig f) (he : iv 0 1 e) (hk : iv 0 9 k) (hp : ∀ r, iv 0 60 r → post r) : q_m_factOf_0 f e k 2 post := sp_factOf_n (w := 2) hE he hk (by omega) (fun r k hr hk => ((hE r hr).2 k hk).2.2) hp
theorem sp_factOf_w {f : Nat → Int32} {e k w : Int32} {post : Int32 → Prop} (hE : mSig f) (he : iv 0 1 e) (hk : iv 0 9 k) (hw : iv 0 2 w) (hp : ∀ r, iv 0 60 r → post r) : q_m_factOf_0 f e k w post := by
  rcases iv_012 hw with h | h | h <;> subst h
  · exact sp_factOf_0 hE he hk (fun r hr => hp r (iv_w hr (by decide)))
  · exact sp_factOf_1 hE he hk (fun r hr => hp r (iv_w hr (by decide)))
  · exact sp_factOf_2 hE he hk hp
theorem sp_voice_n {f : Nat → Int32} {e k : Int32} {w : Nat} {l h : Int} {post : Int32 → Prop} (hE : mCho f) (he : iv 0 1 e) (hk : iv 0 8 k) (hw : w ≤ 1) (hr : ∀ r k, r < 8 → k < 9 → iv l h (f (20 * r + 1 + 2 * k + w))) (hp : ∀ r, iv l h r → post r) : q_m_voice_0 f e k (nI w) post := by
  obtain ⟨r, rfl, -, h2, hr2⟩ := iv_nI he (by omega)
  obtain ⟨j, rfl, h3, h4, hj⟩ := iv_nI hk (by omega)
  have e1 : (20 : Int32) = nI 20 := rfl
  unfold q_m_voice_0
  rw [e1, ix2 20]
  refine ⟨vp_in_nI (by omega) (by omega), ?_⟩
  rw [nI_clamp (by omega)]
  exact hp _ (hr r j (by omega) (by omega))
theorem sp_voice_0 {f : Nat → Int32} {e k : Int32} {post : Int32 → Prop} (hE : mCho f) (he : iv 0 1 e) (hk : iv 0 8 k) (hp : ∀ r, iv 0 3 r → post r) : q_m_voice_0 f e k 0 post := sp_voice_n (w := 0) hE he hk (by omega) (fun r k hr hk => ((hE r hr).2.2 k hk).1) hp
theorem sp_voice_1 {f : Nat → Int32} {e k : Int32} {post : Int32 → Prop} (hE : mCho f) (he : iv 0 1 e) (hk : iv 0 8 k) (hp : ∀ r, iv 0 9 r → post r) : q_m_voice_0 f e k 1 post := sp_voice_n (w := 1) hE he hk (by omega) (fun r k hr hk => ((hE r hr).2.2 k hk).2) hp
theorem hut1 {f : Nat → Int32} {ld h s : Int32} (hL : mLand f) (hl : iv 0 1 ld) (hh : iv 0 9 h) (e1 : h = f (Int32.toNatClampNeg (((132 : Int32) * ld) + 0))) (e2 : s = f (Int32.toNatClampNeg (((132 : Int32) * ld) + 1))) (hs : ¬ s = 0) : iv 1 9 h := by
  obtain ⟨r, rfl, -, h2, hr⟩ := iv_nI hl (by omega)
  have e : (132 : Int32) = nI 132 := rfl
  have a0 : (0 : Int32) = nI 0 := rfl
  have a1 : (1 : Int32) = nI 1 := rfl
  rw [e, a0, pk_mul, nI_add, nI_clamp (by omega)] at e1
  rw [e, a1, pk_mul, nI_add, nI_clamp (by omega)] at e2
  have h3 := hL.2 r (by omega) (by rw [← e2]; exact hs)
  have h4 : ¬ h = 0 := by rw [e1]; exact h3
  exact iv_ne h4 hh (iv_lit (l := 0) (h := 0) (by decide)) (by decide)
theorem zc_aux : True := trivial
def zc (f : Nat → Int32) : Nat → Nat
  | 0 => 0
  | n + 1 => zc f n + (if f n = 0 then 1 else 0)
theorem zc_pos {f : Nat → Int32} : ∀ {n : Nat}, 0 < zc f n → ∃ h, h < n ∧ f h = 0
  | 0, h => absurd h (by unfold zc; omega)
  | n + 1, h => by
    by_cases hn : f n = 0
    · exact ⟨n, by omega, hn⟩
    · unfold zc at h
      rw [if_neg hn] at h
      obtain ⟨k, hk, e⟩ := zc_pos (n := n) (by omega)
      exact ⟨k, by omega, e⟩
theorem zc_all {f : Nat → Int32} : ∀ {n : Nat}, (∀ h, h < n → f h = 0) → zc f n = n
  | 0, _ => rfl
  | n + 1, h => by
    unfold zc
    rw [zc_all (n := n) (fun k hk => h k (by omega)), if_pos (h n (by omega))]
theorem zc_out {f : Nat → Int32} {a : Nat} {v : Int32} : ∀ {n : Nat}, n ≤ a → zc (upd f a v) n = zc f n
  | 0, _ => rfl
  | n + 1, h => by
    unfold zc
    rw [zc_out (n := n) (by omega)]
    have e : upd f a v n = f n := by unfold upd; rw [if_neg (by omega)]
    rw [e]
theorem zc_upd {f : Nat → Int32} {a : Nat} {v : Int32} (ha : f a = 0) (hv : ¬ v = 0) : ∀ {n : Nat}, a < n → zc (upd f a v) n + 1 = zc f n
  | 0, h => absurd h (by omega)
  | n + 1, h => by
    by_cases hn : a = n
    · subst hn
      unfold zc
      rw [zc_out (Nat.le_refl _)]
      have e : upd f a v a = v := by unfold upd; rw [if_pos rfl]
      rw [e, if_neg hv, if_pos ha]
    · unfold zc
      have e : upd f a v n = f n := by unfold upd; rw [if_neg (by omega)]
      have := zc_upd ha hv (n := n) (by omega)
      rw [e]
      omega
theorem sp_height {f : Nat → Int32} {ld h : Int32} {post : Int32 → Prop} (hL : mLand f) (hl : iv 0 1 ld) (hh : iv 0 8 h) (hp : ∀ r, post r) : q_m_height_0 f ld h post := sp_of (a := 0) (b := 99) hL hl (iv_add (l := 7) (h := 15) (iv_lit (l := 7) (h := 7) (by decide)) hh (by decide)) (by decide +kernel) (fun r _ _ => hp r)
theorem sp_isDam {f : Nat → Int32} {ld h : Int32} {post : Int32 → Prop} (hL : mLand f) (hl : iv 0 1 ld) (h0 : post 0) (h1 : post 1) : q_m_isDam_0 f ld h post := sp_of (a := 0) (b := 511) hL hl (iv_lit (l := 3) (h := 3) (by decide)) (by decide +kernel) (fun _ _ _ => ⟨fun _ => ⟨rfl, h0⟩, fun _ => ⟨rfl, h1⟩⟩)
theorem sp_high {f at_ cl : Nat → Int32} {ld s : Int32} {post : Int32 → Prop} (hL : mLand f) (hl : iv 0 1 ld) (ha : ∀ j, iv 0 8 (at_ j)) (hs : iv 0 5 s) (hp : ∀ r, post r) : q_m_high_0 f ld at_ cl s post := by
  refine ⟨iv_in hs (by decide), sp_height hL hl (ha _) (fun r1 => ?_)⟩
  refine sp_of (a := 0) (b := 9) hL hl (iv_add (l := 31) (h := 36) (iv_lit (l := 31) (h := 31) (by decide)) hs (by decide)) (by decide +kernel) (fun r2 _ _ => ?_)
  refine ⟨iv_in hs (by decide), iv_in hs (by decide), ?_⟩
  exact sp_of (a := 0) (b := 9) hL hl (iv_add (l := 16) (h := 24) (iv_lit (l := 16) (h := 16) (by decide)) (ha _) (by decide)) (by decide +kernel) (fun r3 _ _ => hp _)
end
