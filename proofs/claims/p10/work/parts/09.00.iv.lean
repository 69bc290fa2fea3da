/-- an int between two bounds -/
def iv (l h : Int) (x : Int32) : Prop := l ≤ x.toInt ∧ x.toInt ≤ h
theorem iv_top (x : Int32) : iv (-2147483648) 2147483647 x := by
  have h1 := Int32.le_toInt x
  have h2 := Int32.toInt_lt x
  exact ⟨by omega, by omega⟩
theorem iv_lit {l h : Int} {x : Int32} (hh : l ≤ x.toInt ∧ x.toInt ≤ h) : iv l h x := hh
theorem iv_w {a b l h : Int} {x : Int32} (hx : iv a b x) (hs : l ≤ a ∧ b ≤ h) : iv l h x := ⟨Int.le_trans hs.1 hx.1, Int.le_trans hx.2 hs.2⟩
theorem iv_eq {l h : Int} {v e : Int32} (he : v = e) (hx : iv l h e) : iv l h v := he ▸ hx
theorem iv_emp {a b : Int} {x : Int32} (hx : iv a b x) (hs : b < a) : False := by have := hx.1; have := hx.2; omega
theorem r_lt {x y : Int32} (h : x < y) : x.toInt < y.toInt := Int32.lt_iff_toInt_lt.mp h
theorem r_le {x y : Int32} (h : x ≤ y) : x.toInt ≤ y.toInt := Int32.le_iff_toInt_le.mp h
theorem r_nlt {x y : Int32} (h : ¬ x < y) : y.toInt ≤ x.toInt := Int.not_lt.mp (fun h2 => h (Int32.lt_iff_toInt_lt.mpr h2))
theorem r_nle {x y : Int32} (h : ¬ x ≤ y) : y.toInt < x.toInt := Int.not_le.mp (fun h2 => h (Int32.le_iff_toInt_le.mpr h2))
theorem iv_lta {a b c d l h : Int} {x y : Int32} (hc : x.toInt < y.toInt) (hx : iv a b x) (hy : iv c d y) (hs : l ≤ a ∧ (b ≤ h ∨ d - 1 ≤ h)) : iv l h x := by
  obtain ⟨h1, h2⟩ := hx; obtain ⟨h3, h4⟩ := hy; exact ⟨by omega, by omega⟩
theorem iv_ltb {a b c d l h : Int} {x y : Int32} (hc : x.toInt < y.toInt) (hx : iv a b x) (hy : iv c d y) (hs : (l ≤ c ∨ l ≤ a + 1) ∧ d ≤ h) : iv l h y := by
  obtain ⟨h1, h2⟩ := hx; obtain ⟨h3, h4⟩ := hy; exact ⟨by omega, by omega⟩
theorem iv_lea {a b c d l h : Int} {x y : Int32} (hc : x.toInt ≤ y.toInt) (hx : iv a b x) (hy : iv c d y) (hs : l ≤ a ∧ (b ≤ h ∨ d ≤ h)) : iv l h x := by
  obtain ⟨h1, h2⟩ := hx; obtain ⟨h3, h4⟩ := hy; exact ⟨by omega, by omega⟩
theorem iv_leb {a b c d l h : Int} {x y : Int32} (hc : x.toInt ≤ y.toInt) (hx : iv a b x) (hy : iv c d y) (hs : (l ≤ c ∨ l ≤ a) ∧ d ≤ h) : iv l h y := by
  obtain ⟨h1, h2⟩ := hx; obtain ⟨h3, h4⟩ := hy; exact ⟨by omega, by omega⟩
theorem iv_eqa {a b c d l h : Int} {x y : Int32} (hc : x = y) (hx : iv a b x) (hy : iv c d y) (hs : (l ≤ a ∨ l ≤ c) ∧ (b ≤ h ∨ d ≤ h)) : iv l h x := by
  subst hc; obtain ⟨h1, h2⟩ := hx; obtain ⟨h3, h4⟩ := hy; exact ⟨by omega, by omega⟩
theorem iv_eqb {a b c d l h : Int} {x y : Int32} (hc : x = y) (hx : iv a b x) (hy : iv c d y) (hs : (l ≤ a ∨ l ≤ c) ∧ (b ≤ h ∨ d ≤ h)) : iv l h y := by
  subst hc; obtain ⟨h1, h2⟩ := hx; obtain ⟨h3, h4⟩ := hy; exact ⟨by omega, by omega⟩
theorem iv_ne {a b c d l h : Int} {x y : Int32} (hc : ¬ x = y) (hx : iv a b x) (hy : iv c d y) (hs : c = d ∧ (l ≤ a ∨ (a = c ∧ l ≤ a + 1)) ∧ (b ≤ h ∨ (b = c ∧ b - 1 ≤ h))) : iv l h x := by
  obtain ⟨h1, h2⟩ := hx; obtain ⟨h3, h4⟩ := hy
  have h5 : x.toInt ≠ y.toInt := fun h => hc (Int32.toInt_inj.mp h)
  exact ⟨by omega, by omega⟩
theorem iv_add {a b c d l h : Int} {x y : Int32} (hx : iv a b x) (hy : iv c d y) (hs : -2147483648 ≤ a + c ∧ b + d ≤ 2147483647 ∧ l ≤ a + c ∧ b + d ≤ h) : iv l h (x + y) := by
  obtain ⟨h1, h2⟩ := hx; obtain ⟨h3, h4⟩ := hy
  have e : (x + y).toInt = x.toInt + y.toInt := by
    rw [Int32.toInt_add]; exact Int.bmod_eq_of_le (by omega) (by omega)
  unfold iv; rw [e]; exact ⟨by omega, by omega⟩
theorem iv_sub {a b c d l h : Int} {x y : Int32} (hx : iv a b x) (hy : iv c d y) (hs : -2147483648 ≤ a - d ∧ b - c ≤ 2147483647 ∧ l ≤ a - d ∧ b - c ≤ h) : iv l h (x - y) := by
  obtain ⟨h1, h2⟩ := hx; obtain ⟨h3, h4⟩ := hy
  have e : (x - y).toInt = x.toInt - y.toInt := by
    rw [Int32.toInt_sub]; exact Int.bmod_eq_of_le (by omega) (by omega)
  unfold iv; rw [e]; exact ⟨by omega, by omega⟩
theorem iv_mul {a b c d l h : Int} {x y : Int32} (hx : iv a b x) (hy : iv c d y) (hs : 0 ≤ a ∧ 0 ≤ c ∧ b * d ≤ 2147483647 ∧ l ≤ a * c ∧ b * d ≤ h) : iv l h (x * y) := by
  obtain ⟨h1, h2⟩ := hx; obtain ⟨h3, h4⟩ := hy; obtain ⟨s1, s2, s3, s4, s5⟩ := hs
  have u1 : x.toInt * y.toInt ≤ b * d := Int.mul_le_mul h2 h4 (by omega) (by omega)
  have u2 : a * c ≤ x.toInt * y.toInt := Int.mul_le_mul h1 h3 s2 (by omega)
  have u3 : 0 ≤ a * c := Int.mul_nonneg s1 s2
  have e : (x * y).toInt = x.toInt * y.toInt := by
    rw [Int32.toInt_mul]; exact Int.bmod_eq_of_le (by omega) (by omega)
  unfold iv; rw [e]; exact ⟨by omega, by omega⟩
theorem iv_nI {a b : Int} {x : Int32} (hx : iv a b x) (ha : 0 ≤ a) : ∃ n : Nat, x = nI n ∧ a ≤ n ∧ (n : Int) ≤ b ∧ n < 2 ^ 31 := by
  obtain ⟨h1, h2⟩ := hx
  have h0 : ¬ x < 0 := fun h => by
    have := r_lt h
    have e : (0 : Int32).toInt = 0 := rfl
    omega
  obtain ⟨n, hn, rfl⟩ := nI_of h0
  rw [nI_toInt hn] at h1 h2
  exact ⟨n, rfl, h1, h2, hn⟩
theorem iv_ofN {l h : Int} {n : Nat} (hn : n < 2 ^ 31) (h1 : l ≤ n) (h2 : (n : Int) ≤ h) : iv l h (nI n) := by
  unfold iv; rw [nI_toInt hn]; exact ⟨h1, h2⟩
theorem iv_tn {n : Nat} (h : n < 2 ^ 31) : (nI n).toBitVec.toNat = n := pk_tn (by omega)
theorem iv_ofBv {x : Int32} (h : x.toBitVec.toNat < 2 ^ 31) : x = nI x.toBitVec.toNat := by
  apply Int32.toBitVec_inj.mp
  apply BitVec.eq_of_toNat_eq
  rw [iv_tn h]
theorem iv_andr {c d l h : Int} {x y : Int32} (hy : iv c d y) (hs : 0 ≤ c ∧ l ≤ 0 ∧ d ≤ h) : iv l h (x &&& y) := by
  obtain ⟨n, rfl, h1, h2, hn⟩ := iv_nI hy hs.1
  have e : (x &&& nI n).toBitVec.toNat ≤ n := by
    rw [Int32.toBitVec_and, BitVec.toNat_and, iv_tn hn]; exact Nat.and_le_right
  rw [iv_ofBv (x := x &&& nI n) (by omega)]
  exact iv_ofN (by omega) (by omega) (by omega)
theorem iv_andl {c d l h : Int} {x y : Int32} (hy : iv c d x) (hs : 0 ≤ c ∧ l ≤ 0 ∧ d ≤ h) : iv l h (x &&& y) := by
  obtain ⟨n, rfl, h1, h2, hn⟩ := iv_nI hy hs.1
  have e : (nI n &&& y).toBitVec.toNat ≤ n := by
    rw [Int32.toBitVec_and, BitVec.toNat_and, iv_tn hn]; exact Nat.and_le_left
  rw [iv_ofBv (x := nI n &&& y) (by omega)]
  exact iv_ofN (by omega) (by omega) (by omega)
theorem iv_or (n : Nat) {a b c d l h : Int} {x y : Int32} (hx : iv a b x) (hy : iv c d y) (hs : 0 ≤ a ∧ 0 ≤ c ∧ b < (2 ^ n : Nat) ∧ d < (2 ^ n : Nat) ∧ n ≤ 30 ∧ l ≤ 0 ∧ (2 ^ n : Nat) - 1 ≤ h) : iv l h (x ||| y) := by
  obtain ⟨p, rfl, h1, h2, hp⟩ := iv_nI hx hs.1
  obtain ⟨q, rfl, h3, h4, hq⟩ := iv_nI hy hs.2.1
  obtain ⟨-, -, s3, s4, s5, s6, s7⟩ := hs
  have e : (nI p ||| nI q).toBitVec.toNat < 2 ^ n := by
    rw [Int32.toBitVec_or, BitVec.toNat_or, iv_tn hp, iv_tn hq]
    exact Nat.or_lt_two_pow (by omega) (by omega)
  have e2 : 2 ^ n ≤ 2 ^ 30 := Nat.pow_le_pow_right (by omega) s5
  rw [iv_ofBv (x := nI p ||| nI q) (by omega)]
  exact iv_ofN (by omega) (by omega) (by omega)
theorem iv_sh1 : ∀ j, j < 31 → ((1 : Int32) <<< (nI j &&& 31)) = nI (2 ^ j) := by decide +kernel
theorem iv_shl1 {a b c d l h : Int} {x y : Int32} (hx : iv a b x) (hy : iv c d y) (hs : a = 1 ∧ b = 1 ∧ 0 ≤ c ∧ d ≤ 30 ∧ l ≤ 1 ∧ (2 ^ d.toNat : Nat) ≤ h) : iv l h (x <<< (y &&& 31)) := by
  obtain ⟨s1, s2, s3, s4, s5, s6⟩ := hs
  obtain ⟨n, rfl, h1, h2, hn⟩ := iv_nI hy s3
  have e1 : x = 1 := by
    obtain ⟨g1, g2⟩ := hx
    apply Int32.toInt_inj.mp
    have : (1 : Int32).toInt = 1 := rfl
    omega
  rw [e1, iv_sh1 n (by omega)]
  have e2 : 2 ^ n ≤ 2 ^ d.toNat := Nat.pow_le_pow_right (by omega) (by omega)
  have e3 : 2 ^ n ≤ 2 ^ 30 := Nat.pow_le_pow_right (by omega) (by omega)
  have e4 : 0 < 2 ^ n := Nat.pow_pos (by omega)
  exact iv_ofN (by omega) (by omega) (by omega)
theorem iv_shrN {n : Nat} (hn : n < 2 ^ 31) (y : Int32) : ∃ m, m ≤ n ∧ nI n >>> (y &&& 31) = nI m := ⟨_, Nat.div_le_self _ _, pk_shrN hn (y &&& 31) _ rfl⟩
theorem iv_shr {a b l h : Int} {x y : Int32} (hx : iv a b x) (hs : 0 ≤ a ∧ l ≤ 0 ∧ b ≤ h) : iv l h (x >>> (y &&& 31)) := by
  obtain ⟨n, rfl, h1, h2, hn⟩ := iv_nI hx hs.1
  obtain ⟨m, hm, e⟩ := iv_shrN hn y
  rw [e]
  exact iv_ofN (by omega) (by omega) (by omega)
theorem iv_rem {a b c d l h : Int} {x y : Int32} (hx : iv a b x) (hy : iv c d y) (hs : 0 ≤ a ∧ 0 < c ∧ l ≤ 0 ∧ d - 1 ≤ h) : iv l h (x - x / y * y) := by
  obtain ⟨n, rfl, h1, h2, hn⟩ := iv_nI hx hs.1
  obtain ⟨m, rfl, h3, h4, hm⟩ := iv_nI hy (by omega)
  rw [pk_rem hn (by omega) hm]
  have e := Nat.mod_lt n (show 0 < m by omega)
  exact iv_ofN (by omega) (by omega) (by omega)
theorem iv_div {a b c d l h : Int} {x y : Int32} (hx : iv a b x) (hy : iv c d y) (hs : 0 ≤ a ∧ 0 < c ∧ l ≤ 0 ∧ b / c ≤ h) : iv l h (x / y) := by
  obtain ⟨n, rfl, h1, h2, hn⟩ := iv_nI hx hs.1
  obtain ⟨m, rfl, h3, h4, hm⟩ := iv_nI hy (by omega)
  rw [pk_div hn (by omega) hm]
  have e : n / m ≤ n := Nat.div_le_self _ _
  have e3 : n / m * m ≤ n := Nat.div_mul_le_self n m
  generalize n / m = k at e e3 ⊢
  have e2 : (k : Int) ≤ b / c := by
    rw [Int.le_ediv_iff_mul_le hs.2.1]
    have e4 : (k : Int) * c ≤ (k : Int) * (m : Int) := Int.mul_le_mul_of_nonneg_left h3 (Int.natCast_nonneg k)
    have e5 : (k : Int) * (m : Int) = ((k * m : Nat) : Int) := by simp
    omega
  exact iv_ofN (by omega) (by omega) (by omega)
theorem iv_ushr16 (x : Int32) : iv 0 65535 (Int32.toUInt32 x >>> (Int32.toUInt32 16 &&& Int32.toUInt32 31)).toInt32 := by
  have hb : x.toBitVec.toNat < 2 ^ 32 := x.toBitVec.isLt
  have e : x = nI x.toBitVec.toNat := by
    apply Int32.toBitVec_inj.mp
    apply BitVec.eq_of_toNat_eq
    rw [pk_tn hb]
  rw [e, pk_ushrN hb 16 16 (by decide)]
  exact iv_ofN (by omega) (by omega) (by omega)
theorem iv_i2b (x : Int32) : iv (-128) 127 (Int32.toInt8 x).toInt32 := by
  unfold iv
  rw [lg_i2b_toInt]
  simp only [Int.bmod]
  constructor <;> split <;> omega
theorem iv_max {a b c d l h : Int} {x y : Int32} (hx : iv a b x) (hy : iv c d y) (hs : (l ≤ a ∨ l ≤ c) ∧ b ≤ h ∧ d ≤ h) : iv l h (if x < y then y else x) := by
  obtain ⟨h1, h2⟩ := hx; obtain ⟨h3, h4⟩ := hy
  split
  · rename_i g; have := r_lt g; exact ⟨by omega, by omega⟩
  · rename_i g; have := r_nlt g; exact ⟨by omega, by omega⟩
theorem iv_min {a b c d l h : Int} {x y : Int32} (hx : iv a b x) (hy : iv c d y) (hs : l ≤ a ∧ l ≤ c ∧ (b ≤ h ∨ d ≤ h)) : iv l h (if y < x then y else x) := by
  obtain ⟨h1, h2⟩ := hx; obtain ⟨h3, h4⟩ := hy
  split
  · rename_i g; have := r_lt g; exact ⟨by omega, by omega⟩
  · rename_i g; have := r_nlt g; exact ⟨by omega, by omega⟩
theorem iv_in {a b : Int} {n : Nat} {x : Int32} (hx : iv a b x) (hs : 0 ≤ a ∧ b < n) : vp_in x n := by
  obtain ⟨h1, h2⟩ := hx
  intro h
  rcases h with h | h
  · have := r_lt h
    have e : (0 : Int32).toInt = 0 := rfl
    omega
  · have e2 : x.toNatClampNeg = x.toInt.toNat := rfl
    omega
theorem iv_ne0 {a b : Int} {x : Int32} (hx : iv a b x) (hs : 0 < a ∨ b < 0) : ¬ x = 0 := by
  intro h; subst h
  obtain ⟨h1, h2⟩ := hx
  have e : (0 : Int32).toInt = 0 := rfl
  omega
theorem iv_nn {a b : Int} {x : Int32} (hx : iv a b x) (hs : 0 ≤ a) : ¬ x < 0 := by
  intro h
  have := r_lt h
  obtain ⟨h1, h2⟩ := hx
  have e : (0 : Int32).toInt = 0 := rfl
  omega
theorem iv_len {a b c d : Int} {n : Nat} {x y : Int32} (hx : iv a b x) (hy : iv c d y) (hs : 0 ≤ a ∧ 0 ≤ c ∧ b + d ≤ n) : x.toNatClampNeg + y.toNatClampNeg ≤ n := by
  obtain ⟨h1, h2⟩ := hx; obtain ⟨h3, h4⟩ := hy
  have e1 : x.toNatClampNeg = x.toInt.toNat := rfl
  have e2 : y.toNatClampNeg = y.toInt.toNat := rfl
  omega
theorem iv_01 {x : Int32} (hx : iv 0 1 x) : x = 0 ∨ x = 1 := by
  obtain ⟨h1, h2⟩ := hx
  rcases (show x.toInt = 0 ∨ x.toInt = 1 by omega) with h | h
  · exact Or.inl (Int32.toInt_inj.mp h)
  · exact Or.inr (Int32.toInt_inj.mp h)
theorem iv_nb {a b : Int} {x : Int32} (hx : iv a b x) (hs : 0 ≤ a ∧ b ≤ 1) : narrow .boolean (.int x) = .int x := by
  rcases iv_01 (iv_w hx hs) with h | h <;> subst h <;> rfl
theorem iv_upd {l h : Int} {f g : Nat → Int32} {k : Nat} {v : Int32} (e : g = upd f k v) (hf : ∀ j, iv l h (f j)) (hv : iv l h v) : ∀ j, iv l h (g j) := by
  intro j; subst e; unfold upd; split
  · exact hv
  · exact hf j
theorem iv_updB {f g : Nat → Int32} {k : Nat} {v : Int32} (e : g = upd f k (vp_nar .byte v)) (hf : ∀ j, iv (-128) 127 (f j)) : ∀ j, iv (-128) 127 (g j) := iv_upd e hf (iv_i2b v)
theorem iv_narZ (v : Int32) : iv 0 1 (vp_nar .boolean v) := by
  have e : vp_nar .boolean v = v &&& 1 := rfl
  rw [e]
  exact iv_andr (iv_lit (l := 1) (h := 1) (by decide)) (by decide)
theorem iv_updZ {f g : Nat → Int32} {k : Nat} {v : Int32} (e : g = upd f k (vp_nar .boolean v)) (hf : ∀ j, iv 0 1 (f j)) : ∀ j, iv 0 1 (g j) := iv_upd e hf (iv_narZ v)
theorem iv_cpy {l h : Int} {f g g1 : Nat → Int32} {a b n : Nat} (e : g1 = va_cpy f g a b n) (hf : ∀ j, iv l h (f j)) (hg : ∀ j, iv l h (g j)) : ∀ j, iv l h (g1 j) := by
  intro j; subst e; unfold va_cpy; split
  · exact hf _
  · exact hg j
theorem iv_fitB {x : Int32} (hx : iv (-128) 127 x) : fits .byte (.int x) = true := by
  obtain ⟨h1, h2⟩ := hx
  have e1 : (-128 : Int32) ≤ x := Int32.le_iff_toInt_le.mpr (by have : (-128 : Int32).toInt = -128 := rfl; omega)
  have e2 : x ≤ (127 : Int32) := Int32.le_iff_toInt_le.mpr (by have : (127 : Int32).toInt = 127 := rfl; omega)
  simp [fits, e1, e2]
theorem iv_sw {a b lo hi : Int} {x : Int32} (hc : x.toInt < lo ∨ hi < x.toInt) (hx : iv a b x) (hs : lo ≤ a ∧ b ≤ hi) : False := by
  obtain ⟨h1, h2⟩ := hx; omega
theorem iv_one {y : Int32} (hy : iv 1 1 y) : y = 1 := by
  obtain ⟨h1, h2⟩ := hy
  apply Int32.toInt_inj.mp
  have : (1 : Int32).toInt = 1 := rfl
  omega
theorem iv_bit1 {x y : Int32} (h : ¬ (x &&& 1) = y) (hy : iv 0 0 y) : (x &&& 1) = 1 := by
  have e0 : y = 0 := by
    obtain ⟨h1, h2⟩ := hy
    apply Int32.toInt_inj.mp
    have : (0 : Int32).toInt = 0 := rfl
    omega
  subst e0
  rcases iv_01 (iv_andr (x := x) (iv_lit (l := 1) (h := 1) (x := 1) (by decide)) (by decide)) with h2 | h2
  · exact absurd h2 h
  · exact h2
theorem iv_bitk (n : Nat) {a b c d l h : Int} {s k : Int32} (hb : ((s >>> (k &&& 31)) &&& 1) = 1) (hS : iv a b s) (hk : iv c d k) (hs : 0 ≤ a ∧ b < (2 ^ n : Nat) ∧ n ≤ 30 ∧ -1 ≤ c ∧ d ≤ 31 ∧ (l ≤ 0 ∨ l ≤ c) ∧ (d ≤ h ∨ (n : Int) - 1 ≤ h)) : iv l h k := by
  obtain ⟨m, rfl, h1, h2, hm⟩ := iv_nI hS hs.1
  obtain ⟨-, s2, s3, s4, s5, s6, s7⟩ := hs
  obtain ⟨h3, h4⟩ := hk
  by_cases hneg : k.toInt = -1
  · exfalso
    have e : k = -1 := Int32.toInt_inj.mp hneg
    subst e
    have e2 : nI m >>> ((-1 : Int32) &&& 31) = nI (m / 2 ^ 31) := pk_shrN hm _ 31 (by decide)
    rw [e2, Nat.div_eq_of_lt hm] at hb
    exact absurd hb (by decide)
  · obtain ⟨j, rfl, g1, g2, hj⟩ := iv_nI (a := 0) (b := 31) (x := k) ⟨by omega, by omega⟩ (by omega)
    rw [nI_toInt hj] at h3 h4
    have hj31 : j < 32 := by omega
    have sm : ∀ j, j < 32 → ((nI j &&& 31).toBitVec.smod 32).toNat = j := by decide +kernel
    have e2 : nI m >>> (nI j &&& 31) = nI (m / 2 ^ j) := pk_shrN hm _ j (sm j hj31)
    have hjn : j < n := by
      refine Nat.lt_of_not_le (fun hle => ?_)
      have e3 : 2 ^ n ≤ 2 ^ j := Nat.pow_le_pow_right (by omega) hle
      rw [e2, Nat.div_eq_of_lt (by omega)] at hb
      exact absurd hb (by decide)
    unfold iv
    rw [nI_toInt hj]
    exact ⟨by omega, by omega⟩
theorem ms0_up {L l : Int} {x : Int32} (hm : L - x.toInt < ((0 : Nat) : Int)) (hx : iv l L x) : False := by have := hx.2; omega
theorem ms0_dn {L h : Int} {x : Int32} (hm : x.toInt - L < ((0 : Nat) : Int)) (hx : iv L h x) : False := by have := hx.1; omega
theorem ms_up {L a b : Int} {n : Nat} (hm : L - a < ((n + 1 : Nat) : Int)) (h : a < b) : L - b < (n : Int) := by omega
theorem ms_dn {L a b : Int} {n : Nat} (hm : a - L < ((n + 1 : Nat) : Int)) (h : b < a) : b - L < (n : Int) := by omega
theorem ms_init_up (L a : Int) : L - a < (((L - a + 1).toNat : Nat) : Int) := by omega
theorem ms_init_dn (a L : Int) : a - L < (((a - L + 1).toNat : Nat) : Int) := by omega
theorem ml_up {m a b : Int} (h1 : m ≤ a) (h2 : a < b) : m < b := by omega
theorem ml_dn {m a b : Int} (h1 : a ≤ m) (h2 : b < a) : b < m := by omega
theorem inc_lt {a b : Int} {x v c : Int32} (e : v = x + c) (hx : iv a b x) (hs : -2147483648 ≤ a + c.toInt ∧ b + c.toInt ≤ 2147483647 ∧ 0 < c.toInt) : x.toInt < v.toInt := by
  obtain ⟨h1, h2⟩ := hx
  have e2 : (x + c).toInt = x.toInt + c.toInt := by
    rw [Int32.toInt_add]; exact Int.bmod_eq_of_le (by omega) (by omega)
  rw [e, e2]; omega
theorem dec_lt {a b : Int} {x v c : Int32} (e : v = x + c) (hx : iv a b x) (hs : -2147483648 ≤ a + c.toInt ∧ b + c.toInt ≤ 2147483647 ∧ c.toInt < 0) : v.toInt < x.toInt := by
  obtain ⟨h1, h2⟩ := hx
  have e2 : (x + c).toInt = x.toInt + c.toInt := by
    rw [Int32.toInt_add]; exact Int.bmod_eq_of_le (by omega) (by omega)
  rw [e, e2]; omega
