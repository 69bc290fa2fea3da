theorem e_walksM {M : Nat → Nat → Int32} {at_ cl sn : Nat → Int32} {mi x : Int32} {k s : Nat} {post : Int32 → (Nat → Int32) → Int32 → Prop} (hk : k < 2) (hs : s < 6) (hL : mLand (M 5)) (ha : iv 0 8 (at_ s)) (h0 : mayW (tdM M k) at_ cl sn s x = false → post 0 at_ mi) (h1 : mayW (tdM M k) at_ cl sn s x = true → post 1 (upd at_ s x) (mi + tdM M k (51 + 9 * cN (at_ s) + cN x))) : q_m_walks_0 (M 5) (nI k) (tdM M k 0) at_ cl sn mi (nI s) x post := by
  obtain ⟨a, ea, -, ha8, -⟩ := iv_nI ha (by decide)
  have hin : vp_in (nI s) 6 := vp_in_nI hs (by omega)
  have b0 : iv 0 9 (tdM M k 0) := row_iv hL hk (by omega)
  unfold mayW at h0 h1
  unfold q_m_walks_0 q_m_isHut_0
  refine sp_in (fun hn => ⟨rfl, iz ?_⟩) (fun g1 g2 => ⟨rfl, oi ⟨hin, ?_⟩⟩)
  · refine ⟨fun _ => h0 ?_, fun h9 => absurd rfl h9⟩
    rw [decide_eq_false (fun h9 => hn ((in_lt (iv_w b0 (by decide))).mpr h9))]
    simp
  · have hlt := (in_lt (iv_w b0 (by decide) : iv 0 1000 (tdM M k 0))).mp ⟨g1, g2⟩
    obtain ⟨y, hy, ex⟩ := lt_nI (m := 9) b0 hlt
    rw [decide_eq_true hlt] at h0 h1
    rw [ea, ex, cN_nI (by omega), cN_nI (by omega)] at h0 h1
    rw [nI_clamp (by omega), ea, ex]
    refine e_of (i := 51 + 9 * a + y) hk (by omega) (ix9 a y) ?_
    refine ⟨fun hz => h0 ?_, fun hz => ⟨hin, ?_⟩⟩
    · rw [decide_eq_true hz]; simp
    · rw [decide_eq_false hz] at h0 h1
      rw [nI_clamp (by omega)]
      refine ⟨fun hc => h0 (by rw [decide_eq_true hc]; simp), fun hc => ⟨hin, ?_⟩⟩
      rw [decide_eq_false hc] at h0 h1
      rw [ea]
      refine e_cutM hk (by omega) (fun hc1 => zi ?_) (fun hc1 => io (h0 (by rw [decide_eq_false hc1]; simp)))
      rw [decide_eq_true hc1] at h0 h1
      refine e_cutM hk (by omega) (fun hc2 => iz ⟨hin, fun at1 e1 v e2 => ?_⟩) (fun hc2 => oi (h0 (by rw [decide_eq_false hc2]; simp)))
      rw [decide_eq_true hc2] at h1
      rw [e1, e2]
      exact h1 (by simp)
/-- the evening's row of the reference: deed j, number i -/
theorem e_deedOfM {M : Nat → Nat → Int32} {e j i : Nat} {x : Int32} {post : Int32 → Prop} (he : e < 2) (hj : j < 40) (hi : i < 3) (hx : x = nI i) (hp : post (rowM M 1 (nI e) (1 + 3 * j + i))) : q_m_deedOf_0 (M 6) (nI e) (nI j) x post := by
  have e9 : (((121 * nI e) + 1) + (3 * nI j)) + x = nI (121 * e + 1 + 3 * j + i) := by rw [hx]; exact ix3 121
  refine ⟨by rw [e9]; exact vp_in_nI (by omega) (by omega), ?_⟩
  rw [e9, nI_clamp (by omega)]
  unfold rowM at hp
  rw [nI_clamp (by omega)] at hp
  rw [show 121 * e + 1 + 3 * j + i = wD 1 * e + (1 + 3 * j + i) from by show _ = 121 * e + (1 + 3 * j + i); omega]
  exact hp
abbrev NT : Type := Int32 → (Nat → Int32) → (Nat → Int32) → (Nat → Int32) → (Nat → Int32) → (Nat → Int32) → Int32 → Int32 → Int32 → Prop
/-- a post of a state -/
def nP (post : NT) (r : Int32) (S : Nat → Nat → Int32) : Prop := post r (S 0) (S 1) (S 2) (S 3) (S 4) (S 5 0) (S 5 1) (S 5 2)
def bI (b : Bool) : Int32 := if b = true then 1 else 0
/-- deed j of an evening's row -/
def actR (td ev : Nat → Int32) (j : Nat) (at_ kn cl sn lv : Nat → Int32) (be mi av : Int32) : Bool × (Nat → Nat → Int32) := act td (ev (1 + 3 * j)) (ev (2 + 3 * j)) (ev (3 + 3 * j)) at_ kn cl sn lv be mi av
