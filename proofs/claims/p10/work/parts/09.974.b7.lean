/-- bytes of a number -/
def byt (v : Int32) (i : Nat) : Int32 := (Int32.toInt8 (v >>> (nI (24 - 8 * i) &&& 31))).toInt32
theorem sh_eq (v : Int32) (s : Int32) (k : Nat) (hk : k ≤ 24) (h1 : (s.toBitVec.smod 32).toNat = k) (h2 : ((s.toUInt32 &&& Int32.toUInt32 31).toBitVec % 32).toNat = k) : Int32.toInt8 ((Int32.toUInt32 v >>> (Int32.toUInt32 s &&& Int32.toUInt32 31)).toInt32) = Int32.toInt8 (v >>> s) := by
  apply Int8.toBitVec_inj.mp
  have e1 : ((Int32.toUInt32 v >>> (Int32.toUInt32 s &&& Int32.toUInt32 31)).toInt32).toBitVec = v.toBitVec >>> k := by
    have h3 : ((Int32.toUInt32 v >>> (Int32.toUInt32 s &&& Int32.toUInt32 31)).toInt32).toBitVec = v.toBitVec >>> ((s.toUInt32 &&& Int32.toUInt32 31).toBitVec % 32) := rfl
    rw [h3, BitVec.ushiftRight_eq', h2]
  have e2 : (v >>> s).toBitVec = v.toBitVec.sshiftRight k := by
    have h3 : (v >>> s).toBitVec = v.toBitVec.sshiftRight' (s.toBitVec.smod 32) := rfl
    rw [h3, BitVec.sshiftRight_eq', h1]
  show ((Int32.toUInt32 v >>> (Int32.toUInt32 s &&& Int32.toUInt32 31)).toInt32).toBitVec.signExtend 8 = (v >>> s).toBitVec.signExtend 8
  rw [e1, e2]
  apply BitVec.eq_of_getLsbD_eq
  intro i hi
  rw [BitVec.getLsbD_signExtend, BitVec.getLsbD_signExtend]
  have hi32 : i < 32 := by omega
  simp only [hi, hi32, decide_true, Bool.true_and, if_true]
  rw [BitVec.getLsbD_ushiftRight, BitVec.getLsbD_sshiftRight]
  have h4 : ¬ 32 ≤ i := by omega
  have h5 : k + i < 32 := by omega
  simp [h4, h5]
theorem byt_x (v : Int32) : ∀ i, i < 4 → (Int32.toInt8 ((Int32.toUInt32 v >>> (Int32.toUInt32 (nI (24 - 8 * i)) &&& Int32.toUInt32 31)).toInt32)).toInt32 = byt v i := by
  intro i hi
  have hc : i = 0 ∨ i = 1 ∨ i = 2 ∨ i = 3 := by omega
  unfold byt
  rcases hc with rfl | rfl | rfl | rfl
  · rw [sh_eq v (nI 24) 24 (by omega) (by decide) (by decide), show nI 24 &&& 31 = nI 24 by decide]
  · rw [sh_eq v (nI 16) 16 (by omega) (by decide) (by decide), show nI 16 &&& 31 = nI 16 by decide]
  · rw [sh_eq v (nI 8) 8 (by omega) (by decide) (by decide), show nI 8 &&& 31 = nI 8 by decide]
  · rw [sh_eq v (nI 0) 0 (by omega) (by decide) (by decide), show nI 0 &&& 31 = nI 0 by decide]
/-- four bytes come behind n -/
def B4 (t t' : Nat → Int32) (n : Nat) (v : Int32) : Prop := (∀ j, ¬ (n ≤ j ∧ j < n + 4) → t' j = t j) ∧ ∀ i, i < 4 → t' (n + i) = byt v i
theorem B4_of {t t1 t2 t3 t4 : Nat → Int32} {n : Nat} {v : Int32} (h1 : t1 = upd t n (byt v 0)) (h2 : t2 = upd t1 (n + 1) (byt v 1)) (h3 : t3 = upd t2 (n + 2) (byt v 2)) (h4 : t4 = upd t3 (n + 3) (byt v 3)) : B4 t t4 n v := by
  refine ⟨fun j hj => ?_, fun i hi => ?_⟩
  · rw [h4, up_n (by omega), h3, up_n (by omega), h2, up_n (by omega), h1, up_n (by omega)]
  · have hc : i = 0 ∨ i = 1 ∨ i = 2 ∨ i = 3 := by omega
    rcases hc with rfl | rfl | rfl | rfl
    · rw [h4, up_n (by omega), h3, up_n (by omega), h2, up_n (by omega), h1]; exact up_s
    · rw [h4, up_n (by omega), h3, up_n (by omega), h2]; exact up_s
    · rw [h4, up_n (by omega), h3]; exact up_s
    · rw [h4]; exact up_s
theorem e_put2 {t : Nat → Int32} {n : Nat} {v : Int32} {post : (Nat → Int32) → Int32 → Prop} (hn : n + 4 ≤ 600) (h : ∀ t', B4 t t' n v → post t' (nI (n + 4))) : q_wx_X9_put_0 t (nI n) v post := by
  intro P hP
  have st : ∀ (i : Nat) (x y : Int32) (t : Nat → Int32) (m : Nat), i < 4 → x = nI (24 - 8 * i) → ¬ x < 0 → y = x + -8 → m + 1 ≤ 600 → P y (upd t m (byt v i)) (nI (m + 1)) → P x t (nI m) := by
    intro i x y t m hi hx h1 h2 h3 h5
    apply hP
    refine ⟨fun h => absurd h h1, fun _ => ⟨fun h => absurd h (nI_ge (b := 600) (by omega) (by omega)), fun _ v1 e1 => ⟨vp_in_nI (by omega) (by omega), fun t1 e2 v2 e3 v3 e5 => ?_⟩⟩⟩
    rw [hx, byt_x v i hi] at e1
    rw [e1, nI_clamp (by omega)] at e2
    have e6 : vp_nar .byte (byt v i) = byt v i := pk_vb _
    rw [e6] at e2
    rw [e3, nI_1, e5, ← h2, e2]
    exact h5
  refine st 0 24 16 _ n (by omega) rfl (by decide) (by decide) (by omega) ?_
  refine st 1 16 8 _ (n + 1) (by omega) rfl (by decide) (by decide) (by omega) ?_
  refine st 2 8 0 _ (n + 2) (by omega) rfl (by decide) (by decide) (by omega) ?_
  refine st 3 0 (-8) _ (n + 3) (by omega) rfl (by decide) (by decide) (by omega) ?_
  apply hP
  exact ⟨fun _ => h _ (B4_of rfl rfl rfl rfl), fun h => absurd (by decide) h⟩
theorem e_four2 {t z : Nat → Int32} {n : Nat} {v : Int32} {post : (Nat → Int32) → (Nat → Int32) → Prop} (hs : z 0 = nI n) (hn : n + 4 ≤ 600) (h : ∀ t' z', B4 t t' n v → z' 0 = nI (n + 4) → (∀ j, ¬ j = 0 → z' j = z j) → post t' z') : q_m_four_0 t z v post := by
  intro P hP
  have st : ∀ (i : Nat) (x y : Int32) (t z : Nat → Int32) (m : Nat), i < 4 → x = nI (24 - 8 * i) → ¬ x < 0 → y = x + -8 → z 0 = nI m → m + 1 ≤ 600 → (∀ z', z' 0 = nI (m + 1) → (∀ j, ¬ j = 0 → z' j = z j) → P y (upd t m (byt v i)) z') → P x t z := by
    intro i x y t z m hi hx h1 h2 h3 h4 h5
    apply hP
    refine ⟨fun h => absurd h h1, fun _ v1 e1 => ?_⟩
    rw [c_0, h3]
    refine ⟨vp_in_nI (by omega) (by omega), fun t1 e2 v2 e3 z1 e4 v3 e5 => ?_⟩
    rw [hx] at e1
    rw [e1, nI_clamp (by omega)] at e2
    have e6 : vp_nar .byte (byt v i) = byt v i := pk_vb _
    have e7 : t1 = upd t m (byt v i) := by rw [e2]; exact congrArg _ e6
    rw [nI_1] at e3
    rw [e5, ← h2, e7]
    refine h5 z1 ?_ (fun j hj => ?_)
    · rw [e4, e3]; exact up_s
    · rw [e4]; exact up_n hj
  refine st 0 24 16 _ _ n (by omega) rfl (by decide) (by decide) hs (by omega) fun z1 a1 n1 => ?_
  refine st 1 16 8 _ _ (n + 1) (by omega) rfl (by decide) (by decide) a1 (by omega) fun z2 a2 n2 => ?_
  refine st 2 8 0 _ _ (n + 2) (by omega) rfl (by decide) (by decide) a2 (by omega) fun z3 a3 n3 => ?_
  refine st 3 0 (-8) _ _ (n + 3) (by omega) rfl (by decide) (by decide) a3 (by omega) fun z4 a4 n4 => ?_
  apply hP
  exact ⟨fun _ => h _ z4 (B4_of rfl rfl rfl rfl) a4 (fun j hj => by rw [n4 j hj, n3 j hj, n2 j hj, n1 j hj]), fun h => absurd (by decide) h⟩
/-- twenty bytes come behind n -/
def B20 (t t' : Nat → Int32) (n : Nat) (a b c d e : Int32) : Prop := ∃ t1 t2 t3 t4, B4 t t1 n a ∧ B4 t1 t2 (n + 4) b ∧ B4 t2 t3 (n + 4 + 4) c ∧ B4 t3 t4 (n + 4 + 4 + 4) d ∧ B4 t4 t' (n + 4 + 4 + 4 + 4) e
theorem B4_un {t u t' u' : Nat → Int32} {n m : Nat} {v : Int32} (hm : m ≤ n) (h : B4 t t' n v) (g : B4 u u' n v) (he : ∀ j, j < n → t j = u j) : ∀ j, j < n + 4 → t' j = u' j := by
  intro j hj
  by_cases hjn : j < n
  · rw [h.1 j (by omega), g.1 j (by omega)]; exact he j hjn
  · obtain ⟨i, hi⟩ : ∃ i, j = n + i := ⟨j - n, by omega⟩
    rw [hi, h.2 i (by omega), g.2 i (by omega)]
theorem B20_un {t u t' u' : Nat → Int32} {n : Nat} {a b c d e : Int32} (h : B20 t t' n a b c d e) (g : B20 u u' n a b c d e) (he : ∀ j, j < n → t j = u j) : ∀ j, j < n + 20 → t' j = u' j := by
  obtain ⟨t1, t2, t3, t4, h1, h2, h3, h4, h5⟩ := h
  obtain ⟨u1, u2, u3, u4, g1, g2, g3, g4, g5⟩ := g
  have k1 := B4_un (m := 0) (by omega) h1 g1 he
  have k2 := B4_un (m := 0) (by omega) h2 g2 k1
  have k3 := B4_un (m := 0) (by omega) h3 g3 k2
  have k4 := B4_un (m := 0) (by omega) h4 g4 k3
  have k5 := B4_un (m := 0) (by omega) h5 g5 k4
  exact fun j hj => k5 j (by omega)
theorem B20_out {t t' : Nat → Int32} {n : Nat} {a b c d e : Int32} (h : B20 t t' n a b c d e) : ∀ j, n + 20 ≤ j → t' j = t j := by
  obtain ⟨t1, t2, t3, t4, h1, h2, h3, h4, h5⟩ := h
  intro j hj
  rw [h5.1 j (by omega), h4.1 j (by omega), h3.1 j (by omega), h2.1 j (by omega), h1.1 j (by omega)]
theorem e_x_feed2 {t : Nat → Int32} {l x1 x2 x3 x4 x5 : Int32} {post : Int32 → (Nat → Int32) → Int32 → Prop} (hl : iv 0 600 l) (h0 : ¬ l + 20 ≤ 600 → post (-1) t l) (h1 : ∀ n, l = nI n → n + 20 ≤ 600 → ∀ t', B20 t t' n x1 x2 x3 x4 x5 → post (nI (n + 20)) t' (nI (n + 20))) : q_wx_X10_feed_0 t l x1 x2 x3 x4 x5 post := by
  obtain ⟨n, rfl, -, hn6, hn2⟩ := iv_nI hl (by omega)
  have hn : n ≤ 600 := by omega
  refine ⟨fun hc => ?_, fun hc => h0 hc⟩
  have hle := (e_len hn).mp hc
  refine e_put2 (by omega) fun t1 d1 => ?_
  refine e_put2 (n := n + 4) (by omega) fun t2 d2 => ?_
  refine e_put2 (n := n + 4 + 4) (by omega) fun t3 d3 => ?_
  refine e_put2 (n := n + 4 + 4 + 4) (by omega) fun t4 d4 => ?_
  refine e_put2 (n := n + 4 + 4 + 4 + 4) (by omega) fun t5 d5 => ?_
  exact h1 n rfl hle t5 ⟨t1, t2, t3, t4, d1, d2, d3, d4, d5⟩
theorem e_m_feed2 {f_code : Int32} {t z : Nat → Int32} {x1 x2 x3 x4 x5 : Int32} {post : Int32 → Int32 → (Nat → Int32) → (Nat → Int32) → Prop} (hz : iv 0 600 (z 0)) (h0 : ¬ z 0 + 20 ≤ 600 → post (-1) 0 t z) (h1 : ∀ n, z 0 = nI n → n + 20 ≤ 600 → ∀ t' z', B20 t t' n x1 x2 x3 x4 x5 → z' 0 = nI (n + 20) → (∀ j, ¬ j = 0 → z' j = z j) → post (nI (n + 20)) 0 t' z') : q_m_feed_0 f_code t z x1 x2 x3 x4 x5 post := by
  obtain ⟨n, hn, -, hn6, hn2⟩ := iv_nI hz (by omega)
  refine ⟨fun hc => ?_, fun hc => h0 (by rw [c_0] at hc; exact hc)⟩
  rw [c_0, hn] at hc
  have hle := (e_len (by omega)).mp hc
  refine e_four2 hn (by omega) fun t1 z1 d1 a1 n1 => ?_
  refine e_four2 a1 (by omega) fun t2 z2 d2 a2 n2 => ?_
  refine e_four2 a2 (by omega) fun t3 z3 d3 a3 n3 => ?_
  refine e_four2 a3 (by omega) fun t4 z4 d4 a4 n4 => ?_
  refine e_four2 a4 (by omega) fun t5 z5 d5 a5 n5 => ?_
  have g := h1 n hn hle t5 z5 ⟨t1, t2, t3, t4, d1, d2, d3, d4, d5⟩ a5 (fun j hj => by rw [n5 j hj, n4 j hj, n3 j hj, n2 j hj, n1 j hj])
  rw [c_0, a5]
  exact g
/-- the reference copies a slot to another -/
def wR (c : Nat) : Nat := [600, 1, 1, 1, 4, 264, 242, 62, 40].getD c 0
def rCP (a a' : Nat → Int32) (w f g : Nat) : Prop := (∀ i, i < w → a' (w * g + i) = a (w * f + i)) ∧ ∀ j, j < w * g ∨ w * g + w ≤ j → a' j = a j
def mCP (M M' : Nat → Nat → Int32) (f g : Nat) : Prop := ∀ c, c < 9 → rCP (M c) (M' c) (wR c) f g
theorem nar_b {x : Int32} (h : iv (-128) 127 x) : vp_nar .byte x = x := by
  rw [vp_nar_byte]
  apply Int32.toInt_inj.mp
  rw [Int8.toInt_toInt32, Int32.toInt_toInt8]
  have := h.1
  have := h.2
  exact Int.bmod_eq_of_le (by omega) (by omega)
theorem e_copyAll2 {M : Nat → Nat → Int32} {f g : Nat} {post : (Nat → Int32) → (Nat → Int32) → (Nat → Int32) → (Nat → Int32) → (Nat → Int32) → (Nat → Int32) → (Nat → Int32) → (Nat → Int32) → (Nat → Int32) → Prop} (hf : f ≤ 3) (hg : g ≤ 3) (hne : ¬ f = g) (ht : ∀ j, iv (-128) 127 (M 0 j)) (h : ∀ t z fa fp mn l e s c kp, mCP M (mmk t z fa fp mn l e s c kp) f g → post t z fa fp mn l e s c) : q_m_copyAll_0 (M 0) (M 1) (M 2) (M 3) (M 4) (M 5) (M 6) (M 7) (M 8) (nI f) (nI g) post := by
  intro P hP
  have ef : (600 : Int32) * nI f = nI (600 * f) := pk_mul 600 f
  have eg : (600 : Int32) * nI g = nI (600 * g) := pk_mul 600 g
  have loop : ∀ (n i : Nat) (t : Nat → Int32), n + i = 600 → (∀ j, j < i → t (600 * g + j) = M 0 (600 * f + j)) → (∀ j, j < 600 * g ∨ 600 * g + i ≤ j → t j = M 0 j) → P (nI i) t := by
    intro n
    induction n with
    | zero =>
      intro i t hi h1 h2
      apply hP
      refine ⟨fun _ => ?_, fun h2 => absurd (nI_le (a := 600) (by omega) (by omega)) h2⟩
      refine sp_row2E hf hg hne fun z' a1 a2 => sp_row3E hf hg hne fun _ b1 b2 => sp_row4E hf hg hne fun _ c1 c2 => sp_row5E hf hg hne fun m' d1 d2 => sp_row6E hf hg hne fun l' f1 f2 => sp_row7E hf hg hne fun e' g1 g2 => sp_row8E hf hg hne fun s' i1 i2 => sp_row9E hf hg hne fun c' j1 j2 => ?_
      refine h _ _ _ _ _ _ _ _ _ (fun _ => 0) (fun c hc => ?_)
      have hcc : c = 0 ∨ c = 1 ∨ c = 2 ∨ c = 3 ∨ c = 4 ∨ c = 5 ∨ c = 6 ∨ c = 7 ∨ c = 8 := by omega
      rcases hcc with rfl | rfl | rfl | rfl | rfl | rfl | rfl | rfl | rfl
      · exact ⟨fun j hj => h1 j (by have : wR 0 = 600 := rfl; omega), fun j hj => h2 j (by have hj2 : j < 600 * g ∨ 600 * g + 600 ≤ j := hj; omega)⟩
      · exact ⟨a1, a2⟩
      · exact ⟨b1, b2⟩
      · exact ⟨c1, c2⟩
      · exact ⟨d1, d2⟩
      · exact ⟨f1, f2⟩
      · exact ⟨g1, g2⟩
      · exact ⟨i1, i2⟩
      · exact ⟨j1, j2⟩
    | succ n ih =>
      intro i t hi h1 h2
      apply hP
      refine ⟨fun h2 => absurd h2 (nI_ge (b := 600) (by omega) (by omega)), fun _ => ?_⟩
      rw [ef, eg, nI_add, nI_add]
      refine ⟨vp_in_nI (by omega) (by omega), fun v1 ev => ⟨vp_in_nI (by omega) (by omega), fun t1 e1 v2 e2 => ?_⟩⟩
      rw [nI_clamp (by omega)] at ev e1
      have e3 : v1 = M 0 (600 * f + i) := by
        rw [ev]
        exact h2 _ (by omega)
      rw [e3, nar_b (ht _)] at e1
      rw [e2, nI_1, e1]
      refine ih (i + 1) _ (by omega) (fun j hj => ?_) (fun j hj => ?_)
      · by_cases hji : j = i
        · subst hji; exact up_s
        · rw [up_n (by omega)]; exact h1 j (by omega)
      · rw [up_n (by omega)]; exact h2 j (by omega)
  exact loop 600 0 (M 0) rfl (fun j hj => absurd hj (by omega)) (fun _ _ => rfl)
