section
/-- bytes of a number -/
def byt (v : Int32) (i : Nat) : Int32 := (Int32.toInt8 (v >>> (nI (24 - 8 * i) &&& 31))).toInt32
theorem sh_eq (v : Int32) (s : Int32) (k : Nat) (hk : k ≤ 24) (h1 : (s.toBitVec.smod 32).toNat = k) (h2 : ((s.toUInt32 &&& Int32.toUInt32 31).toBitVec % 32).toNat = k) : Int32.toInt8 ((Int32.toUInt32 v >>> (Int32.toUInt32 s &&& Int32.toUInt32 31)).toInt32) = Int32.toInt8 (v >>> s) := by
  apply Int8.toBitVec_inj.mp
  have e1 : ((Int32.toUInt32 v >>> (Int32.toUInt32 s &&& Int32.toUInt32 31)).toInt32).toBitVec = v.toBitVec >>> k := by
    have h3 : ((Int32.toUInt32 v >>> (Int32.toUInt32 s &&& Int32.toUInt32 31)).toInt32).toBitVec = v.toBitVec >>> ((s.toUInt32 &&& Int32.toUInt32 31).toBitVec % 32) := rfl
    rw [h3, BitVec.ushiftRight_eq', h2]
  have e2 : (v >>> s).toBitVec = v.toBitVec.sshiftRight k := by
    have h3 : (v >>> s).toBitVec = v.toBitVec.sshiftRight' (s.toBitVec.smod 32) := rfl
    rw [h3, BitVec.sshiftRight_eq', h1]
  show ((Int32.toUInt32 v >>> (Int32.toUInt32 s &&& Int32.toUInt32 31)).toInt32).toBitVec.signExtend 8 = (v >>> s).toBitVec.signExtend 8
  rw [e1, e2]
  apply BitVec.eq_of_getLsbD_eq
  intro i hi
  rw [BitVec.getLsbD_signExtend, BitVec.getLsbD_signExtend]
  have hi32 : i < 32 := by omega
  simp only [hi, hi32, decide_true, Bool.true_and, if_true]
  rw [BitVec.getLsbD_ushiftRight, BitVec.getLsbD_sshiftRight]
  have h4 : ¬ 32 ≤ i := by omega
  have h5 : k + i < 32 := by omega
  simp [h4, h5]
theorem byt_x (v : Int32) : ∀ i, i < 4 → (Int32.toInt8 ((Int32.toUInt32 v >>> (Int32.toUInt32 (nI (24 - 8 * i)) &&& Int32.toUInt32 31)).toInt32)).toInt32 = byt v i := by
  intro i hi
  have hc : i = 0 ∨ i = 1 ∨ i = 2 ∨ i = 3 := by omega
  unfold byt
  rcases hc with rfl | rfl | rfl | rfl
  · rw [sh_eq v (nI 24) 24 (by omega) (by decide) (by decide), show nI 24 &&& 31 = nI 24 by decide]
  · rw [sh_eq v (nI 16) 16 (by omega) (by decide) (by decide), show nI 16 &&& 31 = nI 16 by decide]
  · rw [sh_eq v (nI 8) 8 (by omega) (by decide) (by decide), show nI 8 &&& 31 = nI 8 by decide]
  · rw [sh_eq v (nI 0) 0 (by omega) (by decide) (by decide), show nI 0 &&& 31 = nI 0 by decide]
/-- four bytes come behind n -/
def B4 (t t' : Nat → Int32) (n : Nat) (v : Int32) : Prop := (∀ j, ¬ (n ≤ j ∧ j < n + 4) → t' j = t j) ∧ ∀ i, i < 4 → t' (n + i) = byt v i
theorem B4_of {t t1 t2 t3 t4 : Nat → Int32} {n : Nat} {v : Int32} (h1 : t1 = upd t n (byt v 0)) (h2 : t2 = upd t1 (n + 1) (byt v 1)) (h3 : t3 = upd t2 (n + 2) (byt v 2)) (h4 : t4 = upd t3 (n + 3) (byt v 3)) : B4 t t4 n v := by
  refine ⟨fun j hj => ?_, fun i hi => ?_⟩
  · rw [h4, up_n (by omega), h3, up_n (by omega), h2, up_n (by omega), h1, up_n (by omega)]
  · have hc : i = 0 ∨ i = 1 ∨ i = 2 ∨ i = 3 := by omega
    rcases hc with rfl | rfl | rfl | rfl
    · rw [h4, up_n (by omega), h3, up_n (by omega), h2, up_n (by omega), h1]; exact up_s
    · rw [h4, up_n (by omega), h3, up_n (by omega), h2]; exact up_s
    · rw [h4, up_n (by omega), h3]; exact up_s
    · rw [h4]; exact up_s
theorem e_put2 {t : Nat → Int32} {n : Nat} {v : Int32} {post : (Nat → Int32) → Int32 → Prop} (hn : n + 4 ≤ 600) (h : ∀ t', B4 t t' n v → post t' (nI (n + 4))) : q_wx_X9_put_0 t (nI n) v post := by
  intro P hP
  have st : ∀ (i : Nat) (x y : Int32) (t : Nat → Int32) (m : Nat), i < 4 → x = nI (24 - 8 * i) → ¬ x < 0 → y = x + -8 → m + 1 ≤ 600 → P y (upd t m (byt v i)) (nI (m + 1)) → P x t (nI m) := by
    intro i x y t m hi hx h1 h2 h3 h5
    apply hP
    refine ⟨fun h => absurd h h1, fun _ => ⟨fun h => absurd h (nI_ge (b := 600) (by omega) (by omega)), fun _ v1 e1 => ⟨vp_in_nI (by omega) (by omega), fun t1 e2 v2 e3 v3 e5 => ?_⟩⟩⟩
    rw [hx, byt_x v i hi] at e1
    rw [e1, nI_clamp (by omega)] at e2
    have e6 : vp_nar .byte (byt v i) = byt v i := pk_vb _
    rw [e6] at e2
    rw [e3, nI_1, e5, ← h2, e2]
    exact h5
  refine st 0 24 16 _ n (by omega) rfl (by decide) (by decide) (by omega) ?_
  refine st 1 16 8 _ (n + 1) (by omega) rfl (by decide) (by decide) (by omega) ?_
  refine st 2 8 0 _ (n + 2) (by omega) rfl (by decide) (by decide) (by omega) ?_
  refine st 3 0 (-8) _ (n + 3) (by omega) rfl (by decide) (by decide) (by omega) ?_
  apply hP
  exact ⟨fun _ => h _ (B4_of rfl rfl rfl rfl), fun h => absurd (by decide) h⟩
theorem e_four2 {t z : Nat → Int32} {n : Nat} {v : Int32} {post : (Nat → Int32) → (Nat → Int32) → Prop} (hs : z 0 = nI n) (hn : n + 4 ≤ 600) (h : ∀ t' z', B4 t t' n v → z' 0 = nI (n + 4) → (∀ j, ¬ j = 0 → z' j = z j) → post t' z') : q_m_four_0 t z v post := by
  intro P hP
  have st : ∀ (i : Nat) (x y : Int32) (t z : Nat → Int32) (m : Nat), i < 4 → x = nI (24 - 8 * i) → ¬ x < 0 → y = x + -8 → z 0 = nI m → m + 1 ≤ 600 → (∀ z', z' 0 = nI (m + 1) → (∀ j, ¬ j = 0 → z' j = z j) → P y (upd t m (byt v i)) z') → P x t z := by
    intro i x y t z m hi hx h1 h2 h3 h4 h5
    apply hP
    refine ⟨fun h => absurd h h1, fun _ v1 e1 => ?_⟩
    rw [c_0, h3]
    refine ⟨vp_in_nI (by omega) (by omega), fun t1 e2 v2 e3 z1 e4 v3 e5 => ?_⟩
    rw [hx] at e1
    rw [e1, nI_clamp (by omega)] at e2
    have e6 : vp_nar .byte (byt v i) = byt v i := pk_vb _
    have e7 : t1 = upd t m (byt v i) := by rw [e2]; exact congrArg _ e6
    rw [nI_1] at e3
    rw [e5, ← h2, e7]
    refine h5 z1 ?_ (fun j hj => ?_)
    · rw [e4, e3]; exact up_s
    · rw [e4]; exact up_n hj
  refine st 0 24 16 _ _ n (by omega) rfl (by decide) (by decide) hs (by omega) fun z1 a1 n1 => ?_
  refine st 1 16 8 _ _ (n + 1) (by omega) rfl (by decide) (by decide) a1 (by omega) fun z2 a2 n2 => ?_
  refine st 2 8 0 _ _ (n + 2) (by omega) rfl (by decide) (by decide) a2 (by omega) fun z3 a3 n3 => ?_
  refine st 3 0 (-8) _ _ (n + 3) (by omega) rfl (by decide) (by decide) a3 (by omega) fun z4 a4 n4 => ?_
  apply hP
  exact ⟨fun _ => h _ z4 (B4_of rfl rfl rfl rfl) a4 (fun j hj => by rw [n4 j hj, n3 j hj, n2 j hj, n1 j hj]), fun h => absurd (by decide) h⟩
/-- twenty bytes come behind n -/
def B20 (t t' : Nat → Int32) (n : Nat) (a b c d e : Int32) : Prop := ∃ t1 t2 t3 t4, B4 t t1 n a ∧ B4 t1 t2 (n + 4) b ∧ B4 t2 t3 (n + 4 + 4) c ∧ B4 t3 t4 (n + 4 + 4 + 4) d ∧ B4 t4 t' (n + 4 + 4 + 4 + 4) e
theorem B4_un {t u t' u' : Nat → Int32} {n m : Nat} {v : Int32} (hm : m ≤ n) (h : B4 t t' n v) (g : B4 u u' n v) (he : ∀ j, j < n → t j = u j) : ∀ j, j < n + 4 → t' j = u' j := by
  intro j hj
  by_cases hjn : j < n
  · rw [h.1 j (by omega), g.1 j (by omega)]; exact he j hjn
  · obtain ⟨i, hi⟩ : ∃ i, j = n + i := ⟨j - n, by omega⟩
    rw [hi, h.2 i (by omega), g.2 i (by omega)]
theorem B20_un {t u t' u' : Nat → Int32} {n : Nat} {a b c d e : Int32} (h : B20 t t' n a b c d e) (g : B20 u u' n a b c d e) (he : ∀ j, j < n → t j = u j) : ∀ j, j < n + 20 → t' j = u' j := by
  obtain ⟨t1, t2, t3, t4, h1, h2, h3, h4, h5⟩ := h
  obtain ⟨u1, u2, u3, u4, g1, g2, g3, g4, g5⟩ := g
  have k1 := B4_un (m := 0) (by omega) h1 g1 he
  have k2 := B4_un (m := 0) (by omega) h2 g2 k1
  have k3 := B4_un (m := 0) (by omega) h3 g3 k2
  have k4 := B4_un (m := 0) (by omega) h4 g4 k3
  have k5 := B4_un (m := 0) (by omega) h5 g5 k4
  exact fun j hj => k5 j (by omega)
theorem B20_out {t t' : Nat → Int32} {n : Nat} {a b c d e : Int32} (h : B20 t t' n a b c d e) : ∀ j, n + 20 ≤ j → t' j = t j := by
  obtain ⟨t1, t2, t3, t4, h1, h2, h3, h4, h5⟩ := h
  intro j hj
  rw [h5.1 j (by omega), h4.1 j (by omega), h3.1 j (by omega), h2.1 j (by omega), h1.1 j (by omega)]
theorem e_x_feed2 {t : Nat → Int32} {l x1 x2 x3 x4 x5 : Int32} {post : Int32 → (Nat → Int32) → Int32 → Prop} (hl : iv 0 600 l) (h0 : ¬ l + 20 ≤ 600 → post (-1) t l) (h1 : ∀ n, l = nI n → n + 20 ≤ 600 → ∀ t', B20 t t' n x1 x2 x3 x4 x5 → post (nI (n + 20)) t' (nI (n + 20))) : q_wx_X10_feed_0 t l x1 x2 x3 x4 x5 post := by
  obtain ⟨n, rfl, -, hn6, hn2⟩ := iv_nI hl (by omega)
  have hn : n ≤ 600 := by omega
  refine ⟨fun hc => ?_, fun hc => h0 hc⟩
  have hle := (e_len hn).mp hc
  refine e_put2 (by omega) fun t1 d1 => ?_
  refine e_put2 (n := n + 4) (by omega) fun t2 d2 => ?_
  refine e_put2 (n := n + 4 + 4) (by omega) fun t3 d3 => ?_
  refine e_put2 (n := n + 4 + 4 + 4) (by omega) fun t4 d4 => ?_
  refine e_put2 (n := n + 4 + 4 + 4 + 4) (by omega) fun t5 d5 => ?_
  exact h1 n rfl hle t5 ⟨t1, t2, t3, t4, d1, d2, d3, d4, d5⟩
theorem e_m_feed2 {f_code : Int32} {t z : Nat → Int32} {x1 x2 x3 x4 x5 : Int32} {post : Int32 → Int32 → (Nat → Int32) → (Nat → Int32) → Prop} (hz : iv 0 600 (z 0)) (h0 : ¬ z 0 + 20 ≤ 600 → post (-1) 0 t z) (h1 : ∀ n, z 0 = nI n → n + 20 ≤ 600 → ∀ t' z', B20 t t' n x1 x2 x3 x4 x5 → z' 0 = nI (n + 20) → (∀ j, ¬ j = 0 → z' j = z j) → post (nI (n + 20)) 0 t' z') : q_m_feed_0 f_code t z x1 x2 x3 x4 x5 post := by
  obtain ⟨n, hn, -, hn6, hn2⟩ := iv_nI hz (by omega)
  refine ⟨fun hc => ?_, fun hc => h0 (by rw [c_0] at hc; exact hc)⟩
  rw [c_0, hn] at hc
  have hle := (e_len (by omega)).mp hc
  refine e_four2 hn (by omega) fun t1 z1 d1 a1 n1 => ?_
  refine e_four2 a1 (by omega) fun t2 z2 d2 a2 n2 => ?_
  refine e_four2 a2 (by omega) fun t3 z3 d3 a3 n3 => ?_
  refine e_four2 a3 (by omega) fun t4 z4 d4 a4 n4 => ?_
  refine e_four2 a4 (by omega) fun t5 z5 d5 a5 n5 => ?_
  have g := h1 n hn hle t5 z5 ⟨t1, t2, t3, t4, d1, d2, d3, d4, d5⟩ a5 (fun j hj => by rw [n5 j hj, n4 j hj, n3 j hj, n2 j hj, n1 j hj])
  rw [c_0, a5]
  exact g
/-- the reference copies a slot to another -/
def wR (c : Nat) : Nat := [600, 1, 1, 1, 4, 264, 242, 62, 40].getD c 0
def rCP (a a' : Nat → Int32) (w f g : Nat) : Prop := (∀ i, i < w → a' (w * g + i) = a (w * f + i)) ∧ ∀ j, j < w * g ∨ w * g + w ≤ j → a' j = a j
def mCP (M M' : Nat → Nat → Int32) (f g : Nat) : Prop := ∀ c, c < 9 → rCP (M c) (M' c) (wR c) f g
theorem nar_b {x : Int32} (h : iv (-128) 127 x) : vp_nar .byte x = x := by
  rw [vp_nar_byte]
  apply Int32.toInt_inj.mp
  rw [Int8.toInt_toInt32, Int32.toInt_toInt8]
  have := h.1
  have := h.2
  exact Int.bmod_eq_of_le (by omega) (by omega)
theorem e_copyAll2 {M : Nat → Nat → Int32} {f g : Nat} {post : (Nat → Int32) → (Nat → Int32) → (Nat → Int32) → (Nat → Int32) → (Nat → Int32) → (Nat → Int32) → (Nat → Int32) → (Nat → Int32) → (Nat → Int32) → Prop} (hf : f ≤ 3) (hg : g ≤ 3) (hne : ¬ f = g) (ht : ∀ j, iv (-128) 127 (M 0 j)) (h : ∀ t z fa fp mn l e s c kp, mCP M (mmk t z fa fp mn l e s c kp) f g → post t z fa fp mn l e s c) : q_m_copyAll_0 (M 0) (M 1) (M 2) (M 3) (M 4) (M 5) (M 6) (M 7) (M 8) (nI f) (nI g) post := by
  intro P hP
  have ef : (600 : Int32) * nI f = nI (600 * f) := pk_mul 600 f
  have eg : (600 : Int32) * nI g = nI (600 * g) := pk_mul 600 g
  have loop : ∀ (n i : Nat) (t : Nat → Int32), n + i = 600 → (∀ j, j < i → t (600 * g + j) = M 0 (600 * f + j)) → (∀ j, j < 600 * g ∨ 600 * g + i ≤ j → t j = M 0 j) → P (nI i) t := by
    intro n
    induction n with
    | zero =>
      intro i t hi h1 h2
      apply hP
      refine ⟨fun _ => ?_, fun h2 => absurd (nI_le (a := 600) (by omega) (by omega)) h2⟩
      refine sp_row2E hf hg hne fun z' a1 a2 => sp_row3E hf hg hne fun _ b1 b2 => sp_row4E hf hg hne fun _ c1 c2 => sp_row5E hf hg hne fun m' d1 d2 => sp_row6E hf hg hne fun l' f1 f2 => sp_row7E hf hg hne fun e' g1 g2 => sp_row8E hf hg hne fun s' i1 i2 => sp_row9E hf hg hne fun c' j1 j2 => ?_
      refine h _ _ _ _ _ _ _ _ _ (fun _ => 0) (fun c hc => ?_)
      have hcc : c = 0 ∨ c = 1 ∨ c = 2 ∨ c = 3 ∨ c = 4 ∨ c = 5 ∨ c = 6 ∨ c = 7 ∨ c = 8 := by omega
      rcases hcc with rfl | rfl | rfl | rfl | rfl | rfl | rfl | rfl | rfl
      · exact ⟨fun j hj => h1 j (by have : wR 0 = 600 := rfl; omega), fun j hj => h2 j (by have hj2 : j < 600 * g ∨ 600 * g + 600 ≤ j := hj; omega)⟩
      · exact ⟨a1, a2⟩
      · exact ⟨b1, b2⟩
      · exact ⟨c1, c2⟩
      · exact ⟨d1, d2⟩
      · exact ⟨f1, f2⟩
      · exact ⟨g1, g2⟩
      · exact ⟨i1, i2⟩
      · exact ⟨j1, j2⟩
    | succ n ih =>
      intro i t hi h1 h2
      apply hP
      refine ⟨fun h2 => absurd h2 (nI_ge (b := 600) (by omega) (by omega)), fun _ => ?_⟩
      rw [ef, eg, nI_add, nI_add]
      refine ⟨vp_in_nI (by omega) (by omega), fun v1 ev => ⟨vp_in_nI (by omega) (by omega), fun t1 e1 v2 e2 => ?_⟩⟩
      rw [nI_clamp (by omega)] at ev e1
      have e3 : v1 = M 0 (600 * f + i) := by
        rw [ev]
        exact h2 _ (by omega)
      rw [e3, nar_b (ht _)] at e1
      rw [e2, nI_1, e1]
      refine ih (i + 1) _ (by omega) (fun j hj => ?_) (fun j hj => ?_)
      · by_cases hji : j = i
        · subst hji; exact up_s
        · rw [up_n (by omega)]; exact h1 j (by omega)
      · rw [up_n (by omega)]; exact h2 j (by omega)
  exact loop 600 0 (M 0) rfl (fun j hj => absurd hj (by omega)) (fun _ _ => rfl)
end
section
def tCP (T' T : TT) : Prop := (∀ i, i < 25 → T'.1 i = T.1 i) ∧ (∀ j, j < (T.1 0).toNatClampNeg → T'.2 0 j = T.2 0 j) ∧ (∀ j, j < 4 → T'.2 1 j = T.2 1 j) ∧ (∀ o k td, o < 4 → k < 2 → SL o k T td → SL o k T' td)
theorem cs_S0 {i : Nat} (h2 : i < 25) : i = 0 ∨ i = 1 ∨ i = 2 ∨ i = 3 ∨ i = 4 ∨ i = 5 ∨ i = 6 ∨ i = 7 ∨ i = 8 ∨ i = 9 ∨ i = 10 ∨ i = 11 ∨ i = 12 ∨ i = 13 ∨ i = 14 ∨ i = 15 ∨ i = 16 ∨ i = 17 ∨ i = 18 ∨ i = 19 ∨ i = 20 ∨ i = 21 ∨ i = 22 ∨ i = 23 ∨ i = 24 := by omega
set_option maxRecDepth 40000 in
set_option maxHeartbeats 4000000 in
theorem e_cp {f_length f_fault f_place l0f_huts l0f_singers l0f_villages l0f_dams l0f_echoes l0f_deep l0f_slide l1f_huts l1f_singers l1f_villages l1f_dams l1f_echoes l1f_deep l1f_slide v0f_deeds v1f_deeds s0f_facts s1f_facts c0f_voices c0f_step c1f_voices c1f_step : Int32} {a_tape a_counts l0a_heights l0a_ladders l0a_minutes l0a_echoFrom l0a_echoTo l0a_homes l0a_talls l0a_known l1a_heights l1a_ladders l1a_minutes l1a_echoFrom l1a_echoTo l1a_homes l1a_talls l1a_known v0a_kinds v0a_firsts v0a_seconds v1a_kinds v1a_firsts v1a_seconds s0a_heard s0a_huts s0a_minutes s1a_heard s1a_huts s1a_minutes c0a_parts c0a_heights c1a_parts c1a_heights : Nat → Int32} {of_length of_fault of_place ol0f_huts ol0f_singers ol0f_villages ol0f_dams ol0f_echoes ol0f_deep ol0f_slide ol1f_huts ol1f_singers ol1f_villages ol1f_dams ol1f_echoes ol1f_deep ol1f_slide ov0f_deeds ov1f_deeds os0f_facts os1f_facts oc0f_voices oc0f_step oc1f_voices oc1f_step : Int32} {oa_tape oa_counts ol0a_heights ol0a_ladders ol0a_minutes ol0a_echoFrom ol0a_echoTo ol0a_homes ol0a_talls ol0a_known ol1a_heights ol1a_ladders ol1a_minutes ol1a_echoFrom ol1a_echoTo ol1a_homes ol1a_talls ol1a_known ov0a_kinds ov0a_firsts ov0a_seconds ov1a_kinds ov1a_firsts ov1a_seconds os0a_heard os0a_huts os0a_minutes os1a_heard os1a_huts os1a_minutes oc0a_parts oc0a_heights oc1a_parts oc1a_heights : Nat → Int32} {post : (Nat → Int32) → (Int32) → (Int32) → (Int32) → (Nat → Int32) → (Int32) → (Int32) → (Int32) → (Int32) → (Int32) → (Int32) → (Int32) → (Nat → Int32) → (Nat → Int32) → (Nat → Int32) → (Nat → Int32) → (Nat → Int32) → (Nat → Int32) → (Nat → Int32) → (Nat → Int32) → (Int32) → (Int32) → (Int32) → (Int32) → (Int32) → (Int32) → (Int32) → (Nat → Int32) → (Nat → Int32) → (Nat → Int32) → (Nat → Int32) → (Nat → Int32) → (Nat → Int32) → (Nat → Int32) → (Nat → Int32) → (Int32) → (Nat → Int32) → (Nat → Int32) → (Nat → Int32) → (Int32) → (Nat → Int32) → (Nat → Int32) → (Nat → Int32) → (Int32) → (Nat → Int32) → (Nat → Int32) → (Nat → Int32) → (Int32) → (Nat → Int32) → (Nat → Int32) → (Nat → Int32) → (Int32) → (Int32) → (Nat → Int32) → (Nat → Int32) → (Int32) → (Int32) → (Nat → Int32) → (Nat → Int32) → Prop} (k_f_length : iv 0 600 of_length) (k_a_tape : ∀ j, iv (-128) 127 (oa_tape j)) (k_l0f_huts : iv 0 9 ol0f_huts) (k_l0f_singers : iv 0 6 ol0f_singers) (k_l0f_echoes : iv 0 4 ol0f_echoes) (k_v0f_deeds : iv 0 40 ov0f_deeds) (k_s0f_facts : iv 0 10 os0f_facts) (k_c0f_voices : iv 0 9 oc0f_voices) (k_l1f_huts : iv 0 9 ol1f_huts) (k_l1f_singers : iv 0 6 ol1f_singers) (k_l1f_echoes : iv 0 4 ol1f_echoes) (k_v1f_deeds : iv 0 40 ov1f_deeds) (k_s1f_facts : iv 0 10 os1f_facts) (k_c1f_voices : iv 0 9 oc1f_voices) (hp : ∀ (na_tape : Nat → Int32) (nf_length : Int32) (nf_fault : Int32) (nf_place : Int32) (na_counts : Nat → Int32) (nl0f_huts : Int32) (nl0f_singers : Int32) (nl0f_villages : Int32) (nl0f_dams : Int32) (nl0f_echoes : Int32) (nl0f_deep : Int32) (nl0f_slide : Int32) (nl0a_heights : Nat → Int32) (nl0a_ladders : Nat → Int32) (nl0a_minutes : Nat → Int32) (nl0a_echoFrom : Nat → Int32) (nl0a_echoTo : Nat → Int32) (nl0a_homes : Nat → Int32) (nl0a_talls : Nat → Int32) (nl0a_known : Nat → Int32) (nl1f_huts : Int32) (nl1f_singers : Int32) (nl1f_villages : Int32) (nl1f_dams : Int32) (nl1f_echoes : Int32) (nl1f_deep : Int32) (nl1f_slide : Int32) (nl1a_heights : Nat → Int32) (nl1a_ladders : Nat → Int32) (nl1a_minutes : Nat → Int32) (nl1a_echoFrom : Nat → Int32) (nl1a_echoTo : Nat → Int32) (nl1a_homes : Nat → Int32) (nl1a_talls : Nat → Int32) (nl1a_known : Nat → Int32) (nv0f_deeds : Int32) (nv0a_kinds : Nat → Int32) (nv0a_firsts : Nat → Int32) (nv0a_seconds : Nat → Int32) (nv1f_deeds : Int32) (nv1a_kinds : Nat → Int32) (nv1a_firsts : Nat → Int32) (nv1a_seconds : Nat → Int32) (ns0f_facts : Int32) (ns0a_heard : Nat → Int32) (ns0a_huts : Nat → Int32) (ns0a_minutes : Nat → Int32) (ns1f_facts : Int32) (ns1a_heard : Nat → Int32) (ns1a_huts : Nat → Int32) (ns1a_minutes : Nat → Int32) (nc0f_voices : Int32) (nc0f_step : Int32) (nc0a_parts : Nat → Int32) (nc0a_heights : Nat → Int32) (nc1f_voices : Int32) (nc1f_step : Int32) (nc1a_parts : Nat → Int32) (nc1a_heights : Nat → Int32), tCP (tmk na_tape nf_length nf_fault nf_place na_counts nl0f_huts nl0f_singers nl0f_villages nl0f_dams nl0f_echoes nl0f_deep nl0f_slide nl0a_heights nl0a_ladders nl0a_minutes nl0a_echoFrom nl0a_echoTo nl0a_homes nl0a_talls nl0a_known nl1f_huts nl1f_singers nl1f_villages nl1f_dams nl1f_echoes nl1f_deep nl1f_slide nl1a_heights nl1a_ladders nl1a_minutes nl1a_echoFrom nl1a_echoTo nl1a_homes nl1a_talls nl1a_known nv0f_deeds nv0a_kinds nv0a_firsts nv0a_seconds nv1f_deeds nv1a_kinds nv1a_firsts nv1a_seconds ns0f_facts ns0a_heard ns0a_huts ns0a_minutes ns1f_facts ns1a_heard ns1a_huts ns1a_minutes nc0f_voices nc0f_step nc0a_parts nc0a_heights nc1f_voices nc1f_step nc1a_parts nc1a_heights) (tmk oa_tape of_length of_fault of_place oa_counts ol0f_huts ol0f_singers ol0f_villages ol0f_dams ol0f_echoes ol0f_deep ol0f_slide ol0a_heights ol0a_ladders ol0a_minutes ol0a_echoFrom ol0a_echoTo ol0a_homes ol0a_talls ol0a_known ol1f_huts ol1f_singers ol1f_villages ol1f_dams ol1f_echoes ol1f_deep ol1f_slide ol1a_heights ol1a_ladders ol1a_minutes ol1a_echoFrom ol1a_echoTo ol1a_homes ol1a_talls ol1a_known ov0f_deeds ov0a_kinds ov0a_firsts ov0a_seconds ov1f_deeds ov1a_kinds ov1a_firsts ov1a_seconds os0f_facts os0a_heard os0a_huts os0a_minutes os1f_facts os1a_heard os1a_huts os1a_minutes oc0f_voices oc0f_step oc0a_parts oc0a_heights oc1f_voices oc1f_step oc1a_parts oc1a_heights) → post na_tape nf_length nf_fault nf_place na_counts nl0f_huts nl0f_singers nl0f_villages nl0f_dams nl0f_echoes nl0f_deep nl0f_slide nl0a_heights nl0a_ladders nl0a_minutes nl0a_echoFrom nl0a_echoTo nl0a_homes nl0a_talls nl0a_known nl1f_huts nl1f_singers nl1f_villages nl1f_dams nl1f_echoes nl1f_deep nl1f_slide nl1a_heights nl1a_ladders nl1a_minutes nl1a_echoFrom nl1a_echoTo nl1a_homes nl1a_talls nl1a_known nv0f_deeds nv0a_kinds nv0a_firsts nv0a_seconds nv1f_deeds nv1a_kinds nv1a_firsts nv1a_seconds ns0f_facts ns0a_heard ns0a_huts ns0a_minutes ns1f_facts ns1a_heard ns1a_huts ns1a_minutes nc0f_voices nc0f_step nc0a_parts nc0a_heights nc1f_voices nc1f_step nc1a_parts nc1a_heights) : q_wtt_X9_copyFrom_47_0 a_tape f_length f_fault f_place a_counts l0f_huts l0f_singers l0f_villages l0f_dams l0f_echoes l0f_deep l0f_slide l0a_heights l0a_ladders l0a_minutes l0a_echoFrom l0a_echoTo l0a_homes l0a_talls l0a_known l1f_huts l1f_singers l1f_villages l1f_dams l1f_echoes l1f_deep l1f_slide l1a_heights l1a_ladders l1a_minutes l1a_echoFrom l1a_echoTo l1a_homes l1a_talls l1a_known v0f_deeds v0a_kinds v0a_firsts v0a_seconds v1f_deeds v1a_kinds v1a_firsts v1a_seconds s0f_facts s0a_heard s0a_huts s0a_minutes s1f_facts s1a_heard s1a_huts s1a_minutes c0f_voices c0f_step c0a_parts c0a_heights c1f_voices c1f_step c1a_parts c1a_heights oa_tape of_length of_fault of_place oa_counts ol0f_huts ol0f_singers ol0f_villages ol0f_dams ol0f_echoes ol0f_deep ol0f_slide ol0a_heights ol0a_ladders ol0a_minutes ol0a_echoFrom ol0a_echoTo ol0a_homes ol0a_talls ol0a_known ol1f_huts ol1f_singers ol1f_villages ol1f_dams ol1f_echoes ol1f_deep ol1f_slide ol1a_heights ol1a_ladders ol1a_minutes ol1a_echoFrom ol1a_echoTo ol1a_homes ol1a_talls ol1a_known ov0f_deeds ov0a_kinds ov0a_firsts ov0a_seconds ov1f_deeds ov1a_kinds ov1a_firsts ov1a_seconds os0f_facts os0a_heard os0a_huts os0a_minutes os1f_facts os1a_heard os1a_huts os1a_minutes oc0f_voices oc0f_step oc0a_parts oc0a_heights oc1f_voices oc1f_step oc1a_parts oc1a_heights post := by
  have h0 : ¬ of_length < 0 := iv_nn k_f_length (by decide)
  have h1 : Int32.toNatClampNeg (0 : Int32) + Int32.toNatClampNeg of_length ≤ 600 := by rw [c_0, Nat.zero_add]; exact cl_le k_f_length (by decide)
  refine ⟨h0, h1, h1, fun i _ => iv_fitB (k_a_tape _), fun tp et cn en => ?_⟩
  intro P hP
  apply hP
  refine ⟨fun h => absurd h (by decide), fun _ => ⟨vp_in_nI (n := 0) (by decide) (by decide), fun _ => ?_, fun h => absurd rfl h⟩⟩
  refine e_ll (fun nl0a_heights nl0a_ladders nl0a_minutes nl0a_echoFrom nl0a_echoTo nl0a_homes nl0a_talls nl0a_known ql0a_heights ql0a_ladders ql0a_minutes ql0a_echoFrom ql0a_echoTo ql0a_homes ql0a_talls ql0a_known => ?_)
  refine e_vv k_v0f_deeds (fun nv0a_kinds nv0a_firsts nv0a_seconds qv0a_kinds qv0a_firsts qv0a_seconds => ?_)
  refine e_ss k_s0f_facts (fun ns0a_heard ns0a_huts ns0a_minutes qs0a_heard qs0a_huts qs0a_minutes => ?_)
  refine e_cc k_c0f_voices (fun nc0a_parts nc0a_heights qc0a_parts qc0a_heights v0 ev0 => ?_)
  have ev : v0 = 1 := ev0.trans (by decide)
  subst ev
  apply hP
  refine ⟨fun h => absurd h (by decide), fun _ => ⟨vp_in_nI (n := 1) (by decide) (by decide), fun h => absurd h (by decide), fun _ => ?_⟩⟩
  refine e_ll (fun nl1a_heights nl1a_ladders nl1a_minutes nl1a_echoFrom nl1a_echoTo nl1a_homes nl1a_talls nl1a_known ql1a_heights ql1a_ladders ql1a_minutes ql1a_echoFrom ql1a_echoTo ql1a_homes ql1a_talls ql1a_known => ?_)
  refine e_vv k_v1f_deeds (fun nv1a_kinds nv1a_firsts nv1a_seconds qv1a_kinds qv1a_firsts qv1a_seconds => ?_)
  refine e_ss k_s1f_facts (fun ns1a_heard ns1a_huts ns1a_minutes qs1a_heard qs1a_huts qs1a_minutes => ?_)
  refine e_cc k_c1f_voices (fun nc1a_parts nc1a_heights qc1a_parts qc1a_heights v1 ev1 => ?_)
  have ev : v1 = 2 := ev1.trans (by decide)
  subst ev
  apply hP
  refine ⟨fun _ => hp tp of_length of_fault of_place cn ol0f_huts ol0f_singers ol0f_villages ol0f_dams ol0f_echoes ol0f_deep ol0f_slide nl0a_heights nl0a_ladders nl0a_minutes nl0a_echoFrom nl0a_echoTo nl0a_homes nl0a_talls nl0a_known ol1f_huts ol1f_singers ol1f_villages ol1f_dams ol1f_echoes ol1f_deep ol1f_slide nl1a_heights nl1a_ladders nl1a_minutes nl1a_echoFrom nl1a_echoTo nl1a_homes nl1a_talls nl1a_known ov0f_deeds nv0a_kinds nv0a_firsts nv0a_seconds ov1f_deeds nv1a_kinds nv1a_firsts nv1a_seconds os0f_facts ns0a_heard ns0a_huts ns0a_minutes os1f_facts ns1a_heard ns1a_huts ns1a_minutes oc0f_voices oc0f_step nc0a_parts nc0a_heights oc1f_voices oc1f_step nc1a_parts nc1a_heights ⟨fun i hi => ?_, cpy0 et rfl, cpy0 en rfl, fun o k td ho hk hSL => ?_⟩, fun h => absurd (by decide) h⟩
  · rcases cs_S0 hi with rfl | rfl | rfl | rfl | rfl | rfl | rfl | rfl | rfl | rfl | rfl | rfl | rfl | rfl | rfl | rfl | rfl | rfl | rfl | rfl | rfl | rfl | rfl | rfl | rfl <;> rfl
  · have hoc : o = 0 ∨ o = 1 ∨ o = 2 ∨ o = 3 := by omega
    have hkc : k = 0 ∨ k = 1 := by omega
    rcases hoc with rfl | rfl | rfl | rfl <;> rcases hkc with rfl | rfl
    · have hR : LDR ol0f_huts ol0f_singers ol0f_villages ol0f_dams ol0f_echoes ol0f_deep ol0f_slide ol0a_heights ol0a_ladders ol0a_minutes ol0a_echoFrom ol0a_echoTo ol0a_homes ol0a_talls ol0a_known td := hSL
      exact LDR_cp hR (by rw [← hR.1]; exact cl_le k_l0f_huts (by decide)) (by rw [← hR.2.1]; exact cl_le k_l0f_singers (by decide)) (by rw [← hR.2.2.2.2.1]; exact cl_le k_l0f_echoes (by decide)) ql0a_heights ql0a_ladders ql0a_minutes ql0a_echoFrom ql0a_echoTo ql0a_homes ql0a_talls ql0a_known
    · have hR : LDR ol1f_huts ol1f_singers ol1f_villages ol1f_dams ol1f_echoes ol1f_deep ol1f_slide ol1a_heights ol1a_ladders ol1a_minutes ol1a_echoFrom ol1a_echoTo ol1a_homes ol1a_talls ol1a_known td := hSL
      exact LDR_cp hR (by rw [← hR.1]; exact cl_le k_l1f_huts (by decide)) (by rw [← hR.2.1]; exact cl_le k_l1f_singers (by decide)) (by rw [← hR.2.2.2.2.1]; exact cl_le k_l1f_echoes (by decide)) ql1a_heights ql1a_ladders ql1a_minutes ql1a_echoFrom ql1a_echoTo ql1a_homes ql1a_talls ql1a_known
    · have hR : R3 ov0f_deeds ov0a_kinds ov0a_firsts ov0a_seconds td := hSL
      exact R3_cp hR qv0a_kinds qv0a_firsts qv0a_seconds
    · have hR : R3 ov1f_deeds ov1a_kinds ov1a_firsts ov1a_seconds td := hSL
      exact R3_cp hR qv1a_kinds qv1a_firsts qv1a_seconds
    · have hR : R3 os0f_facts os0a_heard os0a_huts os0a_minutes td := hSL
      exact R3_cp hR qs0a_heard qs0a_huts qs0a_minutes
    · have hR : R3 os1f_facts os1a_heard os1a_huts os1a_minutes td := hSL
      exact R3_cp hR qs1a_heard qs1a_huts qs1a_minutes
    · have hR : CDR oc0f_voices oc0f_step oc0a_parts oc0a_heights td := hSL
      exact CDR_cp hR qc0a_parts qc0a_heights
    · have hR : CDR oc1f_voices oc1f_step oc1a_parts oc1a_heights td := hSL
      exact CDR_cp hR qc1a_parts qc1a_heights
end
section
def tB (T : TT) : Prop := iv 0 600 (T.1 0) ∧ (∀ j, iv (-128) 127 (T.2 0 j)) ∧ (∀ j, iv 0 2 (T.2 1 j)) ∧ iv 0 9 (T.1 3) ∧ iv 0 6 (T.1 4) ∧ iv 0 4 (T.1 7) ∧ iv 0 40 (T.1 17) ∧ iv 0 10 (T.1 19) ∧ iv 0 9 (T.1 21) ∧ iv 0 9 (T.1 10) ∧ iv 0 6 (T.1 11) ∧ iv 0 4 (T.1 14) ∧ iv 0 40 (T.1 18) ∧ iv 0 10 (T.1 20) ∧ iv 0 9 (T.1 23)
theorem tB_of {T : TT} (hT : tJ T) : tB T := ⟨hT.1 0, hT.2 0, hT.2 1, hT.1 3, hT.1 4, hT.1 7, hT.1 17, hT.1 19, hT.1 21, hT.1 10, hT.1 11, hT.1 14, hT.1 18, hT.1 20, hT.1 23⟩
theorem LDR_ext {huts singers villages dams echoes deep slide : Int32} {heights ladders minutes echoFrom echoTo homes talls known td td' : Nat → Int32} (h : LDR huts singers villages dams echoes deep slide heights ladders minutes echoFrom echoTo homes talls known td) (b0 : huts.toNatClampNeg ≤ 9) (b1 : singers.toNatClampNeg ≤ 6) (b4 : echoes.toNatClampNeg ≤ 4) (e : ∀ j, j < 132 → td j = td' j) : LDR huts singers villages dams echoes deep slide heights ladders minutes echoFrom echoTo homes talls known td' := by
  obtain ⟨e0, e1, e2, e3, e4, e5, e6, f1, f2, f3, f4, f5, f6⟩ := h
  rw [e0] at b0
  rw [e1] at b1
  rw [e4] at b4
  refine ⟨e0.trans (e 0 (by omega)), e1.trans (e 1 (by omega)), e2.trans (e 2 (by omega)), e3.trans (e 3 (by omega)), e4.trans (e 4 (by omega)), e5.trans (e 5 (by omega)), e6.trans (e 6 (by omega)), fun j hj => ?_, fun j hj => ?_, fun j hj => ?_, fun j hj => ?_, fun j hj => ?_, fun j hj => ?_⟩
  · rw [← e 0 (by omega)] at hj
    exact (f1 j hj).trans (e _ (by omega))
  · exact (f2 j hj).trans (e _ (by omega))
  · exact (f3 j hj).trans (e _ (by omega))
  · rw [← e 4 (by omega)] at hj
    exact ⟨(f4 j hj).1.trans (e _ (by omega)), (f4 j hj).2.trans (e _ (by omega))⟩
  · rw [← e 1 (by omega)] at hj
    exact ⟨(f5 j hj).1.trans (e _ (by omega)), (f5 j hj).2.trans (e _ (by omega))⟩
  · exact (f6 j hj).trans (e _ (by omega))
theorem R3_ext {c : Int32} {a b d td td' : Nat → Int32} {m w : Nat} (h : R3 c a b d td) (hc : c.toNatClampNeg ≤ m) (hm : 3 * m < w) (e : ∀ j, j < w → td j = td' j) : R3 c a b d td' := by
  have hc2 := hc
  rw [h.1] at hc2
  refine ⟨h.1.trans (e 0 (by omega)), fun j hj => ?_⟩
  rw [← e 0 (by omega)] at hj
  exact ⟨(h.2 j hj).1.trans (e _ (by omega)), (h.2 j hj).2.1.trans (e _ (by omega)), (h.2 j hj).2.2.trans (e _ (by omega))⟩
theorem CDR_ext {c st : Int32} {a b td td' : Nat → Int32} (h : CDR c st a b td) (hc : c.toNatClampNeg ≤ 9) (e : ∀ j, j < 20 → td j = td' j) : CDR c st a b td' := by
  have hc2 := hc
  rw [h.1] at hc2
  refine ⟨h.1.trans (e 0 (by omega)), h.2.1.trans (e 19 (by omega)), fun j hj => ?_⟩
  rw [← e 0 (by omega)] at hj
  exact ⟨(h.2.2 j hj).1.trans (e _ (by omega)), (h.2.2 j hj).2.trans (e _ (by omega))⟩
theorem SL_ext {o k : Nat} {T : TT} {td td' : Nat → Int32} (ho : o < 4) (hk : k < 2) (hB : tB T) (e : ∀ j, j < wD o → td j = td' j) (h : SL o k T td) : SL o k T td' := by
  have hoc : o = 0 ∨ o = 1 ∨ o = 2 ∨ o = 3 := by omega
  have hkc : k = 0 ∨ k = 1 := by omega
  rcases hoc with rfl | rfl | rfl | rfl <;> rcases hkc with rfl | rfl
  · exact LDR_ext h (cl_le (hB.2.2.2.1) (by decide)) (cl_le (hB.2.2.2.2.1) (by decide)) (cl_le (hB.2.2.2.2.2.1) (by decide)) e
  · exact LDR_ext h (cl_le (hB.2.2.2.2.2.2.2.2.2.1) (by decide)) (cl_le (hB.2.2.2.2.2.2.2.2.2.2.1) (by decide)) (cl_le (hB.2.2.2.2.2.2.2.2.2.2.2.1) (by decide)) e
  · exact R3_ext (m := 40) (w := 121) h (cl_le (hB.2.2.2.2.2.2.1) (by decide)) (by decide) e
  · exact R3_ext (m := 40) (w := 121) h (cl_le (hB.2.2.2.2.2.2.2.2.2.2.2.2.1) (by decide)) (by decide) e
  · exact R3_ext (m := 10) (w := 31) h (cl_le (hB.2.2.2.2.2.2.2.1) (by decide)) (by decide) e
  · exact R3_ext (m := 10) (w := 31) h (cl_le (hB.2.2.2.2.2.2.2.2.2.2.2.2.2.1) (by decide)) (by decide) e
  · exact CDR_ext h (cl_le (hB.2.2.2.2.2.2.2.2.1) (by decide)) e
  · exact CDR_ext h (cl_le (hB.2.2.2.2.2.2.2.2.2.2.2.2.2.2) (by decide)) e
/-- slot s of the reference's rows is as a told state of the class -/
def TM (T : TT) (M : Nat → Nat → Int32) (s : Nat) : Prop := M 1 s = T.1 0 ∧ (∀ j, j < (T.1 0).toNatClampNeg → M 0 (600 * s + j) = T.2 0 j) ∧ M 2 s = T.1 1 ∧ M 3 s = T.1 2 ∧ (∀ o, o < 4 → M 4 (4 * s + o) = T.2 1 o) ∧ (∀ o k, o < 4 → k < 2 → nI k < T.2 1 o → SL o k T (fun j => M (5 + o) (2 * wD o * s + wD o * k + j)))
theorem wD_R : ∀ o, o < 4 → wR (5 + o) = 2 * wD o := by decide
theorem TM_mv {T : TT} {M M' : Nat → Nat → Int32} {s s' : Nat} (hB : tB T) (h : ∀ c, c < 9 → ∀ i, i < wR c → M' c (wR c * s' + i) = M c (wR c * s + i)) (hT : TM T M s) : TM T M' s' := by
  obtain ⟨h1, h2, h3, h4, h5, h6⟩ := hT
  have one : ∀ c, (c = 1 ∨ c = 2 ∨ c = 3) → M' c s' = M c s := by
    intro c hc
    have hw : wR c = 1 := by rcases hc with rfl | rfl | rfl <;> rfl
    have g := h c (by omega) 0 (by omega)
    rw [hw, Nat.one_mul, Nat.one_mul, Nat.add_zero, Nat.add_zero] at g
    exact g
  refine ⟨(one 1 (by omega)).trans h1, fun j hj => ?_, (one 2 (by omega)).trans h3, (one 3 (by omega)).trans h4, fun o ho => (h 4 (by omega) o ho).trans (h5 o ho), fun o k ho hk hl => ?_⟩
  · have hle : (T.1 0).toNatClampNeg ≤ 600 := cl_le hB.1 (by decide)
    exact (h 0 (by omega) j (by have : wR 0 = 600 := rfl; omega)).trans (h2 j hj)
  · refine SL_ext ho hk hB (fun j hj => ?_) (h6 o k ho hk hl)
    have hw := wD_R o ho
    have hkw : wD o * k + j < 2 * wD o := by
      have hkc : k = 0 ∨ k = 1 := by omega
      rcases hkc with rfl | rfl
      · rw [Nat.mul_zero]; omega
      · rw [Nat.mul_one]; omega
    have g := h (5 + o) (by omega) (wD o * k + j) (by rw [hw]; exact hkw)
    rw [hw] at g
    show M (5 + o) (2 * wD o * s + wD o * k + j) = M' (5 + o) (2 * wD o * s' + wD o * k + j)
    rw [Nat.add_assoc, Nat.add_assoc]
    exact g.symm
theorem TM_cp {T T' : TT} {M : Nat → Nat → Int32} {s : Nat} (hc : tCP T' T) (hT : TM T M s) : TM T' M s := by
  obtain ⟨h1, h2, h3, h4, h5, h6⟩ := hT
  obtain ⟨c1, c2, c3, c4⟩ := hc
  refine ⟨h1.trans (c1 0 (by omega)).symm, fun j hj => ?_, h3.trans (c1 1 (by omega)).symm, h4.trans (c1 2 (by omega)).symm, fun o ho => (h5 o ho).trans (c3 o ho).symm, fun o k ho hk hl => c4 o k _ ho hk (h6 o k ho hk (by rw [← c3 o ho]; exact hl))⟩
  rw [c1 0 (by omega)] at hj
  exact (h2 j hj).trans (c2 j hj).symm
/-- the relation that all calls keep -/
def RF (T : TT) (M : Nat → Nat → Int32) (I : Nat → TT) (mi : Nat → Option Nat) : Prop := TM T M 0 ∧ ∀ j, j < 3 → (mi j = none ↔ M 9 j = 0) ∧ (¬ mi j = none → TM (I j) M (j + 1))
theorem mCP_out {M M' : Nat → Nat → Int32} {f g s : Nat} (h : mCP M M' f g) (hs : ¬ s = g) : ∀ c, c < 9 → ∀ i, i < wR c → M' c (wR c * s + i) = M c (wR c * s + i) := by
  intro c hc i hi
  refine (h c hc).2 _ ?_
  rcases Nat.lt_or_ge s g with hl | hl
  · left
    have : wR c * (s + 1) ≤ wR c * g := Nat.mul_le_mul_left _ hl
    rw [Nat.mul_succ] at this
    omega
  · right
    have hl2 : g + 1 ≤ s := by omega
    have : wR c * (g + 1) ≤ wR c * s := Nat.mul_le_mul_left _ hl2
    rw [Nat.mul_succ] at this
    omega
end
section
def tBI (I : Nat → TT) (mi : Nat → Option Nat) : Prop := ∀ j, j < 3 → ¬ mi j = none → tB (I j)
/-- what feed and end do -/
def xSA (T T' : TT) : Prop := (∀ i, 1 ≤ i → i < 25 → T'.1 i = T.1 i) ∧ (∀ i, 1 ≤ i → i < 34 → T'.2 i = T.2 i)
def xFD (T T' : TT) (a b c d e r : Int32) : Prop := xSA T T' ∧ (¬ T.1 0 + 20 ≤ 600 → r = -1 ∧ T'.1 0 = T.1 0 ∧ T'.2 0 = T.2 0) ∧ (∀ n, T.1 0 = nI n → n + 20 ≤ 600 → r = nI (n + 20) ∧ T'.1 0 = nI (n + 20) ∧ B20 (T.2 0) (T'.2 0) n a b c d e)
def mSA (M M' : Nat → Nat → Int32) : Prop := (∀ i, 2 ≤ i → i < 10 → M' i = M i) ∧ (∀ j, ¬ j = 0 → M' 1 j = M 1 j)
def mFD (M M' : Nat → Nat → Int32) (a b c d e r : Int32) : Prop := mSA M M' ∧ (¬ M 1 0 + 20 ≤ 600 → r = -1 ∧ M' 1 0 = M 1 0 ∧ M' 0 = M 0) ∧ (∀ n, M 1 0 = nI n → n + 20 ≤ 600 → r = nI (n + 20) ∧ M' 1 0 = nI (n + 20) ∧ B20 (M 0) (M' 0) n a b c d e)
def xEN (T T' : TT) (a r : Int32) : Prop := xSA T T' ∧ T'.2 0 = T.2 0 ∧ r = enR (T.1 0) a ∧ T'.1 0 = enL (T.1 0) a
def mEN (M M' : Nat → Nat → Int32) (a r : Int32) : Prop := mSA M M' ∧ M' 0 = M 0 ∧ r = enR (M 1 0) a ∧ M' 1 0 = enL (M 1 0) a
theorem TM_sa {T T' : TT} {M M' : Nat → Nat → Int32} (h : TM T M 0) (hx : xSA T T') (hm : mSA M M') (hl : M' 1 0 = T'.1 0) (ht : ∀ j, j < (T'.1 0).toNatClampNeg → M' 0 j = T'.2 0 j) : TM T' M' 0 := by
  obtain ⟨h1, h2, h3, h4, h5, h6⟩ := h
  refine ⟨hl, fun j hj => ?_, ?_, ?_, fun o ho => ?_, fun o k ho hk hlt => ?_⟩
  · rw [Nat.mul_zero, Nat.zero_add]; exact ht j hj
  · rw [hm.1 2 (by omega) (by omega), hx.1 1 (by omega) (by omega)]; exact h3
  · rw [hm.1 3 (by omega) (by omega), hx.1 2 (by omega) (by omega)]; exact h4
  · rw [hm.1 4 (by omega) (by omega), hx.2 1 (by omega) (by omega)]; exact h5 o ho
  · rw [hx.2 1 (by omega) (by omega)] at hlt
    rw [hm.1 (5 + o) (by omega) (by omega)]
    have hz : ∀ o, o < 4 → ∀ k, k < 2 → ∀ i, i < 25 → slS o k i = true → 1 ≤ i := by decide
    have hz2 : ∀ o, o < 4 → ∀ k, k < 2 → ∀ i, i < 34 → slA o k i = true → 1 ≤ i := by decide
    exact SL_same ho hk (fun i hi hs => hx.1 i (hz o ho k hk i hi hs) hi) (fun i hi hs => hx.2 i (hz2 o ho k hk i hi hs) hi) (h6 o k ho hk hlt)
theorem TM_im {T : TT} {M M' : Nat → Nat → Int32} {s : Nat} (hB : tB T) (hs : 1 ≤ s) (hm : mSA M M') (ht : ∀ j, 600 ≤ j → M' 0 j = M 0 j) (h : TM T M s) : TM T M' s := by
  refine TM_mv hB (fun c hc i hi => ?_) h
  have hcc : c = 0 ∨ c = 1 ∨ 2 ≤ c := by omega
  rcases hcc with rfl | rfl | hc2
  · exact ht _ (by have : wR 0 = 600 := rfl; rw [this]; omega)
  · exact hm.2 _ (by have : wR 1 = 1 := rfl; rw [this]; omega)
  · rw [hm.1 c hc2 (by omega)]
theorem RF_sa {T T' : TT} {M M' : Nat → Nat → Int32} {I : Nat → TT} {mi : Nat → Option Nat} (h : RF T M I mi) (hI : tBI I mi) (hm : mSA M M') (ht : ∀ j, 600 ≤ j → M' 0 j = M 0 j) (h0 : TM T' M' 0) : RF T' M' I mi := by
  refine ⟨h0, fun j hj => ⟨?_, fun hn => ?_⟩⟩
  · rw [hm.1 9 (by omega) (by omega)]; exact (h.2 j hj).1
  · exact TM_im (hI j hj hn) (by omega) hm ht ((h.2 j hj).2 hn)
theorem RF_fd {T T' : TT} {M M' : Nat → Nat → Int32} {I : Nat → TT} {mi : Nat → Option Nat} {a b c d e r1 r2 : Int32} (h : RF T M I mi) (hB : tB T) (hI : tBI I mi) (h1 : xFD T T' a b c d e r1) (h2 : mFD M M' a b c d e r2) : r1 = r2 ∧ RF T' M' I mi := by
  obtain ⟨hx, x0, x1⟩ := h1
  obtain ⟨hm, m0, m1⟩ := h2
  have hl := h.1.1
  obtain ⟨n, hn, -, hn6, -⟩ := iv_nI hB.1 (by decide)
  have hcl : (T.1 0).toNatClampNeg = n := by rw [hn]; exact nI_clamp (by omega)
  have ht0 : ∀ j, j < n → M 0 j = T.2 0 j := fun j hj => by
    have g := h.1.2.1 j (by rw [hcl]; exact hj)
    rw [Nat.mul_zero, Nat.zero_add] at g
    exact g
  by_cases hc : T.1 0 + 20 ≤ 600
  · have hle : n + 20 ≤ 600 := by rw [hn] at hc; exact (e_len (by omega)).mp hc
    obtain ⟨a1, a2, a3⟩ := x1 n hn hle
    obtain ⟨b1, b2, b3⟩ := m1 n (hl.trans hn) hle
    refine ⟨a1.trans b1.symm, RF_sa h hI hm (fun j hj => B20_out b3 j (by omega)) (TM_sa h.1 hx hm (b2.trans a2.symm) (fun j hj => ?_))⟩
    rw [a2, nI_clamp (by omega)] at hj
    exact B20_un b3 a3 ht0 j hj
  · obtain ⟨a1, a2, a3⟩ := x0 hc
    obtain ⟨b1, b2, b3⟩ := m0 (by rw [hl]; exact hc)
    refine ⟨a1.trans b1.symm, RF_sa h hI hm (fun j hj => by rw [b3]) (TM_sa h.1 hx hm (b2.trans (hl.trans a2.symm)) (fun j hj => ?_))⟩
    rw [a2, hcl] at hj
    rw [b3, a3]
    exact ht0 j hj
theorem RF_en {T T' : TT} {M M' : Nat → Nat → Int32} {I : Nat → TT} {mi : Nat → Option Nat} {a r1 r2 : Int32} (h : RF T M I mi) (hB : tB T) (hI : tBI I mi) (h1 : xEN T T' a r1) (h2 : mEN M M' a r2) : r1 = r2 ∧ RF T' M' I mi := by
  obtain ⟨hx, x1, x2, x3⟩ := h1
  obtain ⟨hm, m1, m2, m3⟩ := h2
  have hl := h.1.1
  refine ⟨by rw [x2, m2, hl], RF_sa h hI hm (fun j hj => by rw [m1]) (TM_sa h.1 hx hm (by rw [x3, m3, hl]) (fun j hj => ?_))⟩
  have hle : (T'.1 0).toNatClampNeg ≤ (T.1 0).toNatClampNeg := by
    rw [x3]
    unfold enL
    by_cases hc : 0 ≤ a ∧ a ≤ T.1 0
    · rw [if_pos hc]
      have := r_le hc.2
      have e1 : a.toNatClampNeg = a.toInt.toNat := rfl
      have e2 : (T.1 0).toNatClampNeg = (T.1 0).toInt.toNat := rfl
      omega
    · rw [if_neg hc]; exact Nat.le_refl _
  have g := h.1.2.1 j (by omega)
  rw [Nat.mul_zero, Nat.zero_add] at g
  rw [m1, x1]
  exact g
/-- images -/
def xIM (mi mi' : Nat → Option Nat) (I I' : Nat → TT) (T : TT) (a r : Int32) : Prop := (¬ imJ a → r = 0 ∧ mi' = mi ∧ I' = I) ∧ (∀ k, k < 3 → a = nI k → r = 1 ∧ ¬ mi' k = none ∧ (∀ j, ¬ j = k → mi' j = mi j ∧ I' j = I j) ∧ tCP (I' k) T)
def xAG (mi : Nat → Option Nat) (I : Nat → TT) (T T' : TT) (a r : Int32) : Prop := (¬ (∃ k, k < 3 ∧ a = nI k ∧ ¬ mi k = none) → r = 0 ∧ T' = T) ∧ (∀ k, k < 3 → a = nI k → ¬ mi k = none → r = 1 ∧ tCP T' (I k))
def mIM (M M' : Nat → Nat → Int32) (a r : Int32) : Prop := (¬ imJ a → r = 0 ∧ ∀ i, i < 10 → M' i = M i) ∧ (∀ k, k < 3 → a = nI k → r = 1 ∧ mCP M M' 0 (k + 1) ∧ M' 9 k = 1 ∧ ∀ j, ¬ j = k → M' 9 j = M 9 j)
def mAG (M M' : Nat → Nat → Int32) (a r : Int32) : Prop := (¬ (∃ k, k < 3 ∧ a = nI k ∧ ¬ M 9 k = 0) → r = 0 ∧ ∀ i, i < 10 → M' i = M i) ∧ (∀ k, k < 3 → a = nI k → ¬ M 9 k = 0 → r = 1 ∧ mCP M M' (k + 1) 0 ∧ M' 9 = M 9)
theorem TM_eq {T : TT} {M M' : Nat → Nat → Int32} {s : Nat} (hB : tB T) (h : ∀ i, i < 10 → M' i = M i) (hT : TM T M s) : TM T M' s := TM_mv hB (fun c hc i _ => by rw [h c (by omega)]) hT
theorem RF_im {T : TT} {M M' : Nat → Nat → Int32} {I I' : Nat → TT} {mi mi' : Nat → Option Nat} {a r1 r2 : Int32} (h : RF T M I mi) (hB : tB T) (hI : tBI I mi) (h1 : xIM mi mi' I I' T a r1) (h2 : mIM M M' a r2) : r1 = r2 ∧ RF T M' I' mi' := by
  by_cases hj : imJ a
  rotate_left
  · obtain ⟨e1, rfl, rfl⟩ := h1.1 hj
    obtain ⟨e2, m1⟩ := h2.1 hj
    refine ⟨by rw [e1, e2], TM_eq hB m1 h.1, fun j hj => ⟨?_, fun hn => TM_eq (hI j hj hn) m1 ((h.2 j hj).2 hn)⟩⟩
    rw [m1 9 (by omega)]; exact (h.2 j hj).1
  · obtain ⟨k, hk, rfl⟩ := imJ_nI.mp hj
    obtain ⟨e1, a2, a3, a4⟩ := h1.2 k hk rfl
    obtain ⟨e2, b1, b3, b4⟩ := h2.2 k hk rfl
    refine ⟨by rw [e1, e2], TM_mv hB (mCP_out b1 (by omega)) h.1, fun j hj => ?_⟩
    by_cases hjk : j = k
    · subst hjk
      refine ⟨⟨fun h9 => absurd h9 a2, fun h9 => absurd (b3.symm.trans h9) (by decide)⟩, fun _ => TM_cp a4 (TM_mv hB (fun c hc i hi => (b1 c hc).1 i hi) h.1)⟩
    · rw [(a3 j hjk).1, (a3 j hjk).2, b4 j hjk]
      exact ⟨(h.2 j hj).1, fun hn => TM_mv (hI j hj hn) (mCP_out b1 (by omega)) ((h.2 j hj).2 hn)⟩
theorem RF_ag {T T' : TT} {M M' : Nat → Nat → Int32} {I : Nat → TT} {mi : Nat → Option Nat} {a r1 r2 : Int32} (h : RF T M I mi) (hB : tB T) (hI : tBI I mi) (h1 : xAG mi I T T' a r1) (h2 : mAG M M' a r2) : r1 = r2 ∧ RF T' M' I mi := by
  by_cases hj : ∃ k, k < 3 ∧ a = nI k ∧ ¬ mi k = none
  · obtain ⟨k, hk, e, hm⟩ := hj
    obtain ⟨e1, a1⟩ := h1.2 k hk e hm
    obtain ⟨e2, b1, b2⟩ := h2.2 k hk e (fun h9 => hm ((h.2 k hk).1.mpr h9))
    refine ⟨by rw [e1, e2], TM_cp a1 (TM_mv (hI k hk hm) (fun c hc i hi => (b1 c hc).1 i hi) ((h.2 k hk).2 hm)), fun j hj => ?_⟩
    rw [b2]
    exact ⟨(h.2 j hj).1, fun hn => TM_mv (hI j hj hn) (mCP_out b1 (by omega)) ((h.2 j hj).2 hn)⟩
  · obtain ⟨e1, rfl⟩ := h1.1 hj
    obtain ⟨e2, m1⟩ := h2.1 (fun ⟨k, hk, e, h9⟩ => hj ⟨k, hk, e, fun h8 => h9 ((h.2 k hk).1.mp h8)⟩)
    refine ⟨by rw [e1, e2], TM_eq hB m1 h.1, fun j hj => ⟨?_, fun hn => TM_eq (hI j hj hn) m1 ((h.2 j hj).2 hn)⟩⟩
    rw [m1 9 (by omega)]; exact (h.2 j hj).1
/-- texts -/
theorem TX_eq {T : TT} {M : Nat → Nat → Int32} (h : TM T M 0) (o : Nat) : MXr M o = TXr T o := by
  unfold MXr TXr
  rw [h.1]
  have e : nB (M 0) (T.1 0).toNatClampNeg = nB (T.2 0) (T.1 0).toNatClampNeg := by
    funext j
    unfold nB
    by_cases hj : j < (T.1 0).toNatClampNeg
    · rw [if_pos hj, if_pos hj]
      have g := h.2.1 j hj
      rw [Nat.mul_zero, Nat.zero_add] at g
      exact g
    · rw [if_neg hj, if_neg hj]
  rw [e]
theorem sl_neS : ((List.range 4).all fun o => (List.range 2).all fun k => (List.range 4).all fun o' => (List.range 2).all fun k' => (List.range 25).all fun i => (o == o' && k == k') || !slS o' k' i || (decide (3 ≤ i) && !slS o k i)) = true := by decide +kernel
theorem sl_neA : ((List.range 4).all fun o => (List.range 2).all fun k => (List.range 4).all fun o' => (List.range 2).all fun k' => (List.range 34).all fun i => (o == o' && k == k') || !slA o' k' i || (decide (2 ≤ i) && !slA o k i)) = true := by decide +kernel
theorem sl_ne (o : Nat) (ho : o < 4) (k : Nat) (hk : k < 2) (o' : Nat) (ho' : o' < 4) (k' : Nat) (hk' : k' < 2) (hn : ¬ (o = o' ∧ k = k')) : (∀ i, i < 25 → slS o' k' i = true → 3 ≤ i ∧ ¬ slS o k i = true) ∧ (∀ i, i < 34 → slA o' k' i = true → 2 ≤ i ∧ ¬ slA o k i = true) := by
  have rg : ∀ {n : Nat} {p : Nat → Bool}, (List.range n).all p = true → ∀ x, x < n → p x = true := fun h x hx => List.all_eq_true.mp h x (List.mem_range.mpr hx)
  refine ⟨fun i hi hs => ?_, fun i hi hs => ?_⟩
  · have h := rg (rg (rg (rg (rg sl_neS o ho) k hk) o' ho') k' hk') i hi
    simp only [hs, Bool.not_true, Bool.or_false, Bool.or_eq_true, Bool.and_eq_true, beq_iff_eq, decide_eq_true_eq, Bool.not_eq_true'] at h
    rcases h with h | h
    · exact absurd h hn
    · exact ⟨h.1, by rw [h.2]; decide⟩
  · have h := rg (rg (rg (rg (rg sl_neA o ho) k hk) o' ho') k' hk') i hi
    simp only [hs, Bool.not_true, Bool.or_false, Bool.or_eq_true, Bool.and_eq_true, beq_iff_eq, decide_eq_true_eq, Bool.not_eq_true'] at h
    rcases h with h | h
    · exact absurd h hn
    · exact ⟨h.1, by rw [h.2]; decide⟩
theorem sl_lo : ∀ o, o < 4 → ∀ k, k < 2 → (∀ i, i < 25 → slS o k i = true → 3 ≤ i) ∧ (∀ i, i < 34 → slA o k i = true → 2 ≤ i) := by decide +kernel
theorem wD_le : ∀ o, o < 4 → 20 ≤ wD o ∧ wD o ≤ 132 := by decide
/-- the other slots behind a text -/
theorem RF_tx {T T' : TT} {M M' : Nat → Nat → Int32} {I : Nat → TT} {mi : Nat → Option Nat} {a1 a2 r1 r2 : Int32} (h : RF T M I mi) (hB : tB T) (hB' : tB T') (hI : tBI I mi) (h1 : xTX T T' a1 a2 r1) (h2 : mTX M M' a1 a2 r2) : r1 = r2 ∧ RF T' M' I mi := by
  obtain ⟨x0, xt, xn, xy⟩ := h1
  obtain ⟨m0, m9, ml, ms, mn, my⟩ := h2
  have hT := h.1
  have hcnt : ∀ o, o < 4 → M 4 o = T.2 1 o := fun o ho => by
    have g := hT.2.2.2.2.1 o ho
    rw [Nat.mul_zero, Nat.zero_add] at g
    exact g
  have emp : ∀ j, j < (T'.1 0).toNatClampNeg → M' 0 (600 * 0 + j) = T'.2 0 j := fun j hj => by
    rw [x0] at hj
    exact absurd hj (by have : Int32.toNatClampNeg 0 = 0 := rfl; omega)
  -- nothing of the rows changes
  have stay : (∀ i, 4 ≤ i → i < 9 → M' i = M i) → T'.2 1 = T.2 1 → sameT T T' → M' 2 0 = T'.1 1 → M' 3 0 = T'.1 2 → RF T' M' I mi := by
    intro q1 q2 q3 q4 q5
    refine ⟨⟨ml.trans x0.symm, emp, q4, q5, fun o ho => ?_, fun o k ho hk hlt => ?_⟩, fun j hj => ⟨by rw [m9]; exact (h.2 j hj).1, fun hn => TM_mv (hI j hj hn) (fun c hc i hi => ?_) ((h.2 j hj).2 hn)⟩⟩
    · rw [q1 4 (by omega) (by omega), q2]; exact hT.2.2.2.2.1 o ho
    · rw [q2] at hlt
      rw [q1 (5 + o) (by omega) (by omega)]
      exact SL_same ho hk (fun i hi hs => q3.1 i ((sl_lo o ho k hk).1 i hi hs) hi) (fun i hi hs => q3.2 i ((sl_lo o ho k hk).2 i hi hs) hi) (hT.2.2.2.2.2 o k ho hk hlt)
    · have hcc : c = 0 ∨ c = 1 ∨ c = 2 ∨ c = 3 ∨ 4 ≤ c := by omega
      have hpos : ∀ c, (c = 1 ∨ c = 2 ∨ c = 3) → ¬ wR c * (j + 1) + i = 0 := by
        intro c hc9
        have : wR c = 1 := by rcases hc9 with rfl | rfl | rfl <;> rfl
        rw [this]; omega
      rcases hcc with rfl | rfl | rfl | rfl | hc4
      · rw [m0]
      · exact (ms _ (hpos 1 (by omega))).1
      · exact (ms _ (hpos 2 (by omega))).2.1
      · exact (ms _ (hpos 3 (by omega))).2.2
      · rw [q1 c hc4 (by omega)]
  by_cases hex : ∃ o k, o < 4 ∧ k < 2 ∧ a1 = nI o ∧ NUM (T.2 1 o) a2 k
  rotate_left
  · obtain ⟨u1, u2, u3, u4, u5⟩ := xn hex
    obtain ⟨w1, w2, w3, w4⟩ := mn (fun ⟨o, k, ho, hk, e, hN⟩ => hex ⟨o, k, ho, hk, e, by rw [← hcnt o ho]; exact hN⟩)
    exact ⟨u1.trans w1.symm, stay w4 u4 u5 (w2.trans u2.symm) (w3.trans u3.symm)⟩
  · obtain ⟨o, k, ho, hk, e, hN⟩ := hex
    obtain ⟨u1, u2, u3, u4⟩ := xy o k ho hk e hN
    obtain ⟨w1, w2, w3, w4⟩ := my o k ho hk e (by rw [hcnt o ho]; exact hN)
    rw [TX_eq hT o] at w1 w2 w3 w4
    by_cases hz : (TXr T o).1 = 0
    rotate_left
    · obtain ⟨p1, p2, p3⟩ := u3 hz
      obtain ⟨s1, s2⟩ := w3 hz
      exact ⟨p1.trans s1.symm, stay s2 p2 p3 (w1.trans u1.symm) (w2.trans u2.symm)⟩
    · obtain ⟨p1, p2, p3, p4⟩ := u4 hz
      obtain ⟨s1, s2, s3, s4, s5⟩ := w4 hz
      refine ⟨p1.trans s1.symm, ⟨ml.trans x0.symm, emp, w1.trans u1.symm, w2.trans u2.symm, fun o' ho' => ?_, fun o' k' ho' hk' hlt => ?_⟩, fun j hj => ⟨by rw [m9]; exact (h.2 j hj).1, fun hn => TM_mv (hI j hj hn) (fun c hc i hi => ?_) ((h.2 j hj).2 hn)⟩⟩
      · rw [Nat.mul_zero, Nat.zero_add, s2, p2, hcnt o ho]
        by_cases hoo : o' = o
        · subst hoo; rw [up_s, up_s]
        · rw [up_n hoo, up_n hoo]; exact hcnt o' ho'
      · have hw := wD_le o ho
        have hw' := wD_le o' ho'
        by_cases hsame : o = o' ∧ k = k'
        · obtain ⟨rfl, rfl⟩ := hsame
          refine SL_ext ho hk hB' (fun j hj => ?_) p3
          show (TXr T o).2.2 j = M' (5 + o) (2 * wD o * 0 + wD o * k + j)
          rw [Nat.mul_zero, Nat.zero_add]
          exact (s3 j hj).symm
        · have hsl := sl_ne o ho k hk o' ho' k' hk' hsame
          rw [p2] at hlt
          by_cases hoo : o' = o
          · subst hoo
            rw [up_s] at hlt
            have hkk : ¬ k' = k := fun h9 => hsame ⟨rfl, h9.symm⟩
            have hlt2 : nI k' < T.2 1 o' := by
              obtain ⟨c, hc, -, hc2, -⟩ := iv_nI (hB.2.2.1 o') (by decide)
              rw [hc] at hlt ⊢
              unfold cmx at hlt
              rw [nI_1] at hlt
              by_cases hcl : nI c < nI (k + 1)
              · rw [if_pos hcl] at hlt
                have q1 := (nI_ltI (by omega) (by omega)).mp hlt
                rcases hN with ⟨_, q2⟩ | ⟨_, _, q3⟩
                · rw [hc] at q2
                  have := (nI_eq (by omega) (by omega)).mp q2
                  exact nI_lt (by omega) (by omega)
                · rw [hc] at q3
                  have q4 := (nI_ltI (by omega) (by omega)).mp q3
                  have q5 := (nI_ltI (by omega) (by omega)).mp hcl
                  omega
              · rw [if_neg hcl] at hlt; exact hlt
            have hq := SL_same (T' := T') ho' hk' (fun i hi hs => p4.1 i (hsl.1 i hi hs).1 hi (hsl.1 i hi hs).2) (fun i hi hs => p4.2 i (hsl.2 i hi hs).1 hi (hsl.2 i hi hs).2) (hT.2.2.2.2.2 o' k' ho' hk' hlt2)
            refine SL_ext ho' hk' hB' (fun j hj => ?_) hq
            show M (5 + o') (2 * wD o' * 0 + wD o' * k' + j) = M' (5 + o') (2 * wD o' * 0 + wD o' * k' + j)
            rw [Nat.mul_zero, Nat.zero_add]
            refine (s4 _ ?_).symm
            have hkc : (k = 0 ∧ k' = 1) ∨ (k = 1 ∧ k' = 0) := by omega
            rcases hkc with ⟨rfl, rfl⟩ | ⟨rfl, rfl⟩
            · rw [Nat.mul_zero, Nat.mul_one]; omega
            · rw [Nat.mul_zero, Nat.mul_one]; omega
          · rw [up_n hoo] at hlt
            rw [s5 (5 + o') (by omega) (by omega) (by omega)]
            exact SL_same ho' hk' (fun i hi hs => p4.1 i (hsl.1 i hi hs).1 hi (hsl.1 i hi hs).2) (fun i hi hs => p4.2 i (hsl.2 i hi hs).1 hi (hsl.2 i hi hs).2) (hT.2.2.2.2.2 o' k' ho' hk' hlt)
      · have hcc : c = 0 ∨ c = 1 ∨ c = 2 ∨ c = 3 ∨ c = 4 ∨ 5 ≤ c := by omega
        have hpos : ∀ c, (c = 1 ∨ c = 2 ∨ c = 3) → ¬ wR c * (j + 1) + i = 0 := by
          intro c hc9
          have : wR c = 1 := by rcases hc9 with rfl | rfl | rfl <;> rfl
          rw [this]; omega
        rcases hcc with rfl | rfl | rfl | rfl | rfl | hc5
        · rw [m0]
        · exact (ms _ (hpos 1 (by omega))).1
        · exact (ms _ (hpos 2 (by omega))).2.1
        · exact (ms _ (hpos 3 (by omega))).2.2
        · rw [s2, up_n (by have : wR 4 = 4 := rfl; rw [this]; omega)]
        · by_cases hco : c = 5 + o
          · subst hco
            refine s4 _ (Or.inr ?_)
            rw [wD_R o ho]
            have hkc : k = 0 ∨ k = 1 := by omega
            have hj1 : 2 * wD o * 1 ≤ 2 * wD o * (j + 1) := Nat.mul_le_mul_left _ (by omega)
            rcases hkc with rfl | rfl
            · rw [Nat.mul_zero]; omega
            · rw [Nat.mul_one]; omega
          · rw [s5 c hc5 hc hco]
end
section
theorem mCP_k {M : Nat → Nat → Int32} {t z fa fp mn l e s c kp kp' : Nat → Int32} {f g : Nat} (h : mCP M (mmk t z fa fp mn l e s c kp) f g) : mCP M (mmk t z fa fp mn l e s c kp') f g := by
  intro q hq
  have h1 := h q hq
  have : q = 0 ∨ q = 1 ∨ q = 2 ∨ q = 3 ∨ q = 4 ∨ q = 5 ∨ q = 6 ∨ q = 7 ∨ q = 8 := by omega
  rcases this with rfl | rfl | rfl | rfl | rfl | rfl | rfl | rfl | rfl <;> exact h1
theorem e_m_image2 {M : Nat → Nat → Int32} {f_code x1 : Int32} {post : Int32 → Int32 → (Nat → Int32) → (Nat → Int32) → (Nat → Int32) → (Nat → Int32) → (Nat → Int32) → (Nat → Int32) → (Nat → Int32) → (Nat → Int32) → (Nat → Int32) → (Nat → Int32) → Prop} (ht : ∀ j, iv (-128) 127 (M 0 j)) (hp : ∀ r t z fa fp mn l e s c kp, mIM M (mmk t z fa fp mn l e s c kp) x1 r → post r 0 t z fa fp mn l e s c kp) : q_m_image_0 f_code (M 0) (M 1) (M 2) (M 3) (M 4) (M 5) (M 6) (M 7) (M 8) (M 9) x1 post := by
  refine sp_in (fun h => zi (hp _ _ _ _ _ _ _ _ _ _ _ ⟨fun _ => ⟨rfl, fun i hi => ?_⟩, fun k hk e => absurd (imJ_nI.mpr ⟨k, hk, e⟩) h⟩)) (fun a1 a2 => io ?_)
  · have : i = 0 ∨ i = 1 ∨ i = 2 ∨ i = 3 ∨ i = 4 ∨ i = 5 ∨ i = 6 ∨ i = 7 ∨ i = 8 ∨ i = 9 := by omega
    rcases this with rfl | rfl | rfl | rfl | rfl | rfl | rfl | rfl | rfl | rfl <;> rfl
  · obtain ⟨j, rfl, -, hj, hj2⟩ := iv_nI (iv_of (l := 0) (h := 2) rfl rfl a1 a2) (by omega)
    rw [nI_1]
    refine e_copyAll2 (f := 0) (by omega) (by omega) (by omega) ht (fun t z fa fp mn l e s c kp hcp => ⟨vp_in_nI (by omega) (by omega), fun kp2 ek => ?_⟩)
    rw [nI_clamp (by omega)] at ek
    refine hp _ _ _ _ _ _ _ _ _ _ _ ⟨fun h => absurd (imJ_nI.mpr ⟨j, by omega, rfl⟩) h, fun k hk e => ?_⟩
    have hkj : k = j := (nI_eq (by omega) (by omega)).mp e.symm
    subst hkj
    exact ⟨rfl, mCP_k hcp, by show kp2 k = 1; rw [ek]; exact up_s, fun q hq => by show kp2 q = M 9 q; rw [ek]; exact up_n hq⟩
theorem e_m_again2 {M : Nat → Nat → Int32} {f_code x1 : Int32} {post : Int32 → Int32 → (Nat → Int32) → (Nat → Int32) → (Nat → Int32) → (Nat → Int32) → (Nat → Int32) → (Nat → Int32) → (Nat → Int32) → (Nat → Int32) → (Nat → Int32) → Prop} (hb : ∀ j, iv (-128) 127 (M 0 j)) (hp : ∀ r t z fa fp mn l e s c, mAG M (mmk t z fa fp mn l e s c (M 9)) x1 r → post r 0 t z fa fp mn l e s c) : q_m_again_0 f_code (M 0) (M 1) (M 2) (M 3) (M 4) (M 5) (M 6) (M 7) (M 8) (M 9) x1 post := by
  have no : ¬ (∃ k, k < 3 ∧ x1 = nI k ∧ ¬ M 9 k = 0) → post 0 0 (M 0) (M 1) (M 2) (M 3) (M 4) (M 5) (M 6) (M 7) (M 8) := by
    intro h
    refine hp _ _ _ _ _ _ _ _ _ _ ⟨fun _ => ⟨rfl, fun i hi => ?_⟩, fun k hk e h9 => absurd ⟨k, hk, e, h9⟩ h⟩
    have : i = 0 ∨ i = 1 ∨ i = 2 ∨ i = 3 ∨ i = 4 ∨ i = 5 ∨ i = 6 ∨ i = 7 ∨ i = 8 ∨ i = 9 := by omega
    rcases this with rfl | rfl | rfl | rfl | rfl | rfl | rfl | rfl | rfl | rfl <;> rfl
  refine sp_in (fun h => ⟨fun _ => no (fun ⟨k, hk, e, _⟩ => h (by rw [e]; exact ⟨nI_pos' (by omega), nI_le (b := 2) (by omega) (by omega)⟩)), fun h9 => absurd rfl h9⟩) (fun a1 a2 => ⟨fun h9 => absurd h9 (by decide), fun _ => ?_⟩)
  obtain ⟨j, rfl, -, hj, hj2⟩ := iv_nI (iv_of (l := 0) (h := 2) rfl rfl a1 a2) (by omega)
  refine ⟨vp_in_nI (by omega) (by omega), ?_⟩
  rw [nI_clamp (by omega)]
  refine ⟨fun hk => ?_, fun hk => no (fun ⟨k, hk3, e, h9⟩ => h9 (by rw [(nI_eq (by omega) (by omega)).mp e] at hk; exact hk))⟩
  rw [nI_1]
  refine e_copyAll2 (g := 0) (by omega) (by omega) (by omega) hb (fun t z fa fp mn l e s c kp hcp => ?_)
  refine hp _ _ _ _ _ _ _ _ _ _ ⟨fun h => absurd ⟨j, by omega, rfl, hk⟩ h, fun k hk3 e _ => ?_⟩
  have hkj : k = j := (nI_eq (by omega) (by omega)).mp e.symm
  subst hkj
  exact ⟨rfl, mCP_k hcp, rfl⟩
set_option maxRecDepth 40000 in
theorem xSA_mk {T : TT} {t : Nat → Int32} {l : Int32} : xSA T (tmk t l (T.1 1) (T.1 2) (T.2 1) (T.1 3) (T.1 4) (T.1 5) (T.1 6) (T.1 7) (T.1 8) (T.1 9) (T.2 2) (T.2 3) (T.2 4) (T.2 5) (T.2 6) (T.2 7) (T.2 8) (T.2 9) (T.1 10) (T.1 11) (T.1 12) (T.1 13) (T.1 14) (T.1 15) (T.1 16) (T.2 10) (T.2 11) (T.2 12) (T.2 13) (T.2 14) (T.2 15) (T.2 16) (T.2 17) (T.1 17) (T.2 18) (T.2 19) (T.2 20) (T.1 18) (T.2 21) (T.2 22) (T.2 23) (T.1 19) (T.2 24) (T.2 25) (T.2 26) (T.1 20) (T.2 27) (T.2 28) (T.2 29) (T.1 21) (T.1 22) (T.2 30) (T.2 31) (T.1 23) (T.1 24) (T.2 32) (T.2 33)) := by
  refine ⟨fun i h1 h2 => ?_, fun i h1 h2 => ?_⟩
  · have : i = 1 ∨ i = 2 ∨ i = 3 ∨ i = 4 ∨ i = 5 ∨ i = 6 ∨ i = 7 ∨ i = 8 ∨ i = 9 ∨ i = 10 ∨ i = 11 ∨ i = 12 ∨ i = 13 ∨ i = 14 ∨ i = 15 ∨ i = 16 ∨ i = 17 ∨ i = 18 ∨ i = 19 ∨ i = 20 ∨ i = 21 ∨ i = 22 ∨ i = 23 ∨ i = 24 := by omega
    rcases this with rfl | rfl | rfl | rfl | rfl | rfl | rfl | rfl | rfl | rfl | rfl | rfl | rfl | rfl | rfl | rfl | rfl | rfl | rfl | rfl | rfl | rfl | rfl | rfl <;> rfl
  · have : i = 1 ∨ i = 2 ∨ i = 3 ∨ i = 4 ∨ i = 5 ∨ i = 6 ∨ i = 7 ∨ i = 8 ∨ i = 9 ∨ i = 10 ∨ i = 11 ∨ i = 12 ∨ i = 13 ∨ i = 14 ∨ i = 15 ∨ i = 16 ∨ i = 17 ∨ i = 18 ∨ i = 19 ∨ i = 20 ∨ i = 21 ∨ i = 22 ∨ i = 23 ∨ i = 24 ∨ i = 25 ∨ i = 26 ∨ i = 27 ∨ i = 28 ∨ i = 29 ∨ i = 30 ∨ i = 31 ∨ i = 32 ∨ i = 33 := by omega
    rcases this with rfl | rfl | rfl | rfl | rfl | rfl | rfl | rfl | rfl | rfl | rfl | rfl | rfl | rfl | rfl | rfl | rfl | rfl | rfl | rfl | rfl | rfl | rfl | rfl | rfl | rfl | rfl | rfl | rfl | rfl | rfl | rfl | rfl <;> rfl
theorem xFD_no {T : TT} {a b c d e : Int32} (hlen : iv 0 600 (T.1 0)) (h : ¬ T.1 0 + 20 ≤ 600) : xFD T (tmk (T.2 0) (T.1 0) (T.1 1) (T.1 2) (T.2 1) (T.1 3) (T.1 4) (T.1 5) (T.1 6) (T.1 7) (T.1 8) (T.1 9) (T.2 2) (T.2 3) (T.2 4) (T.2 5) (T.2 6) (T.2 7) (T.2 8) (T.2 9) (T.1 10) (T.1 11) (T.1 12) (T.1 13) (T.1 14) (T.1 15) (T.1 16) (T.2 10) (T.2 11) (T.2 12) (T.2 13) (T.2 14) (T.2 15) (T.2 16) (T.2 17) (T.1 17) (T.2 18) (T.2 19) (T.2 20) (T.1 18) (T.2 21) (T.2 22) (T.2 23) (T.1 19) (T.2 24) (T.2 25) (T.2 26) (T.1 20) (T.2 27) (T.2 28) (T.2 29) (T.1 21) (T.1 22) (T.2 30) (T.2 31) (T.1 23) (T.1 24) (T.2 32) (T.2 33)) a b c d e (-1) := ⟨xSA_mk, fun _ => ⟨rfl, rfl, rfl⟩, fun n hn hle => absurd (by rw [hn]; exact (e_len (by omega)).mpr hle) h⟩
theorem xFD_yes {T : TT} {a b c d e : Int32} {n : Nat} {t : Nat → Int32} (hn : T.1 0 = nI n) (hle : n + 20 ≤ 600) (hb : B20 (T.2 0) t n a b c d e) : xFD T (tmk t (nI (n + 20)) (T.1 1) (T.1 2) (T.2 1) (T.1 3) (T.1 4) (T.1 5) (T.1 6) (T.1 7) (T.1 8) (T.1 9) (T.2 2) (T.2 3) (T.2 4) (T.2 5) (T.2 6) (T.2 7) (T.2 8) (T.2 9) (T.1 10) (T.1 11) (T.1 12) (T.1 13) (T.1 14) (T.1 15) (T.1 16) (T.2 10) (T.2 11) (T.2 12) (T.2 13) (T.2 14) (T.2 15) (T.2 16) (T.2 17) (T.1 17) (T.2 18) (T.2 19) (T.2 20) (T.1 18) (T.2 21) (T.2 22) (T.2 23) (T.1 19) (T.2 24) (T.2 25) (T.2 26) (T.1 20) (T.2 27) (T.2 28) (T.2 29) (T.1 21) (T.1 22) (T.2 30) (T.2 31) (T.1 23) (T.1 24) (T.2 32) (T.2 33)) a b c d e (nI (n + 20)) := by
  refine ⟨xSA_mk, fun h => absurd (by rw [hn]; exact (e_len (by omega)).mpr hle) h, fun m hm hle2 => ?_⟩
  have : m = n := (nI_eq (by omega) (by omega)).mp (hm.symm.trans hn)
  subst this
  exact ⟨rfl, rfl, hb⟩
theorem mSA_mk {M : Nat → Nat → Int32} {t z : Nat → Int32} (hz : ∀ j, ¬ j = 0 → z j = M 1 j) : mSA M (mmk t z (M 2) (M 3) (M 4) (M 5) (M 6) (M 7) (M 8) (M 9)) := by
  refine ⟨fun i h1 h2 => ?_, hz⟩
  have : i = 2 ∨ i = 3 ∨ i = 4 ∨ i = 5 ∨ i = 6 ∨ i = 7 ∨ i = 8 ∨ i = 9 := by omega
  rcases this with rfl | rfl | rfl | rfl | rfl | rfl | rfl | rfl <;> rfl
theorem mFD_no {M : Nat → Nat → Int32} {a b c d e : Int32} (h : ¬ M 1 0 + 20 ≤ 600) : mFD M (mmk (M 0) (M 1) (M 2) (M 3) (M 4) (M 5) (M 6) (M 7) (M 8) (M 9)) a b c d e (-1) := ⟨mSA_mk (fun _ _ => rfl), fun _ => ⟨rfl, rfl, rfl⟩, fun n hn hle => absurd (by rw [hn]; exact (e_len (by omega)).mpr hle) h⟩
theorem mFD_yes {M : Nat → Nat → Int32} {a b c d e : Int32} {n : Nat} {t z : Nat → Int32} (hn : M 1 0 = nI n) (hle : n + 20 ≤ 600) (hb : B20 (M 0) t n a b c d e) (h0 : z 0 = nI (n + 20)) (hz : ∀ j, ¬ j = 0 → z j = M 1 j) : mFD M (mmk t z (M 2) (M 3) (M 4) (M 5) (M 6) (M 7) (M 8) (M 9)) a b c d e (nI (n + 20)) := by
  refine ⟨mSA_mk hz, fun h => absurd (by rw [hn]; exact (e_len (by omega)).mpr hle) h, fun m hm hle2 => ?_⟩
  have : m = n := (nI_eq (by omega) (by omega)).mp (hm.symm.trans hn)
  subst this
  exact ⟨rfl, h0, hb⟩
end
section
def AN_count (M : Nat → Nat → Int32) (a : Int32) : Int32 := if 0 ≤ a ∧ a ≤ 3 then M 4 a.toNatClampNeg else -2
def AN_fault (M : Nat → Nat → Int32) (a : Int32) : Int32 := if a = 0 then M 2 0 else if a = 1 then M 3 0 else -1
def rowM (M : Nat → Nat → Int32) (o : Nat) (a : Int32) : Nat → Int32 := fun j => M (5 + o) (wD o * a.toNatClampNeg + j)
def F3 (td : Nat → Int32) (b c : Int32) : Int32 := if b = -1 then (if c = 0 then td 0 else -2) else if (0 ≤ b ∧ b < td 0) ∧ 0 ≤ c ∧ c ≤ 2 then td (1 + 3 * b.toNatClampNeg + c.toNatClampNeg) else -2
def AN_deed (M : Nat → Nat → Int32) (a b c : Int32) : Int32 := if 0 ≤ a ∧ a < M 4 1 then F3 (rowM M 1 a) b c else -2
def AN_fact (M : Nat → Nat → Int32) (a b c : Int32) : Int32 := if 0 ≤ a ∧ a < M 4 2 then F3 (rowM M 2 a) b c else -2
def Fec (td : Nat → Int32) (b c : Int32) : Int32 := if (0 ≤ b ∧ b < td 4) ∧ 0 ≤ c ∧ c ≤ 1 then td (43 + 2 * b.toNatClampNeg + c.toNatClampNeg) else -1
def AN_echo (M : Nat → Nat → Int32) (a b c : Int32) : Int32 := if 0 ≤ a ∧ a < M 4 0 then Fec (rowM M 0 a) b c else -1
def FL (td : Nat → Int32) (n : Nat) : Int32 := if 60 ≤ n then (if nI ((n - 60) / 9) < td 0 ∧ nI ((n - 60) % 9) < td 0 then td (51 + 9 * ((n - 60) / 9) + (n - 60) % 9) else -1) else if n / 10 = 1 then (if nI (n % 10) < td 0 then td (7 + n % 10) else -1) else if n / 10 = 2 then (if nI (n % 10) < td 0 then td (16 + n % 10) else -1) else if n / 10 = 3 then (if nI (n % 10) < td 1 then td (25 + n % 10) else -1) else if n / 10 = 4 then (if nI (n % 10) < td 1 then td (31 + n % 10) else -1) else if n / 10 = 5 then (if nI (n % 10) < td 1 then td (37 + n % 10) else -1) else if n ≤ 6 then td n else -1
def AN_land (M : Nat → Nat → Int32) (a b : Int32) : Int32 := if 0 ≤ a ∧ a < M 4 0 then (if 0 ≤ b ∧ b ≤ 140 then FL (rowM M 0 a) b.toNatClampNeg else -1) else -1
theorem TM_cnt {T : TT} {M : Nat → Nat → Int32} (h : TM T M 0) (o : Nat) (ho : o < 4) : M 4 o = T.2 1 o := by
  have g := h.2.2.2.2.1 o ho
  rw [Nat.mul_zero, Nat.zero_add] at g
  exact g
theorem TM_sl {T : TT} {M : Nat → Nat → Int32} (h : TM T M 0) (o k : Nat) (ho : o < 4) (hk : k < 2) (hl : nI k < T.2 1 o) : SL o k T (rowM M o (nI k)) := by
  have g := h.2.2.2.2.2 o k ho hk hl
  unfold rowM
  rw [nI_clamp (by omega)]
  rw [Nat.mul_zero, Nat.zero_add] at g
  exact g
theorem in_lt {x c : Int32} (hc : iv 0 1000 c) : (0 ≤ x ∧ x ≤ c - 1) ↔ (0 ≤ x ∧ x < c) := by
  have e0 : (0 : Int32).toInt = 0 := rfl
  have e1 : (1 : Int32).toInt = 1 := rfl
  have es : (c - 1).toInt = c.toInt - 1 := by
    rw [Int32.toInt_sub, e1]
    have := hc.1
    have := hc.2
    exact Int.bmod_eq_of_le (by omega) (by omega)
  constructor
  · rintro ⟨h1, h2⟩
    refine ⟨h1, Int32.lt_iff_toInt_lt.mpr ?_⟩
    have := r_le h2
    omega
  · rintro ⟨h1, h2⟩
    refine ⟨h1, Int32.le_iff_toInt_le.mpr ?_⟩
    have := r_lt h2
    omega
theorem lt_nI {x c : Int32} {m : Nat} (hc : iv 0 m c) (h : 0 ≤ x ∧ x < c) : ∃ k : Nat, k < m ∧ x = nI k := by
  obtain ⟨j, hj, e⟩ := nI_of (Int32.not_lt.mpr h.1)
  refine ⟨j, ?_, e⟩
  have := r_lt h.2
  rw [e, nI_toInt hj] at this
  have := hc.2
  omega
theorem e_is {mn : Nat → Int32} {o : Nat} {x : Int32} {post : Int32 → Prop} (ho : o < 4) (hc : iv 0 2 (mn o)) (h0 : ¬ (0 ≤ x ∧ x < mn o) → post 0) (h1 : (0 ≤ x ∧ x < mn o) → post 1) : q_m_is_0 mn (nI o) x post := by
  refine ⟨vp_in_nI (by omega) (by omega), ?_⟩
  rw [nI_clamp (by omega)]
  have e := in_lt (x := x) (iv_w hc (by decide) : iv 0 1000 (mn o))
  exact sp_in (fun h => ⟨rfl, h0 (fun h2 => h (e.mpr h2))⟩) (fun a b => ⟨rfl, h1 (e.mp ⟨a, b⟩)⟩)
theorem e_at {c : Int32} {x : Int32} {A C D : Prop} (hc : iv 0 2 c) (h0 : ¬ (0 ≤ x ∧ x < c) → A) (h2 : x = nI 0 → nI 0 < c → C) (h1 : x = nI 1 → nI 1 < c → D) : (x < 0 → A) ∧ (¬ x < 0 → ((c ≤ x → A) ∧ (¬ c ≤ x → (vp_in x 2 ∧ (x = 0 → C) ∧ (¬ x = 0 → D))))) := by
  refine ⟨fun h => h0 (fun h9 => absurd h (Int32.not_lt.mpr h9.1)), fun h => ⟨fun h9 => h0 (fun h8 => absurd h8.2 (Int32.not_lt.mpr h9)), fun h9 => ?_⟩⟩
  have hlt := Int32.not_le.mp h9
  obtain ⟨k, hk, e⟩ := lt_nI (m := 2) hc ⟨Int32.not_lt.mp h, hlt⟩
  refine ⟨by rw [e]; exact vp_in_nI hk (by omega), fun hx => ?_, fun hx => ?_⟩
  · exact h2 hx (by rw [hx] at hlt; exact hlt)
  · have hk1 : k = 1 := by
      by_cases h0 : k = 0
      · exact absurd (by rw [e, h0]; rfl) hx
      · omega
    rw [hk1] at e
    exact h1 e (by rw [e] at hlt; exact hlt)
theorem e_x_count {T : TT} {M : Nat → Nat → Int32} {a : Int32} {post : Int32 → Prop} (h : TM T M 0) (hp : post (AN_count M a)) : q_wx_X10_count_0 (T.2 1) a post := by
  unfold AN_count at hp
  refine ⟨fun h9 => ?_, fun h9 => ⟨fun h4 => ?_, fun h4 => ?_⟩⟩
  · rw [if_neg (fun h8 => absurd h9 (Int32.not_lt.mpr h8.1))] at hp; exact hp
  · have h3 : a ≤ 3 := Int32.le_iff_toInt_le.mpr (by have := r_lt h4; have e3 : (3 : Int32).toInt = 3 := rfl; have e4 : (4 : Int32).toInt = 4 := rfl; omega)
    obtain ⟨o, ho, e⟩ := nI_of2 (M := 3) (n := 3) (by decide) h9 h3
    rw [if_pos ⟨Int32.not_lt.mp h9, h3⟩] at hp
    subst e
    rw [nI_clamp (by omega)] at hp ⊢
    rw [TM_cnt h o (by omega)] at hp
    exact ⟨vp_in_nI (by omega) (by omega), hp⟩
  · rw [if_neg (fun h8 => h4 (Int32.lt_iff_toInt_lt.mpr (by have := r_le h8.2; have e3 : (3 : Int32).toInt = 3 := rfl; have e4 : (4 : Int32).toInt = 4 := rfl; omega)))] at hp; exact hp
theorem e_m_count {M : Nat → Nat → Int32} {cd a : Int32} {post : Int32 → Int32 → Prop} (hp : post (AN_count M a) 0) : q_m_count_0 cd (M 4) a post := by
  unfold AN_count at hp
  refine sp_in (fun h => iz ?_) (fun h1 h2 => oi ?_)
  · rw [if_neg h] at hp; exact hp
  · rw [if_pos ⟨h1, h2⟩] at hp
    obtain ⟨o, ho, e⟩ := nI_of2 (M := 3) (n := 3) (by decide) (Int32.not_lt.mpr h1) h2
    exact ⟨by rw [e]; exact vp_in_nI (by omega) (by omega), hp⟩
theorem e_x_fault {T : TT} {M : Nat → Nat → Int32} {a : Int32} {post : Int32 → Prop} (h : TM T M 0) (hp : post (AN_fault M a)) : q_wx_X10_fault_0 (T.1 1) (T.1 2) a post := by
  unfold AN_fault at hp
  rw [h.2.2.1, h.2.2.2.1] at hp
  refine ⟨fun h0 => ?_, fun h0 => ?_⟩
  · rw [if_neg h0] at hp
    refine ⟨fun h1 => ?_, fun h1 => ?_⟩
    · rw [if_neg h1] at hp; exact hp
    · rw [if_pos h1] at hp; exact hp
  · rw [if_pos h0] at hp; exact hp
theorem e_m_fault {M : Nat → Nat → Int32} {cd a : Int32} {post : Int32 → Int32 → Prop} (hp : post (AN_fault M a) 0) : q_m_fault_0 cd (M 2) (M 3) a post := by
  unfold AN_fault at hp
  refine ⟨fun h0 => ?_, fun h0 => ?_⟩
  · rw [if_neg h0] at hp
    refine ⟨fun h1 => ?_, fun h1 => ?_⟩
    · rw [if_neg h1] at hp; exact hp
    · rw [if_pos h1] at hp; exact hp
  · rw [if_pos h0] at hp; exact hp
theorem e_look_deed {c x b : Int32} {p q s td : Nat → Int32} {post : Int32 → Prop} (hR : R3 c p q s td) (hc : iv 0 40 c) (hb : ¬ b = -1) (hlt : 0 ≤ b ∧ b < c) (hp : post (F3 td b x)) : q_wv_X1_look_0 p q s b x post := by
  have hlt' : 0 ≤ b ∧ b < td 0 := by rw [← hR.1]; exact hlt
  obtain ⟨k, hk, e⟩ := lt_nI (m := 40) hc hlt
  have hin : vp_in b 40 := by rw [e]; exact vp_in_nI hk (by omega)
  have hkc : k < (td 0).toNatClampNeg := by
    rw [← hR.1]
    have h1 := r_lt hlt.2
    rw [e, nI_toInt (by omega)] at h1
    have e2 : c.toNatClampNeg = c.toInt.toNat := rfl
    omega
  have hcl : b.toNatClampNeg = k := by rw [e]; exact nI_clamp (by omega)
  obtain ⟨r1, r2, r3⟩ := hR.2 k hkc
  unfold F3 at hp
  rw [if_neg hb] at hp
  refine ⟨fun h => ?_, fun h => ⟨hin, ?_⟩, fun h => ⟨hin, ?_⟩, fun h => ⟨hin, ?_⟩⟩
  · rw [if_neg (fun h9 => ?_)] at hp
    · exact hp
    · have a1 := r_le h9.2.1
      have a2 := r_le h9.2.2
      have e0 : (0 : Int32).toInt = 0 := rfl
      have e2 : (2 : Int32).toInt = 2 := rfl
      omega
  · subst h
    rw [if_pos ⟨hlt', by decide⟩, hcl, c_0] at hp
    rw [hcl, r1]
    exact hp
  · subst h
    rw [if_pos ⟨hlt', by decide⟩, hcl, c_1, show 1 + 3 * k + 1 = 2 + 3 * k by omega] at hp
    rw [hcl, r2]
    exact hp
  · subst h
    rw [if_pos ⟨hlt', by decide⟩, hcl, c_2, show 1 + 3 * k + 2 = 3 + 3 * k by omega] at hp
    rw [hcl, r3]
    exact hp
set_option maxRecDepth 40000 in
theorem e_x_deed {T : TT} {M : Nat → Nat → Int32} {a b c : Int32} {post : Int32 → Prop} (h : TM T M 0) (hB : tB T) (hp : post (AN_deed M a b c)) : q_wx_X10_deed_0 (T.2 1) (T.1 17) (T.2 18) (T.2 19) (T.2 20) (T.1 18) (T.2 21) (T.2 22) (T.2 23) a b c post := by
  unfold AN_deed at hp
  rw [TM_cnt h 1 (by decide)] at hp
  have hc2 : iv 0 2 (T.2 1 1) := hB.2.2.1 1
  have sl1 : a = nI 1 → nI 1 < T.2 1 1 → (post (F3 (rowM M 1 a) b c) → ((¬ b = -1 → q_wx_X10_deed_30k1 (T.2 1) (T.1 17) (T.2 18) (T.2 19) (T.2 20) (T.1 18) (T.2 21) (T.2 22) (T.2 23) b c post) ∧ (b = -1 → ((¬ c = 0 → q_wx_X10_deed_30k1 (T.2 1) (T.1 17) (T.2 18) (T.2 19) (T.2 20) (T.1 18) (T.2 21) (T.2 22) (T.2 23) b c post) ∧ (c = 0 → post (T.1 18)))))) := by
    intro ea hl hp
    rw [ea] at hp
    have hR : R3 (T.1 18) (T.2 21) (T.2 22) (T.2 23) (rowM M 1 (nI 1)) := TM_sl h 1 1 (by decide) (by decide) hl
    have k30 : (b = -1 → ¬ c = 0) → q_wx_X10_deed_30k1 (T.2 1) (T.1 17) (T.2 18) (T.2 19) (T.2 20) (T.1 18) (T.2 21) (T.2 22) (T.2 23) b c post := by
      intro hbc
      refine ⟨fun h9 => ?_, fun h9 => ⟨fun h8 => ?_, fun h8 => ?_⟩⟩
      · unfold F3 at hp
        by_cases hb : b = -1
        · rw [if_pos hb, if_neg (hbc hb)] at hp; exact hp
        · rw [if_neg hb, if_neg (fun h7 => absurd h9 (Int32.not_lt.mpr h7.1.1))] at hp; exact hp
      · have hb : ¬ b = -1 := fun h7 => h9 (by rw [h7]; decide)
        exact e_look_deed hR (hB.2.2.2.2.2.2.2.2.2.2.2.2.1) hb ⟨Int32.not_lt.mp h9, h8⟩ hp
      · have hb : ¬ b = -1 := fun h7 => h9 (by rw [h7]; decide)
        unfold F3 at hp
        rw [if_neg hb, if_neg (fun h7 => h8 (by rw [hR.1]; exact h7.1.2))] at hp; exact hp
    refine ⟨fun hb => k30 (fun h9 => absurd h9 hb), fun hb => ⟨fun hcc => k30 (fun _ => hcc), fun hcc => ?_⟩⟩
    unfold F3 at hp
    rw [if_pos hb, if_pos hcc, ← hR.1] at hp
    exact hp
  have sl0 : a = nI 0 → nI 0 < T.2 1 1 → (post (F3 (rowM M 1 a) b c) → ((¬ b = -1 → q_wx_X10_deed_30k0 (T.2 1) (T.1 17) (T.2 18) (T.2 19) (T.2 20) (T.1 18) (T.2 21) (T.2 22) (T.2 23) b c post) ∧ (b = -1 → ((¬ c = 0 → q_wx_X10_deed_30k0 (T.2 1) (T.1 17) (T.2 18) (T.2 19) (T.2 20) (T.1 18) (T.2 21) (T.2 22) (T.2 23) b c post) ∧ (c = 0 → post (T.1 17)))))) := by
    intro ea hl hp
    rw [ea] at hp
    have hR : R3 (T.1 17) (T.2 18) (T.2 19) (T.2 20) (rowM M 1 (nI 0)) := TM_sl h 1 0 (by decide) (by decide) hl
    have k30 : (b = -1 → ¬ c = 0) → q_wx_X10_deed_30k0 (T.2 1) (T.1 17) (T.2 18) (T.2 19) (T.2 20) (T.1 18) (T.2 21) (T.2 22) (T.2 23) b c post := by
      intro hbc
      refine ⟨fun h9 => ?_, fun h9 => ⟨fun h8 => ?_, fun h8 => ?_⟩⟩
      · unfold F3 at hp
        by_cases hb : b = -1
        · rw [if_pos hb, if_neg (hbc hb)] at hp; exact hp
        · rw [if_neg hb, if_neg (fun h7 => absurd h9 (Int32.not_lt.mpr h7.1.1))] at hp; exact hp
      · have hb : ¬ b = -1 := fun h7 => h9 (by rw [h7]; decide)
        exact e_look_deed hR (hB.2.2.2.2.2.2.1) hb ⟨Int32.not_lt.mp h9, h8⟩ hp
      · have hb : ¬ b = -1 := fun h7 => h9 (by rw [h7]; decide)
        unfold F3 at hp
        rw [if_neg hb, if_neg (fun h7 => h8 (by rw [hR.1]; exact h7.1.2))] at hp; exact hp
    refine ⟨fun hb => k30 (fun h9 => absurd h9 hb), fun hb => ⟨fun hcc => k30 (fun _ => hcc), fun hcc => ?_⟩⟩
    unfold F3 at hp
    rw [if_pos hb, if_pos hcc, ← hR.1] at hp
    exact hp
  refine e_at hc2 (fun (hn : ¬ (0 ≤ a ∧ a < T.2 1 1)) => ?_) (fun ea hl => ?_) (fun ea hl => ?_)
  · rw [if_neg hn] at hp
    exact ⟨fun _ => hp, fun h9 => absurd h9 (by decide), fun h9 => absurd rfl h9⟩
  · rw [if_pos (by rw [ea]; exact ⟨by decide, hl⟩)] at hp
    exact ⟨fun h9 => absurd h9 (by decide), fun h9 => absurd h9 (by decide), fun _ _ => sl0 ea hl hp⟩
  · rw [if_pos (by rw [ea]; exact ⟨by decide, hl⟩)] at hp
    exact ⟨fun h9 => absurd h9 (by decide), fun _ => sl1 ea hl hp, fun _ h9 => absurd rfl h9⟩
set_option maxRecDepth 40000 in
theorem e_m_deed {M : Nat → Nat → Int32} {cd ev a b c : Int32} {post : Int32 → Int32 → Int32 → Prop} (hcnt : iv 0 2 (M 4 1)) (hE : mEve (M 6)) (hp : ∀ ev', post (AN_deed M a b c) 0 ev') : q_m_deed_0 cd (M 4) (M 6) ev a b c post := by
  unfold AN_deed at hp
  refine e_is (o := 1) (by decide) hcnt (fun hn => ⟨rfl, zi ?_⟩) (fun hy => ⟨rfl, io ?_⟩)
  · rw [if_neg hn] at hp; exact hp _
  · rw [if_pos hy] at hp
    obtain ⟨k, hk, ea⟩ := lt_nI (m := 2) hcnt hy
    have hcl : a.toNatClampNeg = k := by rw [ea]; exact nI_clamp (by omega)
    have row : ∀ j, rowM M 1 a j = M 6 (121 * k + j) := fun j => by unfold rowM; rw [hcl]; rfl
    have dd : ∀ {Q : Int32 → Prop}, Q (rowM M 1 a 0) → q_m_deeds_0 (M 6) a Q := by
      intro Q hQ
      have e : (121 : Int32) * a = nI (121 * k) := by rw [ea]; exact pk_mul 121 k
      refine ⟨by rw [e]; exact vp_in_nI (by omega) (by omega), ?_⟩
      rw [e, nI_clamp (by omega)]
      rw [row 0, Nat.add_zero] at hQ
      exact hQ
    have hr0 : iv 0 40 (rowM M 1 a 0) := by rw [row 0, Nat.add_zero]; exact (hE k (by omega)).1
    have il := in_lt (x := b) (iv_w hr0 (by decide) : iv 0 1000 (rowM M 1 a 0))
    unfold F3 at hp
    refine ⟨fun hb => dd ?_, fun hb => ⟨fun hc => ?_, fun hc => dd ?_⟩⟩
    · rw [if_neg hb] at hp
      refine sp_in (fun h => iz ?_) (fun h1 h2 => oi (sp_in (fun h => iz ?_) (fun h3 h4 => oi ?_)))
      · rw [if_neg (fun h9 => h (il.mpr h9.1))] at hp; exact hp _
      · rw [if_neg (fun h9 => h h9.2)] at hp; exact hp _
      · rw [if_pos ⟨il.mp ⟨h1, h2⟩, h3, h4⟩] at hp
        obtain ⟨j, hj, eb⟩ := lt_nI (m := 40) hr0 (il.mp ⟨h1, h2⟩)
        obtain ⟨i, hi, ec⟩ := nI_of2 (M := 2) (n := 2) (by decide) (Int32.not_lt.mpr h3) h4
        have e : (((121 * a) + 1) + (3 * b)) + c = nI (121 * k + 1 + 3 * j + i) := by rw [ea, eb, ec]; exact ix3 121
        refine ⟨by rw [e]; exact vp_in_nI (by omega) (by omega), ?_⟩
        rw [e, nI_clamp (by omega)]
        rw [row, eb, ec, nI_clamp (by omega), nI_clamp (by omega), show 121 * k + (1 + 3 * j + i) = 121 * k + 1 + 3 * j + i by omega] at hp
        exact hp _
    · rw [if_pos hb, if_neg hc] at hp; exact hp _
    · rw [if_pos hb, if_pos hc] at hp; exact hp _
theorem e_look_fact {c x b : Int32} {p q s td : Nat → Int32} {post : Int32 → Prop} (hR : R3 c p q s td) (hc : iv 0 10 c) (hb : ¬ b = -1) (hlt : 0 ≤ b ∧ b < c) (hp : post (F3 td b x)) : q_ws_X6_look_0 p q s b x post := by
  have hlt' : 0 ≤ b ∧ b < td 0 := by rw [← hR.1]; exact hlt
  obtain ⟨k, hk, e⟩ := lt_nI (m := 10) hc hlt
  have hin : vp_in b 10 := by rw [e]; exact vp_in_nI hk (by omega)
  have hkc : k < (td 0).toNatClampNeg := by
    rw [← hR.1]
    have h1 := r_lt hlt.2
    rw [e, nI_toInt (by omega)] at h1
    have e2 : c.toNatClampNeg = c.toInt.toNat := rfl
    omega
  have hcl : b.toNatClampNeg = k := by rw [e]; exact nI_clamp (by omega)
  obtain ⟨r1, r2, r3⟩ := hR.2 k hkc
  unfold F3 at hp
  rw [if_neg hb] at hp
  refine ⟨fun h => ?_, fun h => ⟨hin, ?_⟩, fun h => ⟨hin, ?_⟩, fun h => ⟨hin, ?_⟩⟩
  · rw [if_neg (fun h9 => ?_)] at hp
    · exact hp
    · have a1 := r_le h9.2.1
      have a2 := r_le h9.2.2
      have e0 : (0 : Int32).toInt = 0 := rfl
      have e2 : (2 : Int32).toInt = 2 := rfl
      omega
  · subst h
    rw [if_pos ⟨hlt', by decide⟩, hcl, c_0] at hp
    rw [hcl, r1]
    exact hp
  · subst h
    rw [if_pos ⟨hlt', by decide⟩, hcl, c_1, show 1 + 3 * k + 1 = 2 + 3 * k by omega] at hp
    rw [hcl, r2]
    exact hp
  · subst h
    rw [if_pos ⟨hlt', by decide⟩, hcl, c_2, show 1 + 3 * k + 2 = 3 + 3 * k by omega] at hp
    rw [hcl, r3]
    exact hp
set_option maxRecDepth 40000 in
theorem e_x_fact {T : TT} {M : Nat → Nat → Int32} {a b c : Int32} {post : Int32 → Prop} (h : TM T M 0) (hB : tB T) (hp : post (AN_fact M a b c)) : q_wx_X10_fact_0 (T.2 1) (T.1 19) (T.2 24) (T.2 25) (T.2 26) (T.1 20) (T.2 27) (T.2 28) (T.2 29) a b c post := by
  unfold AN_fact at hp
  rw [TM_cnt h 2 (by decide)] at hp
  have hc2 : iv 0 2 (T.2 1 2) := hB.2.2.1 2
  have sl1 : a = nI 1 → nI 1 < T.2 1 2 → (post (F3 (rowM M 2 a) b c) → ((¬ b = -1 → q_wx_X10_fact_30k1 (T.2 1) (T.1 19) (T.2 24) (T.2 25) (T.2 26) (T.1 20) (T.2 27) (T.2 28) (T.2 29) b c post) ∧ (b = -1 → ((¬ c = 0 → q_wx_X10_fact_30k1 (T.2 1) (T.1 19) (T.2 24) (T.2 25) (T.2 26) (T.1 20) (T.2 27) (T.2 28) (T.2 29) b c post) ∧ (c = 0 → post (T.1 20)))))) := by
    intro ea hl hp
    rw [ea] at hp
    have hR : R3 (T.1 20) (T.2 27) (T.2 28) (T.2 29) (rowM M 2 (nI 1)) := TM_sl h 2 1 (by decide) (by decide) hl
    have k30 : (b = -1 → ¬ c = 0) → q_wx_X10_fact_30k1 (T.2 1) (T.1 19) (T.2 24) (T.2 25) (T.2 26) (T.1 20) (T.2 27) (T.2 28) (T.2 29) b c post := by
      intro hbc
      refine ⟨fun h9 => ?_, fun h9 => ⟨fun h8 => ?_, fun h8 => ?_⟩⟩
      · unfold F3 at hp
        by_cases hb : b = -1
        · rw [if_pos hb, if_neg (hbc hb)] at hp; exact hp
        · rw [if_neg hb, if_neg (fun h7 => absurd h9 (Int32.not_lt.mpr h7.1.1))] at hp; exact hp
      · have hb : ¬ b = -1 := fun h7 => h9 (by rw [h7]; decide)
        exact e_look_fact hR (hB.2.2.2.2.2.2.2.2.2.2.2.2.2.1) hb ⟨Int32.not_lt.mp h9, h8⟩ hp
      · have hb : ¬ b = -1 := fun h7 => h9 (by rw [h7]; decide)
        unfold F3 at hp
        rw [if_neg hb, if_neg (fun h7 => h8 (by rw [hR.1]; exact h7.1.2))] at hp; exact hp
    refine ⟨fun hb => k30 (fun h9 => absurd h9 hb), fun hb => ⟨fun hcc => k30 (fun _ => hcc), fun hcc => ?_⟩⟩
    unfold F3 at hp
    rw [if_pos hb, if_pos hcc, ← hR.1] at hp
    exact hp
  have sl0 : a = nI 0 → nI 0 < T.2 1 2 → (post (F3 (rowM M 2 a) b c) → ((¬ b = -1 → q_wx_X10_fact_30k0 (T.2 1) (T.1 19) (T.2 24) (T.2 25) (T.2 26) (T.1 20) (T.2 27) (T.2 28) (T.2 29) b c post) ∧ (b = -1 → ((¬ c = 0 → q_wx_X10_fact_30k0 (T.2 1) (T.1 19) (T.2 24) (T.2 25) (T.2 26) (T.1 20) (T.2 27) (T.2 28) (T.2 29) b c post) ∧ (c = 0 → post (T.1 19)))))) := by
    intro ea hl hp
    rw [ea] at hp
    have hR : R3 (T.1 19) (T.2 24) (T.2 25) (T.2 26) (rowM M 2 (nI 0)) := TM_sl h 2 0 (by decide) (by decide) hl
    have k30 : (b = -1 → ¬ c = 0) → q_wx_X10_fact_30k0 (T.2 1) (T.1 19) (T.2 24) (T.2 25) (T.2 26) (T.1 20) (T.2 27) (T.2 28) (T.2 29) b c post := by
      intro hbc
      refine ⟨fun h9 => ?_, fun h9 => ⟨fun h8 => ?_, fun h8 => ?_⟩⟩
      · unfold F3 at hp
        by_cases hb : b = -1
        · rw [if_pos hb, if_neg (hbc hb)] at hp; exact hp
        · rw [if_neg hb, if_neg (fun h7 => absurd h9 (Int32.not_lt.mpr h7.1.1))] at hp; exact hp
      · have hb : ¬ b = -1 := fun h7 => h9 (by rw [h7]; decide)
        exact e_look_fact hR (hB.2.2.2.2.2.2.2.1) hb ⟨Int32.not_lt.mp h9, h8⟩ hp
      · have hb : ¬ b = -1 := fun h7 => h9 (by rw [h7]; decide)
        unfold F3 at hp
        rw [if_neg hb, if_neg (fun h7 => h8 (by rw [hR.1]; exact h7.1.2))] at hp; exact hp
    refine ⟨fun hb => k30 (fun h9 => absurd h9 hb), fun hb => ⟨fun hcc => k30 (fun _ => hcc), fun hcc => ?_⟩⟩
    unfold F3 at hp
    rw [if_pos hb, if_pos hcc, ← hR.1] at hp
    exact hp
  refine e_at hc2 (fun (hn : ¬ (0 ≤ a ∧ a < T.2 1 2)) => ?_) (fun ea hl => ?_) (fun ea hl => ?_)
  · rw [if_neg hn] at hp
    exact ⟨fun _ => hp, fun h9 => absurd h9 (by decide), fun h9 => absurd rfl h9⟩
  · rw [if_pos (by rw [ea]; exact ⟨by decide, hl⟩)] at hp
    exact ⟨fun h9 => absurd h9 (by decide), fun h9 => absurd h9 (by decide), fun _ _ => sl0 ea hl hp⟩
  · rw [if_pos (by rw [ea]; exact ⟨by decide, hl⟩)] at hp
    exact ⟨fun h9 => absurd h9 (by decide), fun _ => sl1 ea hl hp, fun _ h9 => absurd rfl h9⟩
set_option maxRecDepth 40000 in
theorem e_m_fact {M : Nat → Nat → Int32} {cd ev a b c : Int32} {post : Int32 → Int32 → Int32 → Prop} (hcnt : iv 0 2 (M 4 2)) (hE : mSig (M 7)) (hp : ∀ ev', post (AN_fact M a b c) 0 ev') : q_m_fact_0 cd (M 4) (M 7) ev a b c post := by
  unfold AN_fact at hp
  refine e_is (o := 2) (by decide) hcnt (fun hn => ⟨rfl, zi ?_⟩) (fun hy => ⟨rfl, io ?_⟩)
  · rw [if_neg hn] at hp; exact hp _
  · rw [if_pos hy] at hp
    obtain ⟨k, hk, ea⟩ := lt_nI (m := 2) hcnt hy
    have hcl : a.toNatClampNeg = k := by rw [ea]; exact nI_clamp (by omega)
    have row : ∀ j, rowM M 2 a j = M 7 (31 * k + j) := fun j => by unfold rowM; rw [hcl]; rfl
    have dd : ∀ {Q : Int32 → Prop}, Q (rowM M 2 a 0) → q_m_facts_0 (M 7) a Q := by
      intro Q hQ
      have e : (31 : Int32) * a = nI (31 * k) := by rw [ea]; exact pk_mul 31 k
      refine ⟨by rw [e]; exact vp_in_nI (by omega) (by omega), ?_⟩
      rw [e, nI_clamp (by omega)]
      rw [row 0, Nat.add_zero] at hQ
      exact hQ
    have hr0 : iv 0 10 (rowM M 2 a 0) := by rw [row 0, Nat.add_zero]; exact (hE k (by omega)).1
    have il := in_lt (x := b) (iv_w hr0 (by decide) : iv 0 1000 (rowM M 2 a 0))
    unfold F3 at hp
    refine ⟨fun hb => dd ?_, fun hb => ⟨fun hc => ?_, fun hc => dd ?_⟩⟩
    · rw [if_neg hb] at hp
      refine sp_in (fun h => iz ?_) (fun h1 h2 => oi (sp_in (fun h => iz ?_) (fun h3 h4 => oi ?_)))
      · rw [if_neg (fun h9 => h (il.mpr h9.1))] at hp; exact hp _
      · rw [if_neg (fun h9 => h h9.2)] at hp; exact hp _
      · rw [if_pos ⟨il.mp ⟨h1, h2⟩, h3, h4⟩] at hp
        obtain ⟨j, hj, eb⟩ := lt_nI (m := 10) hr0 (il.mp ⟨h1, h2⟩)
        obtain ⟨i, hi, ec⟩ := nI_of2 (M := 2) (n := 2) (by decide) (Int32.not_lt.mpr h3) h4
        have e : (((31 * a) + 1) + (3 * b)) + c = nI (31 * k + 1 + 3 * j + i) := by rw [ea, eb, ec]; exact ix3 31
        refine ⟨by rw [e]; exact vp_in_nI (by omega) (by omega), ?_⟩
        rw [e, nI_clamp (by omega)]
        rw [row, eb, ec, nI_clamp (by omega), nI_clamp (by omega), show 31 * k + (1 + 3 * j + i) = 31 * k + 1 + 3 * j + i by omega] at hp
        exact hp _
    · rw [if_pos hb, if_neg hc] at hp; exact hp _
    · rw [if_pos hb, if_pos hc] at hp; exact hp _
end
section
theorem e_ec {ec b c : Int32} {ef et td : Nat → Int32} {post : Int32 → Prop} (h4 : ec = td 4) (hc : iv 0 4 ec) (hE : ∀ j, j < (td 4).toNatClampNeg → ef j = td (43 + 2 * j) ∧ et j = td (44 + 2 * j)) (hp : post (Fec td b c)) : (b < 0 → post (-1)) ∧ (¬ b < 0 → ((b < ec → ((¬ c = 0 → ((¬ c = 1 → post (-1)) ∧ (c = 1 → (vp_in b 4 ∧ post (et (Int32.toNatClampNeg b)))))) ∧ (c = 0 → (vp_in b 4 ∧ post (ef (Int32.toNatClampNeg b)))))) ∧ (¬ b < ec → post (-1)))) := by
  unfold Fec at hp
  refine ⟨fun h => ?_, fun h => ⟨fun hl => ?_, fun hl => ?_⟩⟩
  · rw [if_neg (fun h9 => absurd h (Int32.not_lt.mpr h9.1.1))] at hp; exact hp
  · have hlt : 0 ≤ b ∧ b < td 4 := ⟨Int32.not_lt.mp h, by rw [← h4]; exact hl⟩
    obtain ⟨k, hk, e⟩ := lt_nI (m := 4) hc ⟨Int32.not_lt.mp h, hl⟩
    have hin : vp_in b 4 := by rw [e]; exact vp_in_nI hk (by omega)
    have hcl : b.toNatClampNeg = k := by rw [e]; exact nI_clamp (by omega)
    have hkc : k < (td 4).toNatClampNeg := by
      have h1 := r_lt hlt.2
      rw [e, nI_toInt (by omega)] at h1
      have e2 : (td 4).toNatClampNeg = (td 4).toInt.toNat := rfl
      omega
    obtain ⟨r1, r2⟩ := hE k hkc
    rw [hcl]
    rw [hcl] at hp
    refine ⟨fun h0 => ⟨fun h1 => ?_, fun h1 => ⟨hin, ?_⟩⟩, fun h0 => ⟨hin, ?_⟩⟩
    · rw [if_neg (fun h9 => ?_)] at hp
      · exact hp
      · obtain ⟨i, hi, ec⟩ := nI_of2 (M := 1) (n := 1) (x := c) (by decide) (Int32.not_lt.mpr h9.2.1) h9.2.2
        have : i = 0 ∨ i = 1 := by omega
        rcases this with rfl | rfl
        · exact h0 ec
        · exact h1 ec
    · rw [h1, if_pos ⟨hlt, by decide⟩, c_1, show 43 + 2 * k + 1 = 44 + 2 * k by omega] at hp
      rw [r2]; exact hp
    · rw [h0, if_pos ⟨hlt, by decide⟩, c_0, Nat.add_zero] at hp
      rw [r1]; exact hp
  · rw [if_neg (fun h9 => hl (by rw [h4]; exact h9.1.2))] at hp; exact hp
set_option maxRecDepth 40000 in
theorem e_x_echo {T : TT} {M : Nat → Nat → Int32} {a b c : Int32} {post : Int32 → Prop} (h : TM T M 0) (hB : tB T) (hp : post (AN_echo M a b c)) : q_wx_X10_echo_0 (T.2 1) (T.1 7) (T.2 5) (T.2 6) (T.1 14) (T.2 13) (T.2 14) a b c post := by
  unfold AN_echo at hp
  rw [TM_cnt h 0 (by decide)] at hp
  refine e_at (hB.2.2.1 0) (fun (hn : ¬ (0 ≤ a ∧ a < T.2 1 0)) => ?_) (fun ea hl => ?_) (fun ea hl => ?_)
  · rw [if_neg hn] at hp
    exact ⟨fun _ => hp, fun h9 => absurd h9 (by decide), fun h9 => absurd rfl h9⟩
  · rw [if_pos (by rw [ea]; exact ⟨by decide, hl⟩), ea] at hp
    have hR : LDR (T.1 3) (T.1 4) (T.1 5) (T.1 6) (T.1 7) (T.1 8) (T.1 9) (T.2 2) (T.2 3) (T.2 4) (T.2 5) (T.2 6) (T.2 7) (T.2 8) (T.2 9) (rowM M 0 (nI 0)) := TM_sl h 0 0 (by decide) (by decide) hl
    exact ⟨fun h9 => absurd h9 (by decide), fun h9 => absurd h9 (by decide), fun _ _ => e_ec hR.2.2.2.2.1 (hB.2.2.2.2.2.1) hR.2.2.2.2.2.2.2.2.2.2.1 hp⟩
  · rw [if_pos (by rw [ea]; exact ⟨by decide, hl⟩), ea] at hp
    have hR : LDR (T.1 10) (T.1 11) (T.1 12) (T.1 13) (T.1 14) (T.1 15) (T.1 16) (T.2 10) (T.2 11) (T.2 12) (T.2 13) (T.2 14) (T.2 15) (T.2 16) (T.2 17) (rowM M 0 (nI 1)) := TM_sl h 0 1 (by decide) (by decide) hl
    exact ⟨fun h9 => absurd h9 (by decide), fun _ => e_ec hR.2.2.2.2.1 (hB.2.2.2.2.2.2.2.2.2.2.2.1) hR.2.2.2.2.2.2.2.2.2.2.1 hp, fun _ h9 => absurd rfl h9⟩
theorem e_hasH {c : Int32} {k : Nat} {post : Int32 → Prop} (hk : k < 1000) (h0 : ¬ nI k < c → post 0) (h1 : nI k < c → post 1) : q_wl_X2_hasHut_0 c (nI k) post :=
  ⟨fun h => absurd h (nI_pos (by omega)), fun _ => ⟨fun h => h0 (Int32.not_lt.mpr h), fun h => h1 (Int32.not_le.mp h)⟩⟩
theorem e_hasS {c : Int32} {k : Nat} {post : Int32 → Prop} (hk : k < 1000) (h0 : ¬ nI k < c → post 0) (h1 : nI k < c → post 1) : q_wl_X2_hasSinger_0 c (nI k) post :=
  ⟨fun h => absurd h (nI_pos (by omega)), fun _ => ⟨fun h => h0 (Int32.not_lt.mpr h), fun h => h1 (Int32.not_le.mp h)⟩⟩
theorem lt_cl {c : Int32} {k m : Nat} (hc : iv 0 m c) (hm : m < 1000) (hk : k < 1000) (h : nI k < c) : k < m ∧ k < c.toNatClampNeg := by
  have h1 := r_lt h
  rw [nI_toInt (by omega)] at h1
  have h2 := hc.2
  have e : c.toNatClampNeg = c.toInt.toNat := rfl
  omega
theorem dm10 {n : Nat} (hn : n < 1000) : nI n / 10 = nI (n / 10) ∧ nI n - nI n / 10 * 10 = nI (n % 10) := ⟨pk_div (d := 10) (by omega) (by omega) (by omega), pk_rem (d := 10) (by omega) (by omega) (by omega)⟩
theorem dm9 {n : Nat} (hn : n < 1000) (h6 : 60 ≤ n) : (nI n - 60) / 9 = nI ((n - 60) / 9) ∧ (nI n - 60) - (nI n - 60) / 9 * 9 = nI ((n - 60) % 9) := by
  have e : nI n - 60 = nI (n - 60) := pk_sub (b := 60) h6
  rw [e]
  exact ⟨pk_div (d := 9) (by omega) (by omega) (by omega), pk_rem (d := 9) (by omega) (by omega) (by omega)⟩
set_option maxRecDepth 40000 in
theorem e_lk {huts singers villages dams echoes deep slide : Int32} {heights ladders minutes echoFrom echoTo homes talls known td : Nat → Int32} {w : Int32} {post : Int32 → Prop} (hL : LDR huts singers villages dams echoes deep slide heights ladders minutes echoFrom echoTo homes talls known td) (b0 : iv 0 (9 : Nat) huts) (b1 : iv 0 (6 : Nat) singers) (hp : post (if 0 ≤ w ∧ w ≤ 140 then FL td w.toNatClampNeg else -1)) : q_wl_X2_look_0 huts singers villages dams echoes deep slide heights ladders minutes homes talls known w post := by
  obtain ⟨e0, e1, e2, e3, e4, e5, e6, f1, f2, f3, f4, f5, f6⟩ := hL
  have e140 : (140 : Int32).toInt = 140 := rfl
  have e141 : (141 : Int32).toInt = 141 := rfl
  refine ⟨fun h => ?_, fun h => ⟨fun h1 => ?_, fun h1 => ?_⟩⟩
  · rw [if_neg (fun h9 => absurd h (Int32.not_lt.mpr h9.1))] at hp; exact hp
  · have hw : w ≤ 140 := Int32.le_iff_toInt_le.mpr (by have := r_lt h1; omega)
    rw [if_pos ⟨Int32.not_lt.mp h, hw⟩] at hp
    obtain ⟨n, hn, rfl⟩ := nI_of2 (M := 140) (n := 140) (by decide) h hw
    rw [nI_clamp (by omega)] at hp
    unfold FL at hp
    rw [(dm10 (n := n) (by omega)).2, (dm10 (n := n) (by omega)).1]
    refine pk_lt n 60 (fun hlt => ?_) (fun hge => ?_)
    · rw [if_neg (show ¬ 60 ≤ n by omega)] at hp
      refine pk_le 10 n (fun hge v ev => ?_) (fun hlo => ?_)
      · subst ev
        refine pk_le 30 n (fun h30 => ?_) (fun h30 => ?_)
        · rw [if_neg (show ¬ n / 10 = 1 by omega), if_neg (show ¬ n / 10 = 2 by omega)] at hp
          refine e_hasS (by omega) (fun hs => zi ?_) (fun hs => io ?_)
          · rw [e1] at hs
            have hc : n / 10 = 3 ∨ n / 10 = 4 ∨ n / 10 = 5 := by omega
            rcases hc with hc | hc | hc
            · rw [if_pos hc, if_neg hs] at hp; exact hp
            · rw [if_neg (show ¬ n / 10 = 3 by omega), if_pos hc, if_neg hs] at hp; exact hp
            · rw [if_neg (show ¬ n / 10 = 3 by omega), if_neg (show ¬ n / 10 = 4 by omega), if_pos hc, if_neg hs] at hp; exact hp
          · obtain ⟨k6, kc⟩ := lt_cl b1 (by omega) (by omega) hs
            have hin : vp_in (nI (n % 10)) 6 := vp_in_nI k6 (by omega)
            rw [e1] at hs kc
            rw [nI_clamp (by omega)]
            refine ⟨fun h3 => ⟨fun h4 => ⟨hin, ?_⟩, fun h4 => ⟨hin, ?_⟩⟩, fun h3 => ⟨hin, ?_⟩⟩
            · have q3 : ¬ n / 10 = 3 := fun h9 => h3 (by rw [h9]; rfl)
              have q4 : ¬ n / 10 = 4 := fun h9 => h4 (by rw [h9]; rfl)
              rw [if_neg q3, if_neg q4, if_pos (show n / 10 = 5 by omega), if_pos hs] at hp
              rw [f6 _ k6]; exact hp
            · have q4 : n / 10 = 4 := (nI_eq (a := n / 10) (b := 4) (by omega) (by omega)).mp h4
              rw [if_neg (show ¬ n / 10 = 3 by omega), if_pos q4, if_pos hs] at hp
              rw [(f5 _ kc).2]; exact hp
            · have q3 : n / 10 = 3 := (nI_eq (a := n / 10) (b := 3) (by omega) (by omega)).mp h3
              rw [if_pos q3, if_pos hs] at hp
              rw [(f5 _ kc).1]; exact hp
        · refine e_hasH (by omega) (fun hs => zi ?_) (fun hs => io ?_)
          · rw [e0] at hs
            have hc : n / 10 = 1 ∨ n / 10 = 2 := by omega
            rcases hc with hc | hc
            · rw [if_pos hc, if_neg hs] at hp; exact hp
            · rw [if_neg (show ¬ n / 10 = 1 by omega), if_pos hc, if_neg hs] at hp; exact hp
          · obtain ⟨k9, kc⟩ := lt_cl b0 (by omega) (by omega) hs
            have hin : vp_in (nI (n % 10)) 9 := vp_in_nI k9 (by omega)
            rw [e0] at hs kc
            rw [nI_clamp (by omega)]
            refine ⟨fun h3 => ⟨hin, ?_⟩, fun h3 => ⟨hin, ?_⟩⟩
            · have q1 : ¬ n / 10 = 1 := fun h9 => h3 (by rw [h9]; rfl)
              rw [if_neg q1, if_pos (show n / 10 = 2 by omega), if_pos hs] at hp
              rw [f2 _ k9]; exact hp
            · have q1 : n / 10 = 1 := (nI_eq (a := n / 10) (b := 1) (by omega) (by omega)).mp h3
              rw [if_pos q1, if_pos hs] at hp
              rw [f1 _ kc]; exact hp
      · rw [if_neg (show ¬ n / 10 = 1 by omega), if_neg (show ¬ n / 10 = 2 by omega), if_neg (show ¬ n / 10 = 3 by omega), if_neg (show ¬ n / 10 = 4 by omega), if_neg (show ¬ n / 10 = 5 by omega)] at hp
        have z : ∀ m : Nat, m ≤ 6 → nI n = nI m → post (td m) := by
          intro m hm e
          have : n = m := (nI_eq (by omega) (by omega)).mp e
          subst this
          rw [if_pos hm] at hp
          exact hp
        refine ⟨fun h9 => ?_, fun h9 => ?_, fun h9 => ?_, fun h9 => ?_, fun h9 => ?_, fun h9 => ?_, fun h9 => ?_, fun h9 => ?_⟩
        · rw [nI_toInt (by omega)] at h9
          rw [if_neg (by omega)] at hp
          exact hp
        · rw [e0]; exact z 0 (by omega) h9
        · rw [e1]; exact z 1 (by omega) h9
        · rw [e2]; exact z 2 (by omega) h9
        · rw [e3]; exact z 3 (by omega) h9
        · rw [e4]; exact z 4 (by omega) h9
        · rw [e5]; exact z 5 (by omega) h9
        · rw [e6]; exact z 6 (by omega) h9
    · rw [if_pos (show 60 ≤ n by omega)] at hp
      rw [(dm9 (n := n) (by omega) hge).2, (dm9 (n := n) (by omega) hge).1]
      intro v2 ev2 v3 ev3
      subst ev2 ev3
      refine e_hasH (by omega) (fun hs => iz ?_) (fun hs => oi ?_)
      · rw [e0] at hs
        rw [if_neg (fun h9 => hs h9.1)] at hp; exact hp
      · refine e_hasH (by omega) (fun hs2 => iz ?_) (fun hs2 => oi ?_)
        · rw [e0] at hs2
          rw [if_neg (fun h9 => hs2 h9.2)] at hp; exact hp
        · obtain ⟨k9, -⟩ := lt_cl b0 (by omega) (by omega) hs
          obtain ⟨k92, -⟩ := lt_cl b0 (by omega) (by omega) hs2
          rw [e0] at hs hs2
          rw [if_pos ⟨hs, hs2⟩] at hp
          rw [jx9, nI_clamp (by omega)]
          refine ⟨vp_in_nI (by omega) (by omega), ?_⟩
          rw [f3 _ (by omega), show 51 + ((n - 60) / 9 * 9 + (n - 60) % 9) = 51 + 9 * ((n - 60) / 9) + (n - 60) % 9 by omega]
          exact hp
  · rw [if_neg (fun h9 => h1 (Int32.lt_iff_toInt_lt.mpr (by have := r_le h9.2; omega)))] at hp; exact hp
set_option maxRecDepth 40000 in
theorem e_x_land {T : TT} {M : Nat → Nat → Int32} {a b : Int32} {post : Int32 → Prop} (h : TM T M 0) (hB : tB T) (hp : post (AN_land M a b)) : q_wx_X10_land_0 (T.2 1) (T.1 3) (T.1 4) (T.1 5) (T.1 6) (T.1 7) (T.1 8) (T.1 9) (T.2 2) (T.2 3) (T.2 4) (T.2 7) (T.2 8) (T.2 9) (T.1 10) (T.1 11) (T.1 12) (T.1 13) (T.1 14) (T.1 15) (T.1 16) (T.2 10) (T.2 11) (T.2 12) (T.2 15) (T.2 16) (T.2 17) a b post := by
  unfold AN_land at hp
  rw [TM_cnt h 0 (by decide)] at hp
  refine e_at (hB.2.2.1 0) (fun (hn : ¬ (0 ≤ a ∧ a < T.2 1 0)) => ?_) (fun ea hl => ?_) (fun ea hl => ?_)
  · rw [if_neg hn] at hp
    exact ⟨fun _ => hp, fun h9 => absurd h9 (by decide), fun h9 => absurd rfl h9⟩
  · rw [if_pos (by rw [ea]; exact ⟨by decide, hl⟩), ea] at hp
    have hR : LDR (T.1 3) (T.1 4) (T.1 5) (T.1 6) (T.1 7) (T.1 8) (T.1 9) (T.2 2) (T.2 3) (T.2 4) (T.2 5) (T.2 6) (T.2 7) (T.2 8) (T.2 9) (rowM M 0 (nI 0)) := TM_sl h 0 0 (by decide) (by decide) hl
    exact ⟨fun h9 => absurd h9 (by decide), fun h9 => absurd h9 (by decide), fun _ _ => e_lk hR (hB.2.2.2.1) (hB.2.2.2.2.1) hp⟩
  · rw [if_pos (by rw [ea]; exact ⟨by decide, hl⟩), ea] at hp
    have hR : LDR (T.1 10) (T.1 11) (T.1 12) (T.1 13) (T.1 14) (T.1 15) (T.1 16) (T.2 10) (T.2 11) (T.2 12) (T.2 13) (T.2 14) (T.2 15) (T.2 16) (T.2 17) (rowM M 0 (nI 1)) := TM_sl h 0 1 (by decide) (by decide) hl
    exact ⟨fun h9 => absurd h9 (by decide), fun _ => e_lk hR (hB.2.2.2.2.2.2.2.2.2.1) (hB.2.2.2.2.2.2.2.2.2.2.1) hp, fun _ h9 => absurd rfl h9⟩
theorem e_of {M : Nat → Nat → Int32} {k i : Nat} {x : Int32} {post : Int32 → Prop} (hk : k < 2) (hi : i < 132) (hx : x = nI i) (hp : post (rowM M 0 (nI k) i)) : q_m_of_0 (M 5) (nI k) x post := by
  have e : (132 : Int32) * nI k + x = nI (132 * k + i) := by rw [hx, show (132 : Int32) = nI 132 from rfl, pk_mul, nI_add]
  refine ⟨by rw [e]; exact vp_in_nI (by omega) (by omega), ?_⟩
  rw [e, nI_clamp (by omega)]
  unfold rowM at hp
  rw [nI_clamp (by omega)] at hp
  exact hp
theorem e_hand {M : Nat → Nat → Int32} {ld hu si a : Int32} {post : Int32 → Int32 → Int32 → Int32 → Prop} (hc : iv 0 2 (M 4 0)) (h0 : ¬ (0 ≤ a ∧ a < M 4 0) → post 0 ld hu si) (h1 : ∀ k, k < 2 → a = nI k → 0 ≤ a ∧ a < M 4 0 → post 1 (nI k) (rowM M 0 (nI k) 0) (rowM M 0 (nI k) 1)) : q_m_hand_0 (M 4) (M 5) ld hu si a post := by
  refine e_is (o := 0) (by decide) hc (fun hn => zi (h0 hn)) (fun hy => io ?_)
  obtain ⟨k, hk, ea⟩ := lt_nI (m := 2) hc hy
  have g := h1 k hk ea hy
  subst ea
  exact e_of (i := 0) hk (by omega) rfl (e_of (i := 1) hk (by omega) rfl g)
theorem row_iv {M : Nat → Nat → Int32} {k j : Nat} (hL : mLand (M 5)) (hk : k < 2) (hj : j < 132) : iv 0 (mRh j) (rowM M 0 (nI k) j) := by
  unfold rowM
  rw [nI_clamp (by omega)]
  exact hL.1 k j (by omega) hj
theorem e_isH {c : Int32} {k : Nat} {post : Int32 → Prop} (hk : k < 1000) (hc : iv 0 1000 c) (h0 : ¬ nI k < c → post 0) (h1 : nI k < c → post 1) : q_m_isHut_0 c (nI k) post :=
  sp_in (fun h => ⟨rfl, h0 (fun h9 => h ((in_lt hc).mpr ⟨nI_pos' (by omega), h9⟩))⟩) (fun a b => ⟨rfl, h1 ((in_lt hc).mp ⟨a, b⟩).2⟩)
theorem e_isS {c : Int32} {k : Nat} {post : Int32 → Prop} (hk : k < 1000) (hc : iv 0 1000 c) (h0 : ¬ nI k < c → post 0) (h1 : nI k < c → post 1) : q_m_isSinger_0 c (nI k) post :=
  sp_in (fun h => ⟨rfl, h0 (fun h9 => h ((in_lt hc).mpr ⟨nI_pos' (by omega), h9⟩))⟩) (fun a b => ⟨rfl, h1 ((in_lt hc).mp ⟨a, b⟩).2⟩)
set_option maxRecDepth 40000 in
theorem e_m_echo {M : Nat → Nat → Int32} {cd ld hu si a b c : Int32} {post : Int32 → Int32 → Int32 → Int32 → Int32 → Prop} (hcnt : iv 0 2 (M 4 0)) (hL : mLand (M 5)) (hp : ∀ x y z, post (AN_echo M a b c) 0 x y z) : q_m_echo_0 cd (M 4) (M 5) ld hu si a b c post := by
  unfold AN_echo at hp
  refine e_hand hcnt (fun hn => iz ?_) (fun k hk ea hy => oi ?_)
  · rw [if_neg hn] at hp; exact hp _ _ _
  · rw [if_pos hy, ea] at hp
    have h4 : iv 0 4 (rowM M 0 (nI k) 4) := row_iv hL hk (by omega)
    have il := in_lt (x := b) (iv_w h4 (by decide) : iv 0 1000 (rowM M 0 (nI k) 4))
    unfold Fec at hp
    refine e_of (i := 4) hk (by omega) rfl (sp_in (fun h => iz ?_) (fun h1 h2 => oi (sp_in (fun h => iz ?_) (fun h3 h5 => oi ?_))))
    · rw [if_neg (fun h9 => h (il.mpr h9.1))] at hp; exact hp _ _ _
    · rw [if_neg (fun h9 => h h9.2)] at hp; exact hp _ _ _
    · rw [if_pos ⟨il.mp ⟨h1, h2⟩, h3, h5⟩] at hp
      obtain ⟨j, hj, eb⟩ := lt_nI (m := 4) h4 (il.mp ⟨h1, h2⟩)
      obtain ⟨i, hi, ec⟩ := nI_of2 (M := 1) (n := 1) (by decide) (Int32.not_lt.mpr h3) h5
      rw [eb, ec, nI_clamp (by omega), nI_clamp (by omega)] at hp
      rw [eb, ec]
      exact e_of (i := 43 + 2 * j + i) hk (by omega) (jx2 43 2 j i) (hp _ _ _)
theorem neg10 {x : Int32} (h : x < 0) : (x / 10).toInt < 1 := by
  have hx := r_lt h
  have e0 : (0 : Int32).toInt = 0 := rfl
  have e10 : (10 : Int32).toInt = 10 := rfl
  have hb := iv_top x
  rw [Int32.toInt_div, e10]
  have e1 : x.toInt.tdiv 10 = -((-x.toInt) / 10) := by
    rw [show x.toInt = -(-x.toInt) by omega, Int.neg_tdiv, Int.tdiv_eq_ediv_of_nonneg (by omega)]
    rw [show - -(-x.toInt) = -x.toInt by omega]
  have := hb.1
  rw [e1, Int.bmod_eq_of_le (by omega) (by omega)]
  omega
set_option maxRecDepth 40000 in
theorem e_m_land {M : Nat → Nat → Int32} {cd ld hu si a w : Int32} {post : Int32 → Int32 → Int32 → Int32 → Int32 → Prop} (hcnt : iv 0 2 (M 4 0)) (hL : mLand (M 5)) (hp : ∀ x y z, post (AN_land M a w) 0 x y z) : q_m_land_0 cd (M 4) (M 5) ld hu si a w post := by
  unfold AN_land at hp
  refine e_hand hcnt (fun hn => zi ?_) (fun k hk ea hy => io ?_)
  · rw [if_neg hn] at hp; exact hp _ _ _
  · rw [if_pos hy, ea] at hp
    have h0 : iv 0 1000 (rowM M 0 (nI k) 0) := iv_w (row_iv hL hk (by omega)) (by decide)
    have h1 : iv 0 1000 (rowM M 0 (nI k) 1) := iv_w (row_iv hL hk (by omega)) (by decide)
    have b0 : iv 0 (9 : Nat) (rowM M 0 (nI k) 0) := row_iv hL hk (by omega)
    have b1 : iv 0 (6 : Nat) (rowM M 0 (nI k) 1) := row_iv hL hk (by omega)
    have e60 : (60 : Int32).toInt = 60 := rfl
    have e140 : (140 : Int32).toInt = 140 := rfl
    have e0 : (0 : Int32).toInt = 0 := rfl
    have e6 : (6 : Int32).toInt = 6 := rfl
    -- the tail of the switch: nothing of 1 .. 5
    have dflt : (∀ x y z, post (if 0 ≤ w ∧ w ≤ 6 then rowM M 0 (nI k) w.toNatClampNeg else -1) 0 x y z) → q_m_in_0 w 0 6 (fun r_3 => (r_3 = 0 → post (-1) 0 (nI k) (rowM M 0 (nI k) 0) (rowM M 0 (nI k) 1)) ∧ (¬ r_3 = 0 → q_m_of_0 (M 5) (nI k) w (fun r_4 => post r_4 0 (nI k) (rowM M 0 (nI k) 0) (rowM M 0 (nI k) 1)))) := by
      intro hq
      refine sp_in (fun h => iz ?_) (fun g1 g2 => oi ?_)
      · rw [if_neg h] at hq; exact hq _ _ _
      · rw [if_pos ⟨g1, g2⟩] at hq
        obtain ⟨i, hi, ei⟩ := nI_of2 (M := 6) (n := 6) (by decide) (Int32.not_lt.mpr g1) g2
        rw [ei, nI_clamp (by omega)] at hq
        exact e_of (i := i) hk (by omega) ei (hq _ _ _)
    refine sp_in (fun hnin => iz (fun v ev => ?_)) (fun g1 g2 => oi (fun v2 ev2 v3 ev3 => ?_))
    · by_cases hneg : w < 0
      · have hd := neg10 hneg
        have nd : ∀ m : Int32, 1 ≤ m.toInt → ¬ w / 10 = m := fun m hm h9 => by rw [h9] at hd; omega
        rw [if_neg (fun h9 => absurd hneg (Int32.not_lt.mpr h9.1))] at hp
        refine ⟨fun _ => dflt (by rw [if_neg (fun h9 => absurd hneg (Int32.not_lt.mpr h9.1))]; exact hp), fun h9 => absurd h9 (nd _ (by decide)), fun h9 => absurd h9 (nd _ (by decide)), fun h9 => absurd h9 (nd _ (by decide)), fun h9 => absurd h9 (nd _ (by decide)), fun h9 => absurd h9 (nd _ (by decide))⟩
      · obtain ⟨n, hn, rfl⟩ := nI_of hneg
        have q1 : nI n / 10 = nI (n / 10) := pk_div (d := 10) (by omega) (by omega) (by omega)
        have q2 : nI n - nI n / 10 * 10 = nI (n % 10) := pk_rem (d := 10) (by omega) (by omega) (by omega)
        rw [q2] at ev
        subst ev
        rw [q1]
        have hr : n < 60 ∨ 140 < n := by
          by_cases hh : n < 60
          · exact Or.inl hh
          · right
            refine Nat.lt_of_not_le (fun h9 => hnin ⟨Int32.le_iff_toInt_le.mpr ?_, Int32.le_iff_toInt_le.mpr ?_⟩)
            · rw [nI_toInt hn]; omega
            · rw [nI_toInt hn]; omega
        have vd : ∀ m : Nat, m < 100 → nI (n / 10) = nI m → n / 10 = m := fun m hm h9 => (nI_eq (by omega) (by omega)).mp h9
        rcases hr with hr | hr
        · rw [if_pos ⟨nI_pos' (by omega), nI_le (b := 140) (by omega) (by omega)⟩, nI_clamp hn] at hp
          unfold FL at hp
          rw [if_neg (show ¬ 60 ≤ n by omega)] at hp
          refine ⟨fun h9 => dflt ?_, fun h9 => ?_, fun h9 => ?_, fun h9 => ?_, fun h9 => ?_, fun h9 => ?_⟩
          · rw [nI_toInt (by omega)] at h9
            rw [if_neg (show ¬ n / 10 = 1 by omega), if_neg (show ¬ n / 10 = 2 by omega), if_neg (show ¬ n / 10 = 3 by omega), if_neg (show ¬ n / 10 = 4 by omega), if_neg (show ¬ n / 10 = 5 by omega)] at hp
            by_cases h6 : n ≤ 6
            · rw [if_pos ⟨nI_pos' (by omega), nI_le (b := 6) (by omega) (by omega)⟩, nI_clamp hn]
              rw [if_pos h6] at hp
              exact hp
            · rw [if_neg (fun h8 => h6 (by have := r_le h8.2; rw [nI_toInt hn] at this; omega))]
              rw [if_neg h6] at hp
              exact hp
          · have q := vd 1 (by omega) h9
            rw [if_pos q] at hp
            refine e_isH (by omega) h0 (fun hs => iz ?_) (fun hs => oi ?_)
            · rw [if_neg hs] at hp; exact hp _ _ _
            · rw [if_pos hs] at hp
              exact e_of (i := 7 + n % 10) hk (by omega) (jx 7 (n % 10)) (hp _ _ _)
          · have q := vd 2 (by omega) h9
            rw [if_neg (show ¬ n / 10 = 1 by omega), if_pos q] at hp
            refine e_isH (by omega) h0 (fun hs => iz ?_) (fun hs => oi ?_)
            · rw [if_neg hs] at hp; exact hp _ _ _
            · rw [if_pos hs] at hp
              exact e_of (i := 16 + n % 10) hk (by omega) (jx 16 (n % 10)) (hp _ _ _)
          · have q := vd 3 (by omega) h9
            rw [if_neg (show ¬ n / 10 = 1 by omega), if_neg (show ¬ n / 10 = 2 by omega), if_pos q] at hp
            refine e_isS (by omega) h1 (fun hs => iz ?_) (fun hs => oi ?_)
            · rw [if_neg hs] at hp; exact hp _ _ _
            · rw [if_pos hs] at hp
              exact e_of (i := 25 + n % 10) hk (by omega) (jx 25 (n % 10)) (hp _ _ _)
          · have q := vd 4 (by omega) h9
            rw [if_neg (show ¬ n / 10 = 1 by omega), if_neg (show ¬ n / 10 = 2 by omega), if_neg (show ¬ n / 10 = 3 by omega), if_pos q] at hp
            refine e_isS (by omega) h1 (fun hs => iz ?_) (fun hs => oi ?_)
            · rw [if_neg hs] at hp; exact hp _ _ _
            · rw [if_pos hs] at hp
              exact e_of (i := 31 + n % 10) hk (by omega) (jx 31 (n % 10)) (hp _ _ _)
          · have q := vd 5 (by omega) h9
            rw [if_neg (show ¬ n / 10 = 1 by omega), if_neg (show ¬ n / 10 = 2 by omega), if_neg (show ¬ n / 10 = 3 by omega), if_neg (show ¬ n / 10 = 4 by omega), if_pos q] at hp
            refine e_isS (by omega) h1 (fun hs => iz ?_) (fun hs => oi ?_)
            · rw [if_neg hs] at hp; exact hp _ _ _
            · rw [if_pos hs] at hp
              exact e_of (i := 37 + n % 10) hk (by omega) (jx 37 (n % 10)) (hp _ _ _)
        · have nle : ¬ (0 ≤ nI n ∧ nI n ≤ 140) := fun h8 => by have := r_le h8.2; rw [nI_toInt hn] at this; omega
          rw [if_neg nle] at hp
          have nd : ∀ m : Nat, m < 14 → ¬ nI (n / 10) = nI m := fun m hm h9 => by have := vd m (by omega) h9; omega
          refine ⟨fun _ => dflt (by rw [if_neg (fun h8 => by have := r_le h8.2; rw [nI_toInt hn] at this; omega)]; exact hp), fun h9 => absurd h9 (nd 1 (by omega)), fun h9 => absurd h9 (nd 2 (by omega)), fun h9 => absurd h9 (nd 3 (by omega)), fun h9 => absurd h9 (nd 4 (by omega)), fun h9 => absurd h9 (nd 5 (by omega))⟩
    · obtain ⟨n, hn, rfl⟩ := nI_of (x := w) (fun h9 => by have := r_lt h9; have := r_le g1; omega)
      have hge : 60 ≤ n := by have := r_le g1; rw [nI_toInt hn] at this; omega
      have hle : n ≤ 140 := by have := r_le g2; rw [nI_toInt hn] at this; omega
      rw [(dm9 (n := n) (by omega) hge).1] at ev2
      rw [(dm9 (n := n) (by omega) hge).2] at ev3
      subst ev2 ev3
      rw [if_pos ⟨nI_pos' (by omega), nI_le (b := 140) (by omega) (by omega)⟩, nI_clamp hn] at hp
      unfold FL at hp
      rw [if_pos hge] at hp
      refine e_isH (by omega) h0 (fun hs => iz ?_) (fun hs => oi (e_isH (by omega) h0 (fun hs2 => iz ?_) (fun hs2 => oi ?_)))
      · rw [if_neg (fun h9 => hs h9.1)] at hp; exact hp _ _ _
      · rw [if_neg (fun h9 => hs2 h9.2)] at hp; exact hp _ _ _
      · rw [if_pos ⟨hs, hs2⟩] at hp
        obtain ⟨k9, -⟩ := lt_cl b0 (by omega) (by omega) hs
        obtain ⟨k92, -⟩ := lt_cl b0 (by omega) (by omega) hs2
        exact e_of (i := 51 + 9 * ((n - 60) / 9) + (n - 60) % 9) hk (by omega) (ix9 _ _) (hp _ _ _)
end
