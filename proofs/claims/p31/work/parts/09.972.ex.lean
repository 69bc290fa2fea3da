section
theorem e_put {t : Nat → Int32} {n : Nat} {v : Int32} {post : (Nat → Int32) → Int32 → Prop} (hn : n + 4 ≤ 600) (ht : ∀ j, iv (-128) 127 (t j)) (h : ∀ t', (∀ j, iv (-128) 127 (t' j)) → post t' (nI (n + 4))) : q_wx_X9_put_0 t (nI n) v post := by
  intro P hP
  have st : ∀ (x y : Int32) (t : Nat → Int32) (m : Nat), ¬ x < 0 → y = x + -8 → m + 1 ≤ 600 → (∀ j, iv (-128) 127 (t j)) → (∀ t', (∀ j, iv (-128) 127 (t' j)) → P y t' (nI (m + 1))) → P x t (nI m) := by
    intro x y t m h1 h2 h3 h4 h5
    apply hP
    refine ⟨fun h => absurd h h1, fun _ => ⟨fun h => absurd h (nI_ge (b := 600) (by omega) (by omega)), fun _ v1 e1 => ⟨vp_in_nI (by omega) (by omega), fun t1 e2 v2 e3 v3 e5 => ?_⟩⟩⟩
    rw [e3, nI_1, e5, ← h2]
    exact h5 t1 (iv_updB e2 h4)
  refine st 24 16 _ n (by decide) (by decide) (by omega) ht fun t1 d1 => ?_
  refine st 16 8 _ (n + 1) (by decide) (by decide) (by omega) d1 fun t2 d2 => ?_
  refine st 8 0 _ (n + 2) (by decide) (by decide) (by omega) d2 fun t3 d3 => ?_
  refine st 0 (-8) _ (n + 3) (by decide) (by decide) (by omega) d3 fun t4 d4 => ?_
  apply hP
  exact ⟨fun _ => h t4 d4, fun h => absurd (by decide) h⟩
theorem e_len {n : Nat} (hn : n ≤ 600) : (nI n + (20 : Int32) ≤ (600 : Int32)) ↔ n + 20 ≤ 600 := by
  rw [show (20 : Int32) = nI 20 from rfl, show (600 : Int32) = nI 600 from rfl, nI_add]
  exact nI_leI (by omega) (by omega)
/-- what feed answers, and the length behind it -/
def feR (n : Int32) : Int32 := if n + 20 ≤ 600 then n + 20 else -1
def feL (n : Int32) : Int32 := if n + 20 ≤ 600 then n + 20 else n
def enR (n x : Int32) : Int32 := if 0 ≤ x ∧ x ≤ n then x else -1
def enL (n x : Int32) : Int32 := if 0 ≤ x ∧ x ≤ n then x else n
theorem e_x_feed {ta_tape : Nat → Int32} {tf_length x1 x2 x3 x4 x5 : Int32} {post : Int32 → (Nat → Int32) → Int32 → Prop} (k_ta_tape : ∀ j, iv (-128) 127 (ta_tape j)) (k_tf_length : iv 0 600 tf_length) (hpost : ∀ (t : Nat → Int32), (∀ j, iv (-128) 127 (t j)) → iv 0 600 (feL tf_length) → post (feR tf_length) t (feL tf_length)) : q_wx_X10_feed_0 ta_tape tf_length x1 x2 x3 x4 x5 post := by
  obtain ⟨n, rfl, -, hn6, hn2⟩ := iv_nI k_tf_length (by omega)
  have hn : n ≤ 600 := by omega
  unfold feR feL at hpost
  refine ⟨fun hc => ?_, fun hc => ?_⟩
  · have hle := (e_len hn).mp hc
    rw [if_pos hc, if_pos hc] at hpost
    have e20 : nI n + (20 : Int32) = nI (n + 20) := nI_add n 20
    rw [e20] at hpost
    refine e_put (by omega) k_ta_tape fun t1 d1 => ?_
    refine e_put (n := n + 4) (by omega) d1 fun t2 d2 => ?_
    refine e_put (n := n + 4 + 4) (by omega) d2 fun t3 d3 => ?_
    refine e_put (n := n + 4 + 4 + 4) (by omega) d3 fun t4 d4 => ?_
    refine e_put (n := n + 4 + 4 + 4 + 4) (by omega) d4 fun t5 d5 => ?_
    exact hpost t5 d5 (iv_ofN (by omega) (by omega) (by omega))
  · rw [if_neg hc, if_neg hc] at hpost
    exact hpost ta_tape k_ta_tape k_tf_length
theorem e_x_end {tf_length x1 : Int32} {post : Int32 → Int32 → Prop} (k_tf_length : iv 0 600 tf_length) (hpost : iv 0 600 (enL tf_length x1) → post (enR tf_length x1) (enL tf_length x1)) : q_wx_X10_end_0 tf_length x1 post := by
  unfold enL enR at hpost
  refine ⟨fun h => ?_, fun h => ⟨fun h2 => ?_, fun h2 => ?_⟩⟩
  · have hn : ¬ (0 ≤ x1 ∧ x1 ≤ tf_length) := fun h9 => absurd h (Int32.not_lt.mpr h9.1)
    rw [if_neg hn, if_neg hn] at hpost
    exact hpost k_tf_length
  · have hn : 0 ≤ x1 ∧ x1 ≤ tf_length := ⟨Int32.not_lt.mp h, h2⟩
    rw [if_pos hn, if_pos hn] at hpost
    refine hpost ⟨?_, Int.le_trans (Int32.le_iff_toInt_le.mp h2) k_tf_length.2⟩
    exact Int32.le_iff_toInt_le.mp hn.1
  · have hn : ¬ (0 ≤ x1 ∧ x1 ≤ tf_length) := fun h9 => h2 h9.2
    rw [if_neg hn, if_neg hn] at hpost
    exact hpost k_tf_length
theorem e_four {t z : Nat → Int32} {s : Nat} {v : Int32} {post : (Nat → Int32) → (Nat → Int32) → Prop} (hs : z 0 = nI s) (h4 : s + 4 ≤ 600) (hz : ∀ j, iv 0 600 (z j)) (ht : ∀ j, iv (-128) 127 (t j)) (h : ∀ t' z', z' 0 = nI (s + 4) → (∀ j, ¬ j = 0 → z' j = z j) → (∀ j, iv 0 600 (z' j)) → (∀ j, iv (-128) 127 (t' j)) → post t' z') : q_m_four_0 t z v post := by
  intro P hP
  have st : ∀ (x y : Int32) (t z : Nat → Int32) (m : Nat), ¬ x < 0 → y = x + -8 → z 0 = nI m → m + 1 ≤ 600 → (∀ j, iv 0 600 (z j)) → (∀ j, iv (-128) 127 (t j)) → (∀ t' z', z' 0 = nI (m + 1) → (∀ j, ¬ j = 0 → z' j = z j) → (∀ j, iv 0 600 (z' j)) → (∀ j, iv (-128) 127 (t' j)) → P y t' z') → P x t z := by
    intro x y t z m h1 h2 h3 h4 h5 h6 h7
    apply hP
    refine ⟨fun h => absurd h h1, fun _ v1 e1 => ?_⟩
    rw [c_0, h3]
    refine ⟨vp_in_nI (by omega) (by omega), fun t1 e2 v2 e3 z1 e4 v3 e5 => ?_⟩
    rw [nI_1] at e3
    rw [e5, ← h2]
    refine h7 t1 z1 ?_ ?_ (iv_upd e4 h5 (by rw [e3]; exact iv_ofN (by omega) (by omega) (by omega))) (iv_updB e2 h6)
    · rw [e4, e3]; exact up_s
    · intro j hj
      rw [e4]
      exact up_n hj
  refine st 24 16 _ _ s (by decide) (by decide) hs (by omega) hz ht fun t1 z1 a1 n1 b1 d1 => ?_
  refine st 16 8 _ _ (s + 1) (by decide) (by decide) a1 (by omega) b1 d1 fun t2 z2 a2 n2 b2 d2 => ?_
  refine st 8 0 _ _ (s + 2) (by decide) (by decide) a2 (by omega) b2 d2 fun t3 z3 a3 n3 b3 d3 => ?_
  refine st 0 (-8) _ _ (s + 3) (by decide) (by decide) a3 (by omega) b3 d3 fun t4 z4 a4 n4 b4 d4 => ?_
  apply hP
  exact ⟨fun _ => h t4 z4 a4 (fun j hj => by rw [n4 j hj, n3 j hj, n2 j hj, n1 j hj]) b4 d4, fun h => absurd (by decide) h⟩
theorem e_m_feed {f_code : Int32} {a_tape a_size : Nat → Int32} {x1 x2 x3 x4 x5 : Int32} {post : Int32 → Int32 → (Nat → Int32) → (Nat → Int32) → Prop} (k_a_tape : ∀ j, iv (-128) 127 (a_tape j)) (k_a_size : ∀ j, iv 0 600 (a_size j)) (hpost : ∀ (t z : Nat → Int32), (∀ j, iv (-128) 127 (t j)) → (∀ j, iv 0 600 (z j)) → z 0 = feL (a_size 0) → (∀ j, ¬ j = 0 → z j = a_size j) → post (feR (a_size 0)) 0 t z) : q_m_feed_0 f_code a_tape a_size x1 x2 x3 x4 x5 post := by
  unfold feR feL at hpost
  refine ⟨fun hc => ?_, fun hc => ?_⟩
  · rw [c_0] at hc
    obtain ⟨s, hs, -, hs6, hs2⟩ := iv_nI (k_a_size 0) (by omega)
    rw [if_pos hc, if_pos hc] at hpost
    rw [hs] at hc hpost
    have hle : s + 20 ≤ 600 := (e_len (by omega)).mp hc
    have e20 : nI s + (20 : Int32) = nI (s + 20) := nI_add s 20
    rw [e20] at hpost
    refine e_four hs (by omega) k_a_size k_a_tape fun t1 z1 a1 n1 b1 d1 => ?_
    refine e_four a1 (by omega) b1 d1 fun t2 z2 a2 n2 b2 d2 => ?_
    refine e_four a2 (by omega) b2 d2 fun t3 z3 a3 n3 b3 d3 => ?_
    refine e_four a3 (by omega) b3 d3 fun t4 z4 a4 n4 b4 d4 => ?_
    refine e_four a4 (by omega) b4 d4 fun t5 z5 a5 n5 b5 d5 => ?_
    have h9 := hpost t5 z5 d5 b5 a5 (fun j hj => by rw [n5 j hj, n4 j hj, n3 j hj, n2 j hj, n1 j hj])
    rw [c_0, a5]
    exact h9
  · rw [c_0] at hc
    rw [if_neg hc, if_neg hc] at hpost
    exact hpost a_tape a_size k_a_tape k_a_size rfl (fun _ _ => rfl)
theorem e_m_end {f_code : Int32} {a_size : Nat → Int32} {x1 : Int32} {post : Int32 → Int32 → (Nat → Int32) → Prop} (k_a_size : ∀ j, iv 0 600 (a_size j)) (hpost : ∀ (z : Nat → Int32), (∀ j, iv 0 600 (z j)) → z 0 = enL (a_size 0) x1 → (∀ j, ¬ j = 0 → z j = a_size j) → post (enR (a_size 0) x1) 0 z) : q_m_end_0 f_code a_size x1 post := by
  unfold enR enL at hpost
  refine sp_in (fun h => zi ?_) (fun h1 h2 => io (fun z e => ?_))
  · rw [c_0] at h
    rw [if_neg h, if_neg h] at hpost
    exact hpost a_size k_a_size rfl (fun _ _ => rfl)
  · rw [c_0] at h2 e
    rw [if_pos ⟨h1, h2⟩, if_pos ⟨h1, h2⟩] at hpost
    refine hpost z (iv_upd e k_a_size ⟨Int32.le_iff_toInt_le.mp h1, Int.le_trans (Int32.le_iff_toInt_le.mp h2) (k_a_size 0).2⟩) (by rw [e]; exact up_s) (fun j hj => by rw [e]; exact up_n hj)
theorem e_m_text {f_code : Int32} {a_tape : Nat → Int32} {a_size a0 : Nat → Int32} {a_fault : Nat → Int32} {a_faultPlace : Nat → Int32} {a_many : Nat → Int32} {a_lands : Nat → Int32} {a_evenings : Nat → Int32} {a_sights : Nat → Int32} {a_choirs : Nat → Int32} {f_reached : Int32} {f_length : Int32} {f_begins : Int32} {f_sort : Int32} {f_value : Int32} {f_word : Int64} {f_wrongAt : Int32} {f_laterFault : Int32} {f_laterPlace : Int32} {a_told : Nat → Int32} {a_read : Nat → Int32} {f_farHut : Int32} {f_farSinger : Int32} {f_good : Int32} {x1 : Int32} {x2 : Int32} {post : Int32 → (Int32) → (Nat → Int32) → (Nat → Int32) → (Nat → Int32) → (Nat → Int32) → (Nat → Int32) → (Nat → Int32) → (Nat → Int32) → (Nat → Int32) → (Int32) → (Int32) → (Int32) → (Int32) → (Int32) → (Int64) → (Int32) → (Int32) → (Int32) → (Nat → Int32) → (Nat → Int32) → (Int32) → (Int32) → (Int32) → Prop} (ha0 : a_size = a0) (k_f_code : iv 0 0 f_code) (k_a_tape : ∀ j, iv (-128) 127 (a_tape j)) (k_a_size : ∀ j, iv 0 600 (a_size j)) (k_a_many : ∀ j, iv 0 2 (a_many j)) (k_a_lands : mLand a_lands) (k_a_evenings : mEve a_evenings) (k_a_sights : mSig a_sights) (k_a_choirs : mCho a_choirs) (hpost : ∀ (r : Int32) (f_code : Int32) (a_size : Nat → Int32) (a_fault : Nat → Int32) (a_faultPlace : Nat → Int32) (a_many : Nat → Int32) (a_lands : Nat → Int32) (a_evenings : Nat → Int32) (a_sights : Nat → Int32) (a_choirs : Nat → Int32) (f_reached : Int32) (f_length : Int32) (f_begins : Int32) (f_sort : Int32) (f_value : Int32) (f_word : Int64) (f_wrongAt : Int32) (f_laterFault : Int32) (f_laterPlace : Int32) (a_told : Nat → Int32) (a_read : Nat → Int32) (f_farHut : Int32) (f_farSinger : Int32) (f_good : Int32), (a_size 0 = 0) → (∀ j, ¬ j = 0 → a_size j = a0 j) → (iv 0 0 f_code) → (∀ j, iv 0 600 (a_size j)) → (∀ j, iv 0 2 (a_many j)) → (mLand a_lands) → (mEve a_evenings) → (mSig a_sights) → (mCho a_choirs) → post r f_code a_size a_fault a_faultPlace a_many a_lands a_evenings a_sights a_choirs f_reached f_length f_begins f_sort f_value f_word f_wrongAt f_laterFault f_laterPlace a_told a_read f_farHut f_farSinger f_good) : q_m_text_0 f_code a_tape a_size a_fault a_faultPlace a_many a_lands a_evenings a_sights a_choirs f_reached f_length f_begins f_sort f_value f_word f_wrongAt f_laterFault f_laterPlace a_told a_read f_farHut f_farSinger f_good x1 x2 post := by
  subst ha0
  intro vl el z ez fa ef fp ep
  have y1 : z 0 = 0 := by rw [ez, c_0]; exact up_s
  have y2 : ∀ j, ¬ j = 0 → z j = a_size j := fun j hj => by rw [ez, c_0]; exact up_n hj
  have hz : ∀ j, iv 0 600 (z j) := iv_upd ez k_a_size (iv_lit (by decide))
  have hvl : iv 0 600 vl := iv_eq el (k_a_size _)
  obtain ⟨n, rfl, -, hn, hn2⟩ := iv_nI hvl (by omega)
  refine sp_in (fun _ => iz (hpost _ _ _ _ _ _ _ _ _ _ _ _ _ _ _ _ _ _ _ _ _ _ _ _ y1 y2 (iv_lit (by decide)) hz k_a_many k_a_lands k_a_evenings k_a_sights k_a_choirs)) (fun a1 a2 => oi ?_)
  obtain ⟨o, rfl, -, ho, ho2⟩ := iv_nI (iv_of (l := 0) (h := 3) rfl rfl a1 a2) (by omega)
  have hx : vp_in (nI o) 16 := vp_in_nI (by omega) (by omega)
  rw [nI_clamp (by omega)]
  have hmo := k_a_many o
  have k75 : (x2 = -1 → ¬ a_many o = 2) → (¬ x2 = -1 → ∃ K, K ≤ 1 ∧ x2 = nI K) → q_m_text_75 0 a_tape z fa fp a_many a_lands a_evenings a_sights a_choirs f_reached (nI n) f_begins f_sort f_value f_word f_wrongAt f_laterFault f_laterPlace a_told a_read f_farHut f_farSinger f_good (nI o) x2 post := by
    intro q1 q2
    refine sp_readTextT (by omega) (by omega) (fun _ _ _ _ _ _ _ _ _ _ _ _ _ _ _ => zi (hpost _ _ _ _ _ _ _ _ _ _ _ _ _ _ _ _ _ _ _ _ _ _ _ _ y1 y2 (iv_lit (by decide)) hz k_a_many k_a_lands k_a_evenings k_a_sights k_a_choirs)) (fun fa fp re be so va wd wr lf lp told rd fh fs gd hok => io ?_)
    have k118 : ∀ (k : Nat) (y : Int32), k ≤ 1 → iv 0 2 (a_many o + y) → q_m_text_118 0 a_tape z fa fp a_many a_lands a_evenings a_sights a_choirs re (nI n) be so va wd wr lf lp told rd fh fs gd (nI o) (nI k) (nI o) (a_many o) y post := by
      intro k y hk hy v1 e1
      refine ⟨hx, fun m1 em => ?_⟩
      refine sp_storeAllT (by omega) hk k_a_lands k_a_evenings k_a_sights k_a_choirs hok (fun l e s c h1 h2 h3 h4 => hpost _ _ _ _ _ _ _ _ _ _ _ _ _ _ _ _ _ _ _ _ _ _ _ _ y1 y2 (iv_lit (by decide)) hz (iv_upd em k_a_many (iv_eq e1 hy)) h1 h2 h3 h4)
    have y0 : iv 0 2 (a_many o + 0) := iv_add hmo (iv_lit (l := 0) (h := 0) (by decide)) (by decide)
    refine ⟨fun h => ?_, fun h => ⟨hx, ?_⟩⟩
    · obtain ⟨K, hK, rfl⟩ := q2 h
      refine ⟨hx, fun _ => ?_, fun h9 => absurd h9 h⟩
      rw [nI_clamp (by omega)]
      exact k118 K 0 hK y0
    · have hm1 : iv 0 1 (a_many o) := iv_ne (q1 h) hmo (iv_lit (l := 2) (h := 2) (by decide)) (by decide)
      obtain ⟨K, hKe, -, hK, hK2⟩ := iv_nI hm1 (by omega)
      refine ⟨hx, fun h9 => absurd h h9, fun _ => ?_⟩
      rw [nI_clamp (by omega)]
      have h9 := k118 K 1 (by omega) (iv_add hm1 (iv_lit (l := 1) (h := 1) (by decide)) (by decide))
      rw [← hKe] at h9
      exact h9
  refine ⟨fun hne => ?_, fun hm => ⟨hx, fun h2 => k75 (fun _ => h2) (fun h => absurd hm h), fun _ => hpost _ _ _ _ _ _ _ _ _ _ _ _ _ _ _ _ _ _ _ _ _ _ _ _ y1 y2 (iv_lit (by decide)) hz k_a_many k_a_lands k_a_evenings k_a_sights k_a_choirs⟩⟩
  refine ⟨hx, ?_⟩
  rw [nI_clamp (by omega)]
  refine sp_in (fun _ => ⟨rfl, zi (hpost _ _ _ _ _ _ _ _ _ _ _ _ _ _ _ _ _ _ _ _ _ _ _ _ y1 y2 (iv_lit (by decide)) hz k_a_many k_a_lands k_a_evenings k_a_sights k_a_choirs)⟩) (fun g1 g2 => ⟨rfl, io (k75 (fun h => absurd h hne) (fun _ => ?_))⟩)
  have hxx : iv 0 1 x2 := iv_lea (r_le g2) (iv_leb (l := 0) (h := 2147483647) (r_le g1) (iv_lit (l := 0) (h := 0) (by decide)) (iv_top x2) (by decide)) (iv_sub (l := -1) (h := 1) hmo (iv_lit (l := 1) (h := 1) (by decide)) (by decide)) (by decide)
  obtain ⟨K, hKe, -, hK, hK2⟩ := iv_nI hxx (by omega)
  exact ⟨K, by omega, hKe⟩

theorem cp_at {a a' : Nat → Int32} {f g : Nat} (h : ∀ i, i < 1 → a' (1 * g + i) = a (1 * f + i)) : a' g = a f := by
  have := h 0 (by omega)
  rw [Nat.one_mul, Nat.one_mul, Nat.add_zero, Nat.add_zero] at this
  exact this
theorem cp_ne {a a' : Nat → Int32} {g : Nat} (h : ∀ j, j < 1 * g ∨ 1 * g + 1 ≤ j → a' j = a j) : ∀ j, ¬ j = g → a' j = a j := fun j hj => h j (by omega)
theorem e_copyAll {t z fa fp mn l e s c : Nat → Int32} {f g : Nat} {post : (Nat → Int32) → (Nat → Int32) → (Nat → Int32) → (Nat → Int32) → (Nat → Int32) → (Nat → Int32) → (Nat → Int32) → (Nat → Int32) → (Nat → Int32) → Prop} (hf : f ≤ 3) (hg : g ≤ 3) (hne : ¬ f = g) (ht : ∀ j, iv (-128) 127 (t j)) (hz : ∀ j, iv 0 600 (z j)) (hm : ∀ j, iv 0 2 (mn j)) (hl : mLand l) (he : mEve e) (hs : mSig s) (hc : mCho c)
    (h : ∀ t z1 fa fp mn l e s c, z1 g = z f → (∀ j, ¬ j = g → z1 j = z j) → (∀ j, iv (-128) 127 (t j)) → (∀ j, iv 0 600 (z1 j)) → (∀ j, iv 0 2 (mn j)) → mLand l → mEve e → mSig s → mCho c → post t z1 fa fp mn l e s c) : q_m_copyAll_0 t z fa fp mn l e s c (nI f) (nI g) post := by
  intro P hP
  have ef : (600 : Int32) * nI f = nI (600 * f) := pk_mul 600 f
  have eg : (600 : Int32) * nI g = nI (600 * g) := pk_mul 600 g
  have loop : ∀ (n i : Nat) (t : Nat → Int32), n + i = 600 → (∀ j, iv (-128) 127 (t j)) → P (nI i) t := by
    intro n
    induction n with
    | zero =>
      intro i t hi ht
      apply hP
      refine ⟨fun _ => ?_, fun h2 => absurd (nI_le (a := 600) (by omega) (by omega)) h2⟩
      exact sp_row2E hf hg hne fun z' z1 z2 => sp_row3E hf hg hne fun _ _ _ => sp_row4E hf hg hne fun _ _ _ => sp_row5E hf hg hne fun m' m1 m2 => sp_row6E hf hg hne fun l' l1 l2 => sp_row7E hf hg hne fun e' e1 e2 => sp_row8E hf hg hne fun s' s1 s2 => sp_row9E hf hg hne fun c' c1 c2 => h _ _ _ _ _ _ _ _ _ (cp_at z1) (cp_ne z2) ht (cp_any hz z1 z2) (cp_any hm m1 m2) (cp_L hf hg hl l1 l2) (cp_E hf hg he e1 e2) (cp_S hf hg hs s1 s2) (cp_C hf hg hc c1 c2)
    | succ n ih =>
      intro i t hi ht
      apply hP
      refine ⟨fun h2 => absurd h2 (nI_ge (b := 600) (by omega) (by omega)), fun _ => ?_⟩
      rw [ef, eg, nI_add, nI_add]
      refine ⟨vp_in_nI (by omega) (by omega), fun v1 _ => ⟨vp_in_nI (by omega) (by omega), fun t1 e1 v2 e2 => ?_⟩⟩
      rw [e2, nI_1]
      exact ih (i + 1) t1 (by omega) (iv_updB e1 ht)
  exact loop 600 0 t rfl ht

/-- which image is meant: none, or a place below 3 -/
def imJ (x : Int32) : Prop := 0 ≤ x ∧ x ≤ 2
theorem e_m_image {f_code : Int32} {a_tape a_size a_fault a_faultPlace a_many a_lands a_evenings a_sights a_choirs a_kept : Nat → Int32} {x1 : Int32} {post : Int32 → Int32 → (Nat → Int32) → (Nat → Int32) → (Nat → Int32) → (Nat → Int32) → (Nat → Int32) → (Nat → Int32) → (Nat → Int32) → (Nat → Int32) → (Nat → Int32) → (Nat → Int32) → Prop} (k_a_tape : ∀ j, iv (-128) 127 (a_tape j)) (k_a_size : ∀ j, iv 0 600 (a_size j)) (k_a_many : ∀ j, iv 0 2 (a_many j)) (k_a_lands : mLand a_lands) (k_a_evenings : mEve a_evenings) (k_a_sights : mSig a_sights) (k_a_choirs : mCho a_choirs) (k_a_kept : ∀ j, iv 0 1 (a_kept j)) (h0 : ¬ imJ x1 → post 0 0 a_tape a_size a_fault a_faultPlace a_many a_lands a_evenings a_sights a_choirs a_kept) (h1 : ∀ k, k < 3 → x1 = nI k → ∀ t z fa fp mn l e s c kp, z (k + 1) = a_size 0 → (∀ j, ¬ j = k + 1 → z j = a_size j) → kp k = 1 → (∀ j, ¬ j = k → kp j = a_kept j) → (∀ j, iv (-128) 127 (t j)) → (∀ j, iv 0 600 (z j)) → (∀ j, iv 0 2 (mn j)) → mLand l → mEve e → mSig s → mCho c → (∀ j, iv 0 1 (kp j)) → post 1 0 t z fa fp mn l e s c kp) : q_m_image_0 f_code a_tape a_size a_fault a_faultPlace a_many a_lands a_evenings a_sights a_choirs a_kept x1 post := by
  refine sp_in (fun h => zi (h0 h)) (fun a1 a2 => io ?_)
  obtain ⟨j, rfl, -, hj, hj2⟩ := iv_nI (iv_of (l := 0) (h := 2) rfl rfl a1 a2) (by omega)
  rw [nI_1]
  refine e_copyAll (f := 0) (by omega) (by omega) (by omega) k_a_tape k_a_size k_a_many k_a_lands k_a_evenings k_a_sights k_a_choirs (fun t z fa fp mn l e s c y1 y2 h1' h2 h3 h4 h5 h6 h7 => ⟨vp_in_nI (by omega) (by omega), fun kp ek => ?_⟩)
  rw [nI_clamp (by omega)] at ek
  exact h1 j (by omega) rfl t z fa fp mn l e s c kp y1 y2 (by rw [ek]; exact up_s) (fun q hq => by rw [ek]; exact up_n hq) h1' h2 h3 h4 h5 h6 h7 (iv_updZ ek k_a_kept)
theorem e_m_again {f_code : Int32} {a_tape a_size a_fault a_faultPlace a_many a_lands a_evenings a_sights a_choirs a_kept : Nat → Int32} {x1 : Int32} {post : Int32 → Int32 → (Nat → Int32) → (Nat → Int32) → (Nat → Int32) → (Nat → Int32) → (Nat → Int32) → (Nat → Int32) → (Nat → Int32) → (Nat → Int32) → (Nat → Int32) → Prop} (k_a_tape : ∀ j, iv (-128) 127 (a_tape j)) (k_a_size : ∀ j, iv 0 600 (a_size j)) (k_a_many : ∀ j, iv 0 2 (a_many j)) (k_a_lands : mLand a_lands) (k_a_evenings : mEve a_evenings) (k_a_sights : mSig a_sights) (k_a_choirs : mCho a_choirs) (h0 : ¬ (∃ k, k < 3 ∧ x1 = nI k ∧ ¬ a_kept k = 0) → post 0 0 a_tape a_size a_fault a_faultPlace a_many a_lands a_evenings a_sights a_choirs) (h1 : ∀ k, k < 3 → x1 = nI k → ¬ a_kept k = 0 → ∀ t z fa fp mn l e s c, z 0 = a_size (k + 1) → (∀ j, ¬ j = 0 → z j = a_size j) → (∀ j, iv (-128) 127 (t j)) → (∀ j, iv 0 600 (z j)) → (∀ j, iv 0 2 (mn j)) → mLand l → mEve e → mSig s → mCho c → post 1 0 t z fa fp mn l e s c) : q_m_again_0 f_code a_tape a_size a_fault a_faultPlace a_many a_lands a_evenings a_sights a_choirs a_kept x1 post := by
  refine sp_in (fun h => ⟨fun _ => h0 (fun ⟨k, hk, e, _⟩ => h (by rw [e]; exact ⟨nI_pos' (by omega), nI_le (b := 2) (by omega) (by omega)⟩)), fun h9 => absurd rfl h9⟩) (fun a1 a2 => ⟨fun h9 => absurd h9 (by decide), fun _ => ?_⟩)
  obtain ⟨j, rfl, -, hj, hj2⟩ := iv_nI (iv_of (l := 0) (h := 2) rfl rfl a1 a2) (by omega)
  refine ⟨vp_in_nI (by omega) (by omega), ?_⟩
  rw [nI_clamp (by omega)]
  refine ⟨fun hk => ?_, fun hk => h0 (fun ⟨k, hk3, e, h9⟩ => h9 (by rw [(nI_eq (by omega) (by omega)).mp e] at hk; exact hk))⟩
  rw [nI_1]
  exact e_copyAll (g := 0) (by omega) (by omega) (by omega) k_a_tape k_a_size k_a_many k_a_lands k_a_evenings k_a_sights k_a_choirs (fun t z fa fp mn l e s c y1 y2 g1 g2 g3 g4 g5 g6 g7 => h1 j (by omega) rfl hk t z fa fp mn l e s c y1 y2 g1 g2 g3 g4 g5 g6 g7)
set_option maxRecDepth 20000 in
theorem e_copy_57 {a_tape : Nat → Int32} {f_length : Int32} {f_fault : Int32} {f_place : Int32} {a_counts : Nat → Int32} {l0f_huts : Int32} {l0f_singers : Int32} {l0f_villages : Int32} {l0f_dams : Int32} {l0f_echoes : Int32} {l0f_deep : Int32} {l0f_slide : Int32} {l0a_heights : Nat → Int32} {l0a_ladders : Nat → Int32} {l0a_minutes : Nat → Int32} {l0a_echoFrom : Nat → Int32} {l0a_echoTo : Nat → Int32} {l0a_homes : Nat → Int32} {l0a_talls : Nat → Int32} {l0a_known : Nat → Int32} {l1f_huts : Int32} {l1f_singers : Int32} {l1f_villages : Int32} {l1f_dams : Int32} {l1f_echoes : Int32} {l1f_deep : Int32} {l1f_slide : Int32} {l1a_heights : Nat → Int32} {l1a_ladders : Nat → Int32} {l1a_minutes : Nat → Int32} {l1a_echoFrom : Nat → Int32} {l1a_echoTo : Nat → Int32} {l1a_homes : Nat → Int32} {l1a_talls : Nat → Int32} {l1a_known : Nat → Int32} {v0f_deeds : Int32} {v0a_kinds : Nat → Int32} {v0a_firsts : Nat → Int32} {v0a_seconds : Nat → Int32} {v1f_deeds : Int32} {v1a_kinds : Nat → Int32} {v1a_firsts : Nat → Int32} {v1a_seconds : Nat → Int32} {s0f_facts : Int32} {s0a_heard : Nat → Int32} {s0a_huts : Nat → Int32} {s0a_minutes : Nat → Int32} {s1f_facts : Int32} {s1a_heard : Nat → Int32} {s1a_huts : Nat → Int32} {s1a_minutes : Nat → Int32} {c0f_voices : Int32} {c0f_step : Int32} {c0a_parts : Nat → Int32} {c0a_heights : Nat → Int32} {c1f_voices : Int32} {c1f_step : Int32} {c1a_parts : Nat → Int32} {c1a_heights : Nat → Int32} {oa_tape : Nat → Int32} {of_length : Int32} {of_fault : Int32} {of_place : Int32} {oa_counts : Nat → Int32} {ol0f_huts : Int32} {ol0f_singers : Int32} {ol0f_villages : Int32} {ol0f_dams : Int32} {ol0f_echoes : Int32} {ol0f_deep : Int32} {ol0f_slide : Int32} {ol0a_heights : Nat → Int32} {ol0a_ladders : Nat → Int32} {ol0a_minutes : Nat → Int32} {ol0a_echoFrom : Nat → Int32} {ol0a_echoTo : Nat → Int32} {ol0a_homes : Nat → Int32} {ol0a_talls : Nat → Int32} {ol0a_known : Nat → Int32} {ol1f_huts : Int32} {ol1f_singers : Int32} {ol1f_villages : Int32} {ol1f_dams : Int32} {ol1f_echoes : Int32} {ol1f_deep : Int32} {ol1f_slide : Int32} {ol1a_heights : Nat → Int32} {ol1a_ladders : Nat → Int32} {ol1a_minutes : Nat → Int32} {ol1a_echoFrom : Nat → Int32} {ol1a_echoTo : Nat → Int32} {ol1a_homes : Nat → Int32} {ol1a_talls : Nat → Int32} {ol1a_known : Nat → Int32} {ov0f_deeds : Int32} {ov0a_kinds : Nat → Int32} {ov0a_firsts : Nat → Int32} {ov0a_seconds : Nat → Int32} {ov1f_deeds : Int32} {ov1a_kinds : Nat → Int32} {ov1a_firsts : Nat → Int32} {ov1a_seconds : Nat → Int32} {os0f_facts : Int32} {os0a_heard : Nat → Int32} {os0a_huts : Nat → Int32} {os0a_minutes : Nat → Int32} {os1f_facts : Int32} {os1a_heard : Nat → Int32} {os1a_huts : Nat → Int32} {os1a_minutes : Nat → Int32} {oc0f_voices : Int32} {oc0f_step : Int32} {oc0a_parts : Nat → Int32} {oc0a_heights : Nat → Int32} {oc1f_voices : Int32} {oc1f_step : Int32} {oc1a_parts : Nat → Int32} {oc1a_heights : Nat → Int32} {x2 : Int32} {post : (Nat → Int32) → (Int32) → (Int32) → (Int32) → (Nat → Int32) → (Int32) → (Int32) → (Int32) → (Int32) → (Int32) → (Int32) → (Int32) → (Nat → Int32) → (Nat → Int32) → (Nat → Int32) → (Nat → Int32) → (Nat → Int32) → (Nat → Int32) → (Nat → Int32) → (Nat → Int32) → (Int32) → (Int32) → (Int32) → (Int32) → (Int32) → (Int32) → (Int32) → (Nat → Int32) → (Nat → Int32) → (Nat → Int32) → (Nat → Int32) → (Nat → Int32) → (Nat → Int32) → (Nat → Int32) → (Nat → Int32) → (Int32) → (Nat → Int32) → (Nat → Int32) → (Nat → Int32) → (Int32) → (Nat → Int32) → (Nat → Int32) → (Nat → Int32) → (Int32) → (Nat → Int32) → (Nat → Int32) → (Nat → Int32) → (Int32) → (Nat → Int32) → (Nat → Int32) → (Nat → Int32) → (Int32) → (Int32) → (Nat → Int32) → (Nat → Int32) → (Int32) → (Int32) → (Nat → Int32) → (Nat → Int32) → Prop} {f0 : Int32} (hlen : f_length = f0) (k_a_tape : ∀ j, iv (-128) 127 (a_tape j)) (k_f_length : iv 0 600 f_length) (k_f_fault : iv 0 4 f_fault) (k_f_place : iv (-1) 600 f_place) (k_a_counts : ∀ j, iv 0 2 (a_counts j)) (k_l0f_huts : iv 0 9 l0f_huts) (k_l0f_singers : iv 0 6 l0f_singers) (k_l0f_villages : iv 0 511 l0f_villages) (k_l0f_dams : iv 0 511 l0f_dams) (k_l0f_echoes : iv 0 4 l0f_echoes) (k_l0f_deep : iv 1 9 l0f_deep) (k_l0f_slide : iv 0 10 l0f_slide) (k_l0a_heights : ∀ j, iv 0 99 (l0a_heights j)) (k_l0a_ladders : ∀ j, iv 0 9 (l0a_ladders j)) (k_l0a_minutes : ∀ j, iv 0 9 (l0a_minutes j)) (k_l0a_echoFrom : ∀ j, iv 0 8 (l0a_echoFrom j)) (k_l0a_echoTo : ∀ j, iv 0 8 (l0a_echoTo j)) (k_l0a_homes : ∀ j, iv 0 8 (l0a_homes j)) (k_l0a_talls : ∀ j, iv 0 9 (l0a_talls j)) (k_l0a_known : ∀ j, iv 0 31 (l0a_known j)) (k_l1f_huts : iv 0 9 l1f_huts) (k_l1f_singers : iv 0 6 l1f_singers) (k_l1f_villages : iv 0 511 l1f_villages) (k_l1f_dams : iv 0 511 l1f_dams) (k_l1f_echoes : iv 0 4 l1f_echoes) (k_l1f_deep : iv 1 9 l1f_deep) (k_l1f_slide : iv 0 10 l1f_slide) (k_l1a_heights : ∀ j, iv 0 99 (l1a_heights j)) (k_l1a_ladders : ∀ j, iv 0 9 (l1a_ladders j)) (k_l1a_minutes : ∀ j, iv 0 9 (l1a_minutes j)) (k_l1a_echoFrom : ∀ j, iv 0 8 (l1a_echoFrom j)) (k_l1a_echoTo : ∀ j, iv 0 8 (l1a_echoTo j)) (k_l1a_homes : ∀ j, iv 0 8 (l1a_homes j)) (k_l1a_talls : ∀ j, iv 0 9 (l1a_talls j)) (k_l1a_known : ∀ j, iv 0 31 (l1a_known j)) (k_v0f_deeds : iv 0 40 v0f_deeds) (k_v0a_kinds : ∀ j, iv 0 5 (v0a_kinds j)) (k_v0a_firsts : ∀ j, iv 0 5 (v0a_firsts j)) (k_v0a_seconds : ∀ j, iv (-1) 8 (v0a_seconds j)) (k_v1f_deeds : iv 0 40 v1f_deeds) (k_v1a_kinds : ∀ j, iv 0 5 (v1a_kinds j)) (k_v1a_firsts : ∀ j, iv 0 5 (v1a_firsts j)) (k_v1a_seconds : ∀ j, iv (-1) 8 (v1a_seconds j)) (k_s0f_facts : iv 0 10 s0f_facts) (k_s0a_heard : ∀ j, iv 0 1 (s0a_heard j)) (k_s0a_huts : ∀ j, iv 0 8 (s0a_huts j)) (k_s0a_minutes : ∀ j, iv 0 60 (s0a_minutes j)) (k_s1f_facts : iv 0 10 s1f_facts) (k_s1a_heard : ∀ j, iv 0 1 (s1a_heard j)) (k_s1a_huts : ∀ j, iv 0 8 (s1a_huts j)) (k_s1a_minutes : ∀ j, iv 0 60 (s1a_minutes j)) (k_c0f_voices : iv 0 9 c0f_voices) (k_c0f_step : iv 0 9 c0f_step) (k_c0a_parts : ∀ j, iv 0 3 (c0a_parts j)) (k_c0a_heights : ∀ j, iv 0 9 (c0a_heights j)) (k_c1f_voices : iv 0 9 c1f_voices) (k_c1f_step : iv 0 9 c1f_step) (k_c1a_parts : ∀ j, iv 0 3 (c1a_parts j)) (k_c1a_heights : ∀ j, iv 0 9 (c1a_heights j)) (k_oa_tape : ∀ j, iv (-128) 127 (oa_tape j)) (k_of_length : iv 0 600 of_length) (k_of_fault : iv 0 4 of_fault) (k_of_place : iv (-1) 600 of_place) (k_oa_counts : ∀ j, iv 0 2 (oa_counts j)) (k_ol0f_huts : iv 0 9 ol0f_huts) (k_ol0f_singers : iv 0 6 ol0f_singers) (k_ol0f_villages : iv 0 511 ol0f_villages) (k_ol0f_dams : iv 0 511 ol0f_dams) (k_ol0f_echoes : iv 0 4 ol0f_echoes) (k_ol0f_deep : iv 1 9 ol0f_deep) (k_ol0f_slide : iv 0 10 ol0f_slide) (k_ol0a_heights : ∀ j, iv 0 99 (ol0a_heights j)) (k_ol0a_ladders : ∀ j, iv 0 9 (ol0a_ladders j)) (k_ol0a_minutes : ∀ j, iv 0 9 (ol0a_minutes j)) (k_ol0a_echoFrom : ∀ j, iv 0 8 (ol0a_echoFrom j)) (k_ol0a_echoTo : ∀ j, iv 0 8 (ol0a_echoTo j)) (k_ol0a_homes : ∀ j, iv 0 8 (ol0a_homes j)) (k_ol0a_talls : ∀ j, iv 0 9 (ol0a_talls j)) (k_ol0a_known : ∀ j, iv 0 31 (ol0a_known j)) (k_ol1f_huts : iv 0 9 ol1f_huts) (k_ol1f_singers : iv 0 6 ol1f_singers) (k_ol1f_villages : iv 0 511 ol1f_villages) (k_ol1f_dams : iv 0 511 ol1f_dams) (k_ol1f_echoes : iv 0 4 ol1f_echoes) (k_ol1f_deep : iv 1 9 ol1f_deep) (k_ol1f_slide : iv 0 10 ol1f_slide) (k_ol1a_heights : ∀ j, iv 0 99 (ol1a_heights j)) (k_ol1a_ladders : ∀ j, iv 0 9 (ol1a_ladders j)) (k_ol1a_minutes : ∀ j, iv 0 9 (ol1a_minutes j)) (k_ol1a_echoFrom : ∀ j, iv 0 8 (ol1a_echoFrom j)) (k_ol1a_echoTo : ∀ j, iv 0 8 (ol1a_echoTo j)) (k_ol1a_homes : ∀ j, iv 0 8 (ol1a_homes j)) (k_ol1a_talls : ∀ j, iv 0 9 (ol1a_talls j)) (k_ol1a_known : ∀ j, iv 0 31 (ol1a_known j)) (k_ov0f_deeds : iv 0 40 ov0f_deeds) (k_ov0a_kinds : ∀ j, iv 0 5 (ov0a_kinds j)) (k_ov0a_firsts : ∀ j, iv 0 5 (ov0a_firsts j)) (k_ov0a_seconds : ∀ j, iv (-1) 8 (ov0a_seconds j)) (k_ov1f_deeds : iv 0 40 ov1f_deeds) (k_ov1a_kinds : ∀ j, iv 0 5 (ov1a_kinds j)) (k_ov1a_firsts : ∀ j, iv 0 5 (ov1a_firsts j)) (k_ov1a_seconds : ∀ j, iv (-1) 8 (ov1a_seconds j)) (k_os0f_facts : iv 0 10 os0f_facts) (k_os0a_heard : ∀ j, iv 0 1 (os0a_heard j)) (k_os0a_huts : ∀ j, iv 0 8 (os0a_huts j)) (k_os0a_minutes : ∀ j, iv 0 60 (os0a_minutes j)) (k_os1f_facts : iv 0 10 os1f_facts) (k_os1a_heard : ∀ j, iv 0 1 (os1a_heard j)) (k_os1a_huts : ∀ j, iv 0 8 (os1a_huts j)) (k_os1a_minutes : ∀ j, iv 0 60 (os1a_minutes j)) (k_oc0f_voices : iv 0 9 oc0f_voices) (k_oc0f_step : iv 0 9 oc0f_step) (k_oc0a_parts : ∀ j, iv 0 3 (oc0a_parts j)) (k_oc0a_heights : ∀ j, iv 0 9 (oc0a_heights j)) (k_oc1f_voices : iv 0 9 oc1f_voices) (k_oc1f_step : iv 0 9 oc1f_step) (k_oc1a_parts : ∀ j, iv 0 3 (oc1a_parts j)) (k_oc1a_heights : ∀ j, iv 0 9 (oc1a_heights j)) (hx2 : iv 0 2 x2) (hpost : ∀ (a_tape : Nat → Int32) (f_length : Int32) (f_fault : Int32) (f_place : Int32) (a_counts : Nat → Int32) (l0f_huts : Int32) (l0f_singers : Int32) (l0f_villages : Int32) (l0f_dams : Int32) (l0f_echoes : Int32) (l0f_deep : Int32) (l0f_slide : Int32) (l0a_heights : Nat → Int32) (l0a_ladders : Nat → Int32) (l0a_minutes : Nat → Int32) (l0a_echoFrom : Nat → Int32) (l0a_echoTo : Nat → Int32) (l0a_homes : Nat → Int32) (l0a_talls : Nat → Int32) (l0a_known : Nat → Int32) (l1f_huts : Int32) (l1f_singers : Int32) (l1f_villages : Int32) (l1f_dams : Int32) (l1f_echoes : Int32) (l1f_deep : Int32) (l1f_slide : Int32) (l1a_heights : Nat → Int32) (l1a_ladders : Nat → Int32) (l1a_minutes : Nat → Int32) (l1a_echoFrom : Nat → Int32) (l1a_echoTo : Nat → Int32) (l1a_homes : Nat → Int32) (l1a_talls : Nat → Int32) (l1a_known : Nat → Int32) (v0f_deeds : Int32) (v0a_kinds : Nat → Int32) (v0a_firsts : Nat → Int32) (v0a_seconds : Nat → Int32) (v1f_deeds : Int32) (v1a_kinds : Nat → Int32) (v1a_firsts : Nat → Int32) (v1a_seconds : Nat → Int32) (s0f_facts : Int32) (s0a_heard : Nat → Int32) (s0a_huts : Nat → Int32) (s0a_minutes : Nat → Int32) (s1f_facts : Int32) (s1a_heard : Nat → Int32) (s1a_huts : Nat → Int32) (s1a_minutes : Nat → Int32) (c0f_voices : Int32) (c0f_step : Int32) (c0a_parts : Nat → Int32) (c0a_heights : Nat → Int32) (c1f_voices : Int32) (c1f_step : Int32) (c1a_parts : Nat → Int32) (c1a_heights : Nat → Int32), f_length = f0 → (∀ j, iv (-128) 127 (a_tape j)) → (iv 0 600 f_length) → (iv 0 4 f_fault) → (iv (-1) 600 f_place) → (∀ j, iv 0 2 (a_counts j)) → (iv 0 9 l0f_huts) → (iv 0 6 l0f_singers) → (iv 0 511 l0f_villages) → (iv 0 511 l0f_dams) → (iv 0 4 l0f_echoes) → (iv 1 9 l0f_deep) → (iv 0 10 l0f_slide) → (∀ j, iv 0 99 (l0a_heights j)) → (∀ j, iv 0 9 (l0a_ladders j)) → (∀ j, iv 0 9 (l0a_minutes j)) → (∀ j, iv 0 8 (l0a_echoFrom j)) → (∀ j, iv 0 8 (l0a_echoTo j)) → (∀ j, iv 0 8 (l0a_homes j)) → (∀ j, iv 0 9 (l0a_talls j)) → (∀ j, iv 0 31 (l0a_known j)) → (iv 0 9 l1f_huts) → (iv 0 6 l1f_singers) → (iv 0 511 l1f_villages) → (iv 0 511 l1f_dams) → (iv 0 4 l1f_echoes) → (iv 1 9 l1f_deep) → (iv 0 10 l1f_slide) → (∀ j, iv 0 99 (l1a_heights j)) → (∀ j, iv 0 9 (l1a_ladders j)) → (∀ j, iv 0 9 (l1a_minutes j)) → (∀ j, iv 0 8 (l1a_echoFrom j)) → (∀ j, iv 0 8 (l1a_echoTo j)) → (∀ j, iv 0 8 (l1a_homes j)) → (∀ j, iv 0 9 (l1a_talls j)) → (∀ j, iv 0 31 (l1a_known j)) → (iv 0 40 v0f_deeds) → (∀ j, iv 0 5 (v0a_kinds j)) → (∀ j, iv 0 5 (v0a_firsts j)) → (∀ j, iv (-1) 8 (v0a_seconds j)) → (iv 0 40 v1f_deeds) → (∀ j, iv 0 5 (v1a_kinds j)) → (∀ j, iv 0 5 (v1a_firsts j)) → (∀ j, iv (-1) 8 (v1a_seconds j)) → (iv 0 10 s0f_facts) → (∀ j, iv 0 1 (s0a_heard j)) → (∀ j, iv 0 8 (s0a_huts j)) → (∀ j, iv 0 60 (s0a_minutes j)) → (iv 0 10 s1f_facts) → (∀ j, iv 0 1 (s1a_heard j)) → (∀ j, iv 0 8 (s1a_huts j)) → (∀ j, iv 0 60 (s1a_minutes j)) → (iv 0 9 c0f_voices) → (iv 0 9 c0f_step) → (∀ j, iv 0 3 (c0a_parts j)) → (∀ j, iv 0 9 (c0a_heights j)) → (iv 0 9 c1f_voices) → (iv 0 9 c1f_step) → (∀ j, iv 0 3 (c1a_parts j)) → (∀ j, iv 0 9 (c1a_heights j)) → post a_tape f_length f_fault f_place a_counts l0f_huts l0f_singers l0f_villages l0f_dams l0f_echoes l0f_deep l0f_slide l0a_heights l0a_ladders l0a_minutes l0a_echoFrom l0a_echoTo l0a_homes l0a_talls l0a_known l1f_huts l1f_singers l1f_villages l1f_dams l1f_echoes l1f_deep l1f_slide l1a_heights l1a_ladders l1a_minutes l1a_echoFrom l1a_echoTo l1a_homes l1a_talls l1a_known v0f_deeds v0a_kinds v0a_firsts v0a_seconds v1f_deeds v1a_kinds v1a_firsts v1a_seconds s0f_facts s0a_heard s0a_huts s0a_minutes s1f_facts s1a_heard s1a_huts s1a_minutes c0f_voices c0f_step c0a_parts c0a_heights c1f_voices c1f_step c1a_parts c1a_heights) : q_wtt_X9_copyFrom_47_57 a_tape f_length f_fault f_place a_counts l0f_huts l0f_singers l0f_villages l0f_dams l0f_echoes l0f_deep l0f_slide l0a_heights l0a_ladders l0a_minutes l0a_echoFrom l0a_echoTo l0a_homes l0a_talls l0a_known l1f_huts l1f_singers l1f_villages l1f_dams l1f_echoes l1f_deep l1f_slide l1a_heights l1a_ladders l1a_minutes l1a_echoFrom l1a_echoTo l1a_homes l1a_talls l1a_known v0f_deeds v0a_kinds v0a_firsts v0a_seconds v1f_deeds v1a_kinds v1a_firsts v1a_seconds s0f_facts s0a_heard s0a_huts s0a_minutes s1f_facts s1a_heard s1a_huts s1a_minutes c0f_voices c0f_step c0a_parts c0a_heights c1f_voices c1f_step c1a_parts c1a_heights oa_tape of_length of_fault of_place oa_counts ol0f_huts ol0f_singers ol0f_villages ol0f_dams ol0f_echoes ol0f_deep ol0f_slide ol0a_heights ol0a_ladders ol0a_minutes ol0a_echoFrom ol0a_echoTo ol0a_homes ol0a_talls ol0a_known ol1f_huts ol1f_singers ol1f_villages ol1f_dams ol1f_echoes ol1f_deep ol1f_slide ol1a_heights ol1a_ladders ol1a_minutes ol1a_echoFrom ol1a_echoTo ol1a_homes ol1a_talls ol1a_known ov0f_deeds ov0a_kinds ov0a_firsts ov0a_seconds ov1f_deeds ov1a_kinds ov1a_firsts ov1a_seconds os0f_facts os0a_heard os0a_huts os0a_minutes os1f_facts os1a_heard os1a_huts os1a_minutes oc0f_voices oc0f_step oc0a_parts oc0a_heights oc1f_voices oc1f_step oc1a_parts oc1a_heights x2 post := by
  intro P hP
  have loop : ∀ (n : Nat) (x2 : Int32) (l0f_huts : Int32) (l0f_singers : Int32) (l0f_villages : Int32) (l0f_dams : Int32) (l0f_echoes : Int32) (l0f_deep : Int32) (l0f_slide : Int32) (l0a_heights : Nat → Int32) (l0a_ladders : Nat → Int32) (l0a_minutes : Nat → Int32) (l0a_echoFrom : Nat → Int32) (l0a_echoTo : Nat → Int32) (l0a_homes : Nat → Int32) (l0a_talls : Nat → Int32) (l0a_known : Nat → Int32) (l1f_huts : Int32) (l1f_singers : Int32) (l1f_villages : Int32) (l1f_dams : Int32) (l1f_echoes : Int32) (l1f_deep : Int32) (l1f_slide : Int32) (l1a_heights : Nat → Int32) (l1a_ladders : Nat → Int32) (l1a_minutes : Nat → Int32) (l1a_echoFrom : Nat → Int32) (l1a_echoTo : Nat → Int32) (l1a_homes : Nat → Int32) (l1a_talls : Nat → Int32) (l1a_known : Nat → Int32) (v0f_deeds : Int32) (v0a_kinds : Nat → Int32) (v0a_firsts : Nat → Int32) (v0a_seconds : Nat → Int32) (v1f_deeds : Int32) (v1a_kinds : Nat → Int32) (v1a_firsts : Nat → Int32) (v1a_seconds : Nat → Int32) (s0f_facts : Int32) (s0a_heard : Nat → Int32) (s0a_huts : Nat → Int32) (s0a_minutes : Nat → Int32) (s1f_facts : Int32) (s1a_heard : Nat → Int32) (s1a_huts : Nat → Int32) (s1a_minutes : Nat → Int32) (c0f_voices : Int32) (c0f_step : Int32) (c0a_parts : Nat → Int32) (c0a_heights : Nat → Int32) (c1f_voices : Int32) (c1f_step : Int32) (c1a_parts : Nat → Int32) (c1a_heights : Nat → Int32), (2 - x2.toInt < (n : Int)) → (iv 0 2 x2) → (iv 0 9 l0f_huts) → (iv 0 6 l0f_singers) → (iv 0 511 l0f_villages) → (iv 0 511 l0f_dams) → (iv 0 4 l0f_echoes) → (iv 1 9 l0f_deep) → (iv 0 10 l0f_slide) → (∀ j, iv 0 99 (l0a_heights j)) → (∀ j, iv 0 9 (l0a_ladders j)) → (∀ j, iv 0 9 (l0a_minutes j)) → (∀ j, iv 0 8 (l0a_echoFrom j)) → (∀ j, iv 0 8 (l0a_echoTo j)) → (∀ j, iv 0 8 (l0a_homes j)) → (∀ j, iv 0 9 (l0a_talls j)) → (∀ j, iv 0 31 (l0a_known j)) → (iv 0 9 l1f_huts) → (iv 0 6 l1f_singers) → (iv 0 511 l1f_villages) → (iv 0 511 l1f_dams) → (iv 0 4 l1f_echoes) → (iv 1 9 l1f_deep) → (iv 0 10 l1f_slide) → (∀ j, iv 0 99 (l1a_heights j)) → (∀ j, iv 0 9 (l1a_ladders j)) → (∀ j, iv 0 9 (l1a_minutes j)) → (∀ j, iv 0 8 (l1a_echoFrom j)) → (∀ j, iv 0 8 (l1a_echoTo j)) → (∀ j, iv 0 8 (l1a_homes j)) → (∀ j, iv 0 9 (l1a_talls j)) → (∀ j, iv 0 31 (l1a_known j)) → (iv 0 40 v0f_deeds) → (∀ j, iv 0 5 (v0a_kinds j)) → (∀ j, iv 0 5 (v0a_firsts j)) → (∀ j, iv (-1) 8 (v0a_seconds j)) → (iv 0 40 v1f_deeds) → (∀ j, iv 0 5 (v1a_kinds j)) → (∀ j, iv 0 5 (v1a_firsts j)) → (∀ j, iv (-1) 8 (v1a_seconds j)) → (iv 0 10 s0f_facts) → (∀ j, iv 0 1 (s0a_heard j)) → (∀ j, iv 0 8 (s0a_huts j)) → (∀ j, iv 0 60 (s0a_minutes j)) → (iv 0 10 s1f_facts) → (∀ j, iv 0 1 (s1a_heard j)) → (∀ j, iv 0 8 (s1a_huts j)) → (∀ j, iv 0 60 (s1a_minutes j)) → (iv 0 9 c0f_voices) → (iv 0 9 c0f_step) → (∀ j, iv 0 3 (c0a_parts j)) → (∀ j, iv 0 9 (c0a_heights j)) → (iv 0 9 c1f_voices) → (iv 0 9 c1f_step) → (∀ j, iv 0 3 (c1a_parts j)) → (∀ j, iv 0 9 (c1a_heights j)) → P x2 l0f_huts l0f_singers l0f_villages l0f_dams l0f_echoes l0f_deep l0f_slide l0a_heights l0a_ladders l0a_minutes l0a_echoFrom l0a_echoTo l0a_homes l0a_talls l0a_known l1f_huts l1f_singers l1f_villages l1f_dams l1f_echoes l1f_deep l1f_slide l1a_heights l1a_ladders l1a_minutes l1a_echoFrom l1a_echoTo l1a_homes l1a_talls l1a_known v0f_deeds v0a_kinds v0a_firsts v0a_seconds v1f_deeds v1a_kinds v1a_firsts v1a_seconds s0f_facts s0a_heard s0a_huts s0a_minutes s1f_facts s1a_heard s1a_huts s1a_minutes c0f_voices c0f_step c0a_parts c0a_heights c1f_voices c1f_step c1a_parts c1a_heights := by
    intro n
    induction n with
    | zero => intro x2 l0f_huts l0f_singers l0f_villages l0f_dams l0f_echoes l0f_deep l0f_slide l0a_heights l0a_ladders l0a_minutes l0a_echoFrom l0a_echoTo l0a_homes l0a_talls l0a_known l1f_huts l1f_singers l1f_villages l1f_dams l1f_echoes l1f_deep l1f_slide l1a_heights l1a_ladders l1a_minutes l1a_echoFrom l1a_echoTo l1a_homes l1a_talls l1a_known v0f_deeds v0a_kinds v0a_firsts v0a_seconds v1f_deeds v1a_kinds v1a_firsts v1a_seconds s0f_facts s0a_heard s0a_huts s0a_minutes s1f_facts s1a_heard s1a_huts s1a_minutes c0f_voices c0f_step c0a_parts c0a_heights c1f_voices c1f_step c1a_parts c1a_heights hm hx2 k_l0f_huts k_l0f_singers k_l0f_villages k_l0f_dams k_l0f_echoes k_l0f_deep k_l0f_slide k_l0a_heights k_l0a_ladders k_l0a_minutes k_l0a_echoFrom k_l0a_echoTo k_l0a_homes k_l0a_talls k_l0a_known k_l1f_huts k_l1f_singers k_l1f_villages k_l1f_dams k_l1f_echoes k_l1f_deep k_l1f_slide k_l1a_heights k_l1a_ladders k_l1a_minutes k_l1a_echoFrom k_l1a_echoTo k_l1a_homes k_l1a_talls k_l1a_known k_v0f_deeds k_v0a_kinds k_v0a_firsts k_v0a_seconds k_v1f_deeds k_v1a_kinds k_v1a_firsts k_v1a_seconds k_s0f_facts k_s0a_heard k_s0a_huts k_s0a_minutes k_s1f_facts k_s1a_heard k_s1a_huts k_s1a_minutes k_c0f_voices k_c0f_step k_c0a_parts k_c0a_heights k_c1f_voices k_c1f_step k_c1a_parts k_c1a_heights; exact (ms0_up hm hx2).elim
    | succ n ih =>
      intro x2 l0f_huts l0f_singers l0f_villages l0f_dams l0f_echoes l0f_deep l0f_slide l0a_heights l0a_ladders l0a_minutes l0a_echoFrom l0a_echoTo l0a_homes l0a_talls l0a_known l1f_huts l1f_singers l1f_villages l1f_dams l1f_echoes l1f_deep l1f_slide l1a_heights l1a_ladders l1a_minutes l1a_echoFrom l1a_echoTo l1a_homes l1a_talls l1a_known v0f_deeds v0a_kinds v0a_firsts v0a_seconds v1f_deeds v1a_kinds v1a_firsts v1a_seconds s0f_facts s0a_heard s0a_huts s0a_minutes s1f_facts s1a_heard s1a_huts s1a_minutes c0f_voices c0f_step c0a_parts c0a_heights c1f_voices c1f_step c1a_parts c1a_heights hm hx2 k_l0f_huts k_l0f_singers k_l0f_villages k_l0f_dams k_l0f_echoes k_l0f_deep k_l0f_slide k_l0a_heights k_l0a_ladders k_l0a_minutes k_l0a_echoFrom k_l0a_echoTo k_l0a_homes k_l0a_talls k_l0a_known k_l1f_huts k_l1f_singers k_l1f_villages k_l1f_dams k_l1f_echoes k_l1f_deep k_l1f_slide k_l1a_heights k_l1a_ladders k_l1a_minutes k_l1a_echoFrom k_l1a_echoTo k_l1a_homes k_l1a_talls k_l1a_known k_v0f_deeds k_v0a_kinds k_v0a_firsts k_v0a_seconds k_v1f_deeds k_v1a_kinds k_v1a_firsts k_v1a_seconds k_s0f_facts k_s0a_heard k_s0a_huts k_s0a_minutes k_s1f_facts k_s1a_heard k_s1a_huts k_s1a_minutes k_c0f_voices k_c0f_step k_c0a_parts k_c0a_heights k_c1f_voices k_c1f_step k_c1a_parts k_c1a_heights
      apply hP
      refine ⟨fun c1 => ?_, fun c1 => ?_⟩
      · skip
        exact hpost _ _ _ _ _ _ _ _ _ _ _ _ _ _ _ _ _ _ _ _ _ _ _ _ _ _ _ _ _ _ _ _ _ _ _ _ _ _ _ _ _ _ _ _ _ _ _ _ _ _ _ _ _ _ _ _ _ _ _ hlen k_a_tape k_f_length k_f_fault k_f_place k_a_counts k_l0f_huts k_l0f_singers k_l0f_villages k_l0f_dams k_l0f_echoes k_l0f_deep k_l0f_slide k_l0a_heights k_l0a_ladders k_l0a_minutes k_l0a_echoFrom k_l0a_echoTo k_l0a_homes k_l0a_talls k_l0a_known k_l1f_huts k_l1f_singers k_l1f_villages k_l1f_dams k_l1f_echoes k_l1f_deep k_l1f_slide k_l1a_heights k_l1a_ladders k_l1a_minutes k_l1a_echoFrom k_l1a_echoTo k_l1a_homes k_l1a_talls k_l1a_known k_v0f_deeds k_v0a_kinds k_v0a_firsts k_v0a_seconds k_v1f_deeds k_v1a_kinds k_v1a_firsts k_v1a_seconds k_s0f_facts k_s0a_heard k_s0a_huts k_s0a_minutes k_s1f_facts k_s1a_heard k_s1a_huts k_s1a_minutes k_c0f_voices k_c0f_step k_c0a_parts k_c0a_heights k_c1f_voices k_c1f_step k_c1a_parts k_c1a_heights
      · skip
        refine ⟨iv_in (iv_lta (l := 0) (h := 1) (r_nle c1) hx2 (iv_lit (l := 2) (h := 2) (by decide)) (by decide)) (by decide), fun hc => ?_, fun hc => ?_⟩
        · skip
          refine s_wll_X2_copyFrom_9_0 k_l0f_huts k_l0f_singers k_l0f_villages k_l0f_dams k_l0f_echoes k_l0f_deep k_l0f_slide k_l0a_heights k_l0a_ladders k_l0a_minutes k_l0a_echoFrom k_l0a_echoTo k_l0a_homes k_l0a_talls k_l0a_known k_ol0f_huts k_ol0f_singers k_ol0f_villages k_ol0f_dams k_ol0f_echoes k_ol0f_deep k_ol0f_slide k_ol0a_heights k_ol0a_ladders k_ol0a_minutes k_ol0a_echoFrom k_ol0a_echoTo k_ol0a_homes k_ol0a_talls k_ol0a_known (fun o2 o3 o4 o5 o6 o7 o8 o9 o10 o11 o12 o13 o14 o15 o16 k_o2 k_o3 k_o4 k_o5 k_o6 k_o7 k_o8 k_o9 k_o10 k_o11 k_o12 k_o13 k_o14 k_o15 k_o16 => ?_)
          refine s_wvv_X1_copyFrom_4_0 k_v0f_deeds k_v0a_kinds k_v0a_firsts k_v0a_seconds k_ov0f_deeds k_ov0a_kinds k_ov0a_firsts k_ov0a_seconds (fun o17 o18 o19 o20 k_o17 k_o18 k_o19 k_o20 => ?_)
          refine s_wss_X6_copyFrom_4_0 k_s0f_facts k_s0a_heard k_s0a_huts k_s0a_minutes k_os0f_facts k_os0a_heard k_os0a_huts k_os0a_minutes (fun o21 o22 o23 o24 k_o21 k_o22 k_o23 k_o24 => ?_)
          refine ⟨iv_nn k_oc0f_voices (by decide), ?_⟩
          refine ⟨iv_len (iv_lit (l := 0) (h := 0) (by decide)) k_oc0f_voices (by decide), ?_⟩
          refine ⟨iv_len (iv_lit (l := 0) (h := 0) (by decide)) k_oc0f_voices (by decide), ?_⟩
          intro a25 ea25
          have k_a25 := iv_cpy ea25 k_oc0a_parts k_c0a_parts
          refine ⟨iv_nn k_oc0f_voices (by decide), ?_⟩
          refine ⟨iv_len (iv_lit (l := 0) (h := 0) (by decide)) k_oc0f_voices (by decide), ?_⟩
          refine ⟨iv_len (iv_lit (l := 0) (h := 0) (by decide)) k_oc0f_voices (by decide), ?_⟩
          intro a26 ea26
          have k_a26 := iv_cpy ea26 k_oc0a_heights k_c0a_heights
          intro w27 ew27
          have hw27 := iv_eq ew27 (iv_add (l := 1) (h := 1) (iv_lit (l := 0) (h := 0) (by decide)) (iv_lit (l := 1) (h := 1) (by decide)) (by decide))
          exact ih _ _ _ _ _ _ _ _ _ _ _ _ _ _ _ _ _ _ _ _ _ _ _ _ _ _ _ _ _ _ _ _ _ _ _ _ _ _ _ _ _ _ _ _ _ _ _ _ _ _ _ _ _ _ _ (ms_up hm (inc_ltc hc ew27 (by decide))) (iv_w hw27 (by decide)) k_o2 k_o3 k_o4 k_o5 k_o6 k_o7 k_o8 k_o9 k_o10 k_o11 k_o12 k_o13 k_o14 k_o15 k_o16 k_l1f_huts k_l1f_singers k_l1f_villages k_l1f_dams k_l1f_echoes k_l1f_deep k_l1f_slide k_l1a_heights k_l1a_ladders k_l1a_minutes k_l1a_echoFrom k_l1a_echoTo k_l1a_homes k_l1a_talls k_l1a_known k_o17 k_o18 k_o19 k_o20 k_v1f_deeds k_v1a_kinds k_v1a_firsts k_v1a_seconds k_o21 k_o22 k_o23 k_o24 k_s1f_facts k_s1a_heard k_s1a_huts k_s1a_minutes k_oc0f_voices k_oc0f_step k_a25 k_a26 k_c1f_voices k_c1f_step k_c1a_parts k_c1a_heights
        · skip
          refine s_wll_X2_copyFrom_9_0 k_l1f_huts k_l1f_singers k_l1f_villages k_l1f_dams k_l1f_echoes k_l1f_deep k_l1f_slide k_l1a_heights k_l1a_ladders k_l1a_minutes k_l1a_echoFrom k_l1a_echoTo k_l1a_homes k_l1a_talls k_l1a_known k_ol1f_huts k_ol1f_singers k_ol1f_villages k_ol1f_dams k_ol1f_echoes k_ol1f_deep k_ol1f_slide k_ol1a_heights k_ol1a_ladders k_ol1a_minutes k_ol1a_echoFrom k_ol1a_echoTo k_ol1a_homes k_ol1a_talls k_ol1a_known (fun o28 o29 o30 o31 o32 o33 o34 o35 o36 o37 o38 o39 o40 o41 o42 k_o28 k_o29 k_o30 k_o31 k_o32 k_o33 k_o34 k_o35 k_o36 k_o37 k_o38 k_o39 k_o40 k_o41 k_o42 => ?_)
          refine s_wvv_X1_copyFrom_4_0 k_v1f_deeds k_v1a_kinds k_v1a_firsts k_v1a_seconds k_ov1f_deeds k_ov1a_kinds k_ov1a_firsts k_ov1a_seconds (fun o43 o44 o45 o46 k_o43 k_o44 k_o45 k_o46 => ?_)
          refine s_wss_X6_copyFrom_4_0 k_s1f_facts k_s1a_heard k_s1a_huts k_s1a_minutes k_os1f_facts k_os1a_heard k_os1a_huts k_os1a_minutes (fun o47 o48 o49 o50 k_o47 k_o48 k_o49 k_o50 => ?_)
          refine ⟨iv_nn k_oc1f_voices (by decide), ?_⟩
          refine ⟨iv_len (iv_lit (l := 0) (h := 0) (by decide)) k_oc1f_voices (by decide), ?_⟩
          refine ⟨iv_len (iv_lit (l := 0) (h := 0) (by decide)) k_oc1f_voices (by decide), ?_⟩
          intro a51 ea51
          have k_a51 := iv_cpy ea51 k_oc1a_parts k_c1a_parts
          refine ⟨iv_nn k_oc1f_voices (by decide), ?_⟩
          refine ⟨iv_len (iv_lit (l := 0) (h := 0) (by decide)) k_oc1f_voices (by decide), ?_⟩
          refine ⟨iv_len (iv_lit (l := 0) (h := 0) (by decide)) k_oc1f_voices (by decide), ?_⟩
          intro a52 ea52
          have k_a52 := iv_cpy ea52 k_oc1a_heights k_c1a_heights
          intro w53 ew53
          have hw53 := iv_eq ew53 (iv_add (l := 2) (h := 2) (iv_lit (l := 1) (h := 1) (by decide)) (iv_lit (l := 1) (h := 1) (by decide)) (by decide))
          exact ih _ _ _ _ _ _ _ _ _ _ _ _ _ _ _ _ _ _ _ _ _ _ _ _ _ _ _ _ _ _ _ _ _ _ _ _ _ _ _ _ _ _ _ _ _ _ _ _ _ _ _ _ _ _ _ (ms_up hm (inc_ltc (iv_is1 (iv_lta (l := 0) (h := 1) (r_nle c1) hx2 (iv_lit (l := 2) (h := 2) (by decide)) (by decide)) hc) ew53 (by decide))) (iv_w hw53 (by decide)) k_l0f_huts k_l0f_singers k_l0f_villages k_l0f_dams k_l0f_echoes k_l0f_deep k_l0f_slide k_l0a_heights k_l0a_ladders k_l0a_minutes k_l0a_echoFrom k_l0a_echoTo k_l0a_homes k_l0a_talls k_l0a_known k_o28 k_o29 k_o30 k_o31 k_o32 k_o33 k_o34 k_o35 k_o36 k_o37 k_o38 k_o39 k_o40 k_o41 k_o42 k_v0f_deeds k_v0a_kinds k_v0a_firsts k_v0a_seconds k_o43 k_o44 k_o45 k_o46 k_s0f_facts k_s0a_heard k_s0a_huts k_s0a_minutes k_o47 k_o48 k_o49 k_o50 k_c0f_voices k_c0f_step k_c0a_parts k_c0a_heights k_oc1f_voices k_oc1f_step k_a51 k_a52
  exact loop _ _ _ _ _ _ _ _ _ _ _ _ _ _ _ _ _ _ _ _ _ _ _ _ _ _ _ _ _ _ _ _ _ _ _ _ _ _ _ _ _ _ _ _ _ _ _ _ _ _ _ _ _ _ _ _ (ms_init_up _ _) hx2 k_l0f_huts k_l0f_singers k_l0f_villages k_l0f_dams k_l0f_echoes k_l0f_deep k_l0f_slide k_l0a_heights k_l0a_ladders k_l0a_minutes k_l0a_echoFrom k_l0a_echoTo k_l0a_homes k_l0a_talls k_l0a_known k_l1f_huts k_l1f_singers k_l1f_villages k_l1f_dams k_l1f_echoes k_l1f_deep k_l1f_slide k_l1a_heights k_l1a_ladders k_l1a_minutes k_l1a_echoFrom k_l1a_echoTo k_l1a_homes k_l1a_talls k_l1a_known k_v0f_deeds k_v0a_kinds k_v0a_firsts k_v0a_seconds k_v1f_deeds k_v1a_kinds k_v1a_firsts k_v1a_seconds k_s0f_facts k_s0a_heard k_s0a_huts k_s0a_minutes k_s1f_facts k_s1a_heard k_s1a_huts k_s1a_minutes k_c0f_voices k_c0f_step k_c0a_parts k_c0a_heights k_c1f_voices k_c1f_step k_c1a_parts k_c1a_heights

set_option maxRecDepth 20000 in
theorem e_copy_0 {a_tape : Nat → Int32} {f_length : Int32} {f_fault : Int32} {f_place : Int32} {a_counts : Nat → Int32} {l0f_huts : Int32} {l0f_singers : Int32} {l0f_villages : Int32} {l0f_dams : Int32} {l0f_echoes : Int32} {l0f_deep : Int32} {l0f_slide : Int32} {l0a_heights : Nat → Int32} {l0a_ladders : Nat → Int32} {l0a_minutes : Nat → Int32} {l0a_echoFrom : Nat → Int32} {l0a_echoTo : Nat → Int32} {l0a_homes : Nat → Int32} {l0a_talls : Nat → Int32} {l0a_known : Nat → Int32} {l1f_huts : Int32} {l1f_singers : Int32} {l1f_villages : Int32} {l1f_dams : Int32} {l1f_echoes : Int32} {l1f_deep : Int32} {l1f_slide : Int32} {l1a_heights : Nat → Int32} {l1a_ladders : Nat → Int32} {l1a_minutes : Nat → Int32} {l1a_echoFrom : Nat → Int32} {l1a_echoTo : Nat → Int32} {l1a_homes : Nat → Int32} {l1a_talls : Nat → Int32} {l1a_known : Nat → Int32} {v0f_deeds : Int32} {v0a_kinds : Nat → Int32} {v0a_firsts : Nat → Int32} {v0a_seconds : Nat → Int32} {v1f_deeds : Int32} {v1a_kinds : Nat → Int32} {v1a_firsts : Nat → Int32} {v1a_seconds : Nat → Int32} {s0f_facts : Int32} {s0a_heard : Nat → Int32} {s0a_huts : Nat → Int32} {s0a_minutes : Nat → Int32} {s1f_facts : Int32} {s1a_heard : Nat → Int32} {s1a_huts : Nat → Int32} {s1a_minutes : Nat → Int32} {c0f_voices : Int32} {c0f_step : Int32} {c0a_parts : Nat → Int32} {c0a_heights : Nat → Int32} {c1f_voices : Int32} {c1f_step : Int32} {c1a_parts : Nat → Int32} {c1a_heights : Nat → Int32} {oa_tape : Nat → Int32} {of_length : Int32} {of_fault : Int32} {of_place : Int32} {oa_counts : Nat → Int32} {ol0f_huts : Int32} {ol0f_singers : Int32} {ol0f_villages : Int32} {ol0f_dams : Int32} {ol0f_echoes : Int32} {ol0f_deep : Int32} {ol0f_slide : Int32} {ol0a_heights : Nat → Int32} {ol0a_ladders : Nat → Int32} {ol0a_minutes : Nat → Int32} {ol0a_echoFrom : Nat → Int32} {ol0a_echoTo : Nat → Int32} {ol0a_homes : Nat → Int32} {ol0a_talls : Nat → Int32} {ol0a_known : Nat → Int32} {ol1f_huts : Int32} {ol1f_singers : Int32} {ol1f_villages : Int32} {ol1f_dams : Int32} {ol1f_echoes : Int32} {ol1f_deep : Int32} {ol1f_slide : Int32} {ol1a_heights : Nat → Int32} {ol1a_ladders : Nat → Int32} {ol1a_minutes : Nat → Int32} {ol1a_echoFrom : Nat → Int32} {ol1a_echoTo : Nat → Int32} {ol1a_homes : Nat → Int32} {ol1a_talls : Nat → Int32} {ol1a_known : Nat → Int32} {ov0f_deeds : Int32} {ov0a_kinds : Nat → Int32} {ov0a_firsts : Nat → Int32} {ov0a_seconds : Nat → Int32} {ov1f_deeds : Int32} {ov1a_kinds : Nat → Int32} {ov1a_firsts : Nat → Int32} {ov1a_seconds : Nat → Int32} {os0f_facts : Int32} {os0a_heard : Nat → Int32} {os0a_huts : Nat → Int32} {os0a_minutes : Nat → Int32} {os1f_facts : Int32} {os1a_heard : Nat → Int32} {os1a_huts : Nat → Int32} {os1a_minutes : Nat → Int32} {oc0f_voices : Int32} {oc0f_step : Int32} {oc0a_parts : Nat → Int32} {oc0a_heights : Nat → Int32} {oc1f_voices : Int32} {oc1f_step : Int32} {oc1a_parts : Nat → Int32} {oc1a_heights : Nat → Int32} {post : (Nat → Int32) → (Int32) → (Int32) → (Int32) → (Nat → Int32) → (Int32) → (Int32) → (Int32) → (Int32) → (Int32) → (Int32) → (Int32) → (Nat → Int32) → (Nat → Int32) → (Nat → Int32) → (Nat → Int32) → (Nat → Int32) → (Nat → Int32) → (Nat → Int32) → (Nat → Int32) → (Int32) → (Int32) → (Int32) → (Int32) → (Int32) → (Int32) → (Int32) → (Nat → Int32) → (Nat → Int32) → (Nat → Int32) → (Nat → Int32) → (Nat → Int32) → (Nat → Int32) → (Nat → Int32) → (Nat → Int32) → (Int32) → (Nat → Int32) → (Nat → Int32) → (Nat → Int32) → (Int32) → (Nat → Int32) → (Nat → Int32) → (Nat → Int32) → (Int32) → (Nat → Int32) → (Nat → Int32) → (Nat → Int32) → (Int32) → (Nat → Int32) → (Nat → Int32) → (Nat → Int32) → (Int32) → (Int32) → (Nat → Int32) → (Nat → Int32) → (Int32) → (Int32) → (Nat → Int32) → (Nat → Int32) → Prop} (k_a_tape : ∀ j, iv (-128) 127 (a_tape j)) (k_f_length : iv 0 600 f_length) (k_f_fault : iv 0 4 f_fault) (k_f_place : iv (-1) 600 f_place) (k_a_counts : ∀ j, iv 0 2 (a_counts j)) (k_l0f_huts : iv 0 9 l0f_huts) (k_l0f_singers : iv 0 6 l0f_singers) (k_l0f_villages : iv 0 511 l0f_villages) (k_l0f_dams : iv 0 511 l0f_dams) (k_l0f_echoes : iv 0 4 l0f_echoes) (k_l0f_deep : iv 1 9 l0f_deep) (k_l0f_slide : iv 0 10 l0f_slide) (k_l0a_heights : ∀ j, iv 0 99 (l0a_heights j)) (k_l0a_ladders : ∀ j, iv 0 9 (l0a_ladders j)) (k_l0a_minutes : ∀ j, iv 0 9 (l0a_minutes j)) (k_l0a_echoFrom : ∀ j, iv 0 8 (l0a_echoFrom j)) (k_l0a_echoTo : ∀ j, iv 0 8 (l0a_echoTo j)) (k_l0a_homes : ∀ j, iv 0 8 (l0a_homes j)) (k_l0a_talls : ∀ j, iv 0 9 (l0a_talls j)) (k_l0a_known : ∀ j, iv 0 31 (l0a_known j)) (k_l1f_huts : iv 0 9 l1f_huts) (k_l1f_singers : iv 0 6 l1f_singers) (k_l1f_villages : iv 0 511 l1f_villages) (k_l1f_dams : iv 0 511 l1f_dams) (k_l1f_echoes : iv 0 4 l1f_echoes) (k_l1f_deep : iv 1 9 l1f_deep) (k_l1f_slide : iv 0 10 l1f_slide) (k_l1a_heights : ∀ j, iv 0 99 (l1a_heights j)) (k_l1a_ladders : ∀ j, iv 0 9 (l1a_ladders j)) (k_l1a_minutes : ∀ j, iv 0 9 (l1a_minutes j)) (k_l1a_echoFrom : ∀ j, iv 0 8 (l1a_echoFrom j)) (k_l1a_echoTo : ∀ j, iv 0 8 (l1a_echoTo j)) (k_l1a_homes : ∀ j, iv 0 8 (l1a_homes j)) (k_l1a_talls : ∀ j, iv 0 9 (l1a_talls j)) (k_l1a_known : ∀ j, iv 0 31 (l1a_known j)) (k_v0f_deeds : iv 0 40 v0f_deeds) (k_v0a_kinds : ∀ j, iv 0 5 (v0a_kinds j)) (k_v0a_firsts : ∀ j, iv 0 5 (v0a_firsts j)) (k_v0a_seconds : ∀ j, iv (-1) 8 (v0a_seconds j)) (k_v1f_deeds : iv 0 40 v1f_deeds) (k_v1a_kinds : ∀ j, iv 0 5 (v1a_kinds j)) (k_v1a_firsts : ∀ j, iv 0 5 (v1a_firsts j)) (k_v1a_seconds : ∀ j, iv (-1) 8 (v1a_seconds j)) (k_s0f_facts : iv 0 10 s0f_facts) (k_s0a_heard : ∀ j, iv 0 1 (s0a_heard j)) (k_s0a_huts : ∀ j, iv 0 8 (s0a_huts j)) (k_s0a_minutes : ∀ j, iv 0 60 (s0a_minutes j)) (k_s1f_facts : iv 0 10 s1f_facts) (k_s1a_heard : ∀ j, iv 0 1 (s1a_heard j)) (k_s1a_huts : ∀ j, iv 0 8 (s1a_huts j)) (k_s1a_minutes : ∀ j, iv 0 60 (s1a_minutes j)) (k_c0f_voices : iv 0 9 c0f_voices) (k_c0f_step : iv 0 9 c0f_step) (k_c0a_parts : ∀ j, iv 0 3 (c0a_parts j)) (k_c0a_heights : ∀ j, iv 0 9 (c0a_heights j)) (k_c1f_voices : iv 0 9 c1f_voices) (k_c1f_step : iv 0 9 c1f_step) (k_c1a_parts : ∀ j, iv 0 3 (c1a_parts j)) (k_c1a_heights : ∀ j, iv 0 9 (c1a_heights j)) (k_oa_tape : ∀ j, iv (-128) 127 (oa_tape j)) (k_of_length : iv 0 600 of_length) (k_of_fault : iv 0 4 of_fault) (k_of_place : iv (-1) 600 of_place) (k_oa_counts : ∀ j, iv 0 2 (oa_counts j)) (k_ol0f_huts : iv 0 9 ol0f_huts) (k_ol0f_singers : iv 0 6 ol0f_singers) (k_ol0f_villages : iv 0 511 ol0f_villages) (k_ol0f_dams : iv 0 511 ol0f_dams) (k_ol0f_echoes : iv 0 4 ol0f_echoes) (k_ol0f_deep : iv 1 9 ol0f_deep) (k_ol0f_slide : iv 0 10 ol0f_slide) (k_ol0a_heights : ∀ j, iv 0 99 (ol0a_heights j)) (k_ol0a_ladders : ∀ j, iv 0 9 (ol0a_ladders j)) (k_ol0a_minutes : ∀ j, iv 0 9 (ol0a_minutes j)) (k_ol0a_echoFrom : ∀ j, iv 0 8 (ol0a_echoFrom j)) (k_ol0a_echoTo : ∀ j, iv 0 8 (ol0a_echoTo j)) (k_ol0a_homes : ∀ j, iv 0 8 (ol0a_homes j)) (k_ol0a_talls : ∀ j, iv 0 9 (ol0a_talls j)) (k_ol0a_known : ∀ j, iv 0 31 (ol0a_known j)) (k_ol1f_huts : iv 0 9 ol1f_huts) (k_ol1f_singers : iv 0 6 ol1f_singers) (k_ol1f_villages : iv 0 511 ol1f_villages) (k_ol1f_dams : iv 0 511 ol1f_dams) (k_ol1f_echoes : iv 0 4 ol1f_echoes) (k_ol1f_deep : iv 1 9 ol1f_deep) (k_ol1f_slide : iv 0 10 ol1f_slide) (k_ol1a_heights : ∀ j, iv 0 99 (ol1a_heights j)) (k_ol1a_ladders : ∀ j, iv 0 9 (ol1a_ladders j)) (k_ol1a_minutes : ∀ j, iv 0 9 (ol1a_minutes j)) (k_ol1a_echoFrom : ∀ j, iv 0 8 (ol1a_echoFrom j)) (k_ol1a_echoTo : ∀ j, iv 0 8 (ol1a_echoTo j)) (k_ol1a_homes : ∀ j, iv 0 8 (ol1a_homes j)) (k_ol1a_talls : ∀ j, iv 0 9 (ol1a_talls j)) (k_ol1a_known : ∀ j, iv 0 31 (ol1a_known j)) (k_ov0f_deeds : iv 0 40 ov0f_deeds) (k_ov0a_kinds : ∀ j, iv 0 5 (ov0a_kinds j)) (k_ov0a_firsts : ∀ j, iv 0 5 (ov0a_firsts j)) (k_ov0a_seconds : ∀ j, iv (-1) 8 (ov0a_seconds j)) (k_ov1f_deeds : iv 0 40 ov1f_deeds) (k_ov1a_kinds : ∀ j, iv 0 5 (ov1a_kinds j)) (k_ov1a_firsts : ∀ j, iv 0 5 (ov1a_firsts j)) (k_ov1a_seconds : ∀ j, iv (-1) 8 (ov1a_seconds j)) (k_os0f_facts : iv 0 10 os0f_facts) (k_os0a_heard : ∀ j, iv 0 1 (os0a_heard j)) (k_os0a_huts : ∀ j, iv 0 8 (os0a_huts j)) (k_os0a_minutes : ∀ j, iv 0 60 (os0a_minutes j)) (k_os1f_facts : iv 0 10 os1f_facts) (k_os1a_heard : ∀ j, iv 0 1 (os1a_heard j)) (k_os1a_huts : ∀ j, iv 0 8 (os1a_huts j)) (k_os1a_minutes : ∀ j, iv 0 60 (os1a_minutes j)) (k_oc0f_voices : iv 0 9 oc0f_voices) (k_oc0f_step : iv 0 9 oc0f_step) (k_oc0a_parts : ∀ j, iv 0 3 (oc0a_parts j)) (k_oc0a_heights : ∀ j, iv 0 9 (oc0a_heights j)) (k_oc1f_voices : iv 0 9 oc1f_voices) (k_oc1f_step : iv 0 9 oc1f_step) (k_oc1a_parts : ∀ j, iv 0 3 (oc1a_parts j)) (k_oc1a_heights : ∀ j, iv 0 9 (oc1a_heights j)) (hpost : ∀ (a_tape : Nat → Int32) (f_length : Int32) (f_fault : Int32) (f_place : Int32) (a_counts : Nat → Int32) (l0f_huts : Int32) (l0f_singers : Int32) (l0f_villages : Int32) (l0f_dams : Int32) (l0f_echoes : Int32) (l0f_deep : Int32) (l0f_slide : Int32) (l0a_heights : Nat → Int32) (l0a_ladders : Nat → Int32) (l0a_minutes : Nat → Int32) (l0a_echoFrom : Nat → Int32) (l0a_echoTo : Nat → Int32) (l0a_homes : Nat → Int32) (l0a_talls : Nat → Int32) (l0a_known : Nat → Int32) (l1f_huts : Int32) (l1f_singers : Int32) (l1f_villages : Int32) (l1f_dams : Int32) (l1f_echoes : Int32) (l1f_deep : Int32) (l1f_slide : Int32) (l1a_heights : Nat → Int32) (l1a_ladders : Nat → Int32) (l1a_minutes : Nat → Int32) (l1a_echoFrom : Nat → Int32) (l1a_echoTo : Nat → Int32) (l1a_homes : Nat → Int32) (l1a_talls : Nat → Int32) (l1a_known : Nat → Int32) (v0f_deeds : Int32) (v0a_kinds : Nat → Int32) (v0a_firsts : Nat → Int32) (v0a_seconds : Nat → Int32) (v1f_deeds : Int32) (v1a_kinds : Nat → Int32) (v1a_firsts : Nat → Int32) (v1a_seconds : Nat → Int32) (s0f_facts : Int32) (s0a_heard : Nat → Int32) (s0a_huts : Nat → Int32) (s0a_minutes : Nat → Int32) (s1f_facts : Int32) (s1a_heard : Nat → Int32) (s1a_huts : Nat → Int32) (s1a_minutes : Nat → Int32) (c0f_voices : Int32) (c0f_step : Int32) (c0a_parts : Nat → Int32) (c0a_heights : Nat → Int32) (c1f_voices : Int32) (c1f_step : Int32) (c1a_parts : Nat → Int32) (c1a_heights : Nat → Int32), f_length = of_length → (∀ j, iv (-128) 127 (a_tape j)) → (iv 0 600 f_length) → (iv 0 4 f_fault) → (iv (-1) 600 f_place) → (∀ j, iv 0 2 (a_counts j)) → (iv 0 9 l0f_huts) → (iv 0 6 l0f_singers) → (iv 0 511 l0f_villages) → (iv 0 511 l0f_dams) → (iv 0 4 l0f_echoes) → (iv 1 9 l0f_deep) → (iv 0 10 l0f_slide) → (∀ j, iv 0 99 (l0a_heights j)) → (∀ j, iv 0 9 (l0a_ladders j)) → (∀ j, iv 0 9 (l0a_minutes j)) → (∀ j, iv 0 8 (l0a_echoFrom j)) → (∀ j, iv 0 8 (l0a_echoTo j)) → (∀ j, iv 0 8 (l0a_homes j)) → (∀ j, iv 0 9 (l0a_talls j)) → (∀ j, iv 0 31 (l0a_known j)) → (iv 0 9 l1f_huts) → (iv 0 6 l1f_singers) → (iv 0 511 l1f_villages) → (iv 0 511 l1f_dams) → (iv 0 4 l1f_echoes) → (iv 1 9 l1f_deep) → (iv 0 10 l1f_slide) → (∀ j, iv 0 99 (l1a_heights j)) → (∀ j, iv 0 9 (l1a_ladders j)) → (∀ j, iv 0 9 (l1a_minutes j)) → (∀ j, iv 0 8 (l1a_echoFrom j)) → (∀ j, iv 0 8 (l1a_echoTo j)) → (∀ j, iv 0 8 (l1a_homes j)) → (∀ j, iv 0 9 (l1a_talls j)) → (∀ j, iv 0 31 (l1a_known j)) → (iv 0 40 v0f_deeds) → (∀ j, iv 0 5 (v0a_kinds j)) → (∀ j, iv 0 5 (v0a_firsts j)) → (∀ j, iv (-1) 8 (v0a_seconds j)) → (iv 0 40 v1f_deeds) → (∀ j, iv 0 5 (v1a_kinds j)) → (∀ j, iv 0 5 (v1a_firsts j)) → (∀ j, iv (-1) 8 (v1a_seconds j)) → (iv 0 10 s0f_facts) → (∀ j, iv 0 1 (s0a_heard j)) → (∀ j, iv 0 8 (s0a_huts j)) → (∀ j, iv 0 60 (s0a_minutes j)) → (iv 0 10 s1f_facts) → (∀ j, iv 0 1 (s1a_heard j)) → (∀ j, iv 0 8 (s1a_huts j)) → (∀ j, iv 0 60 (s1a_minutes j)) → (iv 0 9 c0f_voices) → (iv 0 9 c0f_step) → (∀ j, iv 0 3 (c0a_parts j)) → (∀ j, iv 0 9 (c0a_heights j)) → (iv 0 9 c1f_voices) → (iv 0 9 c1f_step) → (∀ j, iv 0 3 (c1a_parts j)) → (∀ j, iv 0 9 (c1a_heights j)) → post a_tape f_length f_fault f_place a_counts l0f_huts l0f_singers l0f_villages l0f_dams l0f_echoes l0f_deep l0f_slide l0a_heights l0a_ladders l0a_minutes l0a_echoFrom l0a_echoTo l0a_homes l0a_talls l0a_known l1f_huts l1f_singers l1f_villages l1f_dams l1f_echoes l1f_deep l1f_slide l1a_heights l1a_ladders l1a_minutes l1a_echoFrom l1a_echoTo l1a_homes l1a_talls l1a_known v0f_deeds v0a_kinds v0a_firsts v0a_seconds v1f_deeds v1a_kinds v1a_firsts v1a_seconds s0f_facts s0a_heard s0a_huts s0a_minutes s1f_facts s1a_heard s1a_huts s1a_minutes c0f_voices c0f_step c0a_parts c0a_heights c1f_voices c1f_step c1a_parts c1a_heights) : q_wtt_X9_copyFrom_47_0 a_tape f_length f_fault f_place a_counts l0f_huts l0f_singers l0f_villages l0f_dams l0f_echoes l0f_deep l0f_slide l0a_heights l0a_ladders l0a_minutes l0a_echoFrom l0a_echoTo l0a_homes l0a_talls l0a_known l1f_huts l1f_singers l1f_villages l1f_dams l1f_echoes l1f_deep l1f_slide l1a_heights l1a_ladders l1a_minutes l1a_echoFrom l1a_echoTo l1a_homes l1a_talls l1a_known v0f_deeds v0a_kinds v0a_firsts v0a_seconds v1f_deeds v1a_kinds v1a_firsts v1a_seconds s0f_facts s0a_heard s0a_huts s0a_minutes s1f_facts s1a_heard s1a_huts s1a_minutes c0f_voices c0f_step c0a_parts c0a_heights c1f_voices c1f_step c1a_parts c1a_heights oa_tape of_length of_fault of_place oa_counts ol0f_huts ol0f_singers ol0f_villages ol0f_dams ol0f_echoes ol0f_deep ol0f_slide ol0a_heights ol0a_ladders ol0a_minutes ol0a_echoFrom ol0a_echoTo ol0a_homes ol0a_talls ol0a_known ol1f_huts ol1f_singers ol1f_villages ol1f_dams ol1f_echoes ol1f_deep ol1f_slide ol1a_heights ol1a_ladders ol1a_minutes ol1a_echoFrom ol1a_echoTo ol1a_homes ol1a_talls ol1a_known ov0f_deeds ov0a_kinds ov0a_firsts ov0a_seconds ov1f_deeds ov1a_kinds ov1a_firsts ov1a_seconds os0f_facts os0a_heard os0a_huts os0a_minutes os1f_facts os1a_heard os1a_huts os1a_minutes oc0f_voices oc0f_step oc0a_parts oc0a_heights oc1f_voices oc1f_step oc1a_parts oc1a_heights post := by
  refine ⟨iv_nn k_of_length (by decide), ?_⟩
  refine ⟨iv_len (iv_lit (l := 0) (h := 0) (by decide)) k_of_length (by decide), ?_⟩
  refine ⟨iv_len (iv_lit (l := 0) (h := 0) (by decide)) k_of_length (by decide), ?_⟩
  refine ⟨fun i _ => iv_fitB (k_oa_tape _), ?_⟩
  intro a1 ea1
  have k_a1 := iv_cpy ea1 k_oa_tape k_a_tape
  intro a2 ea2
  have k_a2 := iv_cpy ea2 k_oa_counts k_a_counts
  exact e_copy_57 rfl k_a1 k_of_length k_of_fault k_of_place k_a2 k_l0f_huts k_l0f_singers k_l0f_villages k_l0f_dams k_l0f_echoes k_l0f_deep k_l0f_slide k_l0a_heights k_l0a_ladders k_l0a_minutes k_l0a_echoFrom k_l0a_echoTo k_l0a_homes k_l0a_talls k_l0a_known k_l1f_huts k_l1f_singers k_l1f_villages k_l1f_dams k_l1f_echoes k_l1f_deep k_l1f_slide k_l1a_heights k_l1a_ladders k_l1a_minutes k_l1a_echoFrom k_l1a_echoTo k_l1a_homes k_l1a_talls k_l1a_known k_v0f_deeds k_v0a_kinds k_v0a_firsts k_v0a_seconds k_v1f_deeds k_v1a_kinds k_v1a_firsts k_v1a_seconds k_s0f_facts k_s0a_heard k_s0a_huts k_s0a_minutes k_s1f_facts k_s1a_heard k_s1a_huts k_s1a_minutes k_c0f_voices k_c0f_step k_c0a_parts k_c0a_heights k_c1f_voices k_c1f_step k_c1a_parts k_c1a_heights k_oa_tape k_of_length k_of_fault k_of_place k_oa_counts k_ol0f_huts k_ol0f_singers k_ol0f_villages k_ol0f_dams k_ol0f_echoes k_ol0f_deep k_ol0f_slide k_ol0a_heights k_ol0a_ladders k_ol0a_minutes k_ol0a_echoFrom k_ol0a_echoTo k_ol0a_homes k_ol0a_talls k_ol0a_known k_ol1f_huts k_ol1f_singers k_ol1f_villages k_ol1f_dams k_ol1f_echoes k_ol1f_deep k_ol1f_slide k_ol1a_heights k_ol1a_ladders k_ol1a_minutes k_ol1a_echoFrom k_ol1a_echoTo k_ol1a_homes k_ol1a_talls k_ol1a_known k_ov0f_deeds k_ov0a_kinds k_ov0a_firsts k_ov0a_seconds k_ov1f_deeds k_ov1a_kinds k_ov1a_firsts k_ov1a_seconds k_os0f_facts k_os0a_heard k_os0a_huts k_os0a_minutes k_os1f_facts k_os1a_heard k_os1a_huts k_os1a_minutes k_oc0f_voices k_oc0f_step k_oc0a_parts k_oc0a_heights k_oc1f_voices k_oc1f_step k_oc1a_parts k_oc1a_heights (iv_w (iv_lit (l := 0) (h := 0) (by decide)) (by decide)) hpost
end
section
def tsl : Nat → Int := fun k => match k with | 0 => 0 | 1 => 0 | 2 => (-1) | 3 => 0 | 4 => 0 | 5 => 0 | 6 => 0 | 7 => 0 | 8 => 1 | 9 => 0 | 10 => 0 | 11 => 0 | 12 => 0 | 13 => 0 | 14 => 0 | 15 => 1 | 16 => 0 | 17 => 0 | 18 => 0 | 19 => 0 | 20 => 0 | 21 => 0 | 22 => 0 | 23 => 0 | 24 => 0 | _ => (-2147483648)
def tsh : Nat → Int := fun k => match k with | 0 => 600 | 1 => 4 | 2 => 600 | 3 => 9 | 4 => 6 | 5 => 511 | 6 => 511 | 7 => 4 | 8 => 9 | 9 => 10 | 10 => 9 | 11 => 6 | 12 => 511 | 13 => 511 | 14 => 4 | 15 => 9 | 16 => 10 | 17 => 40 | 18 => 40 | 19 => 10 | 20 => 10 | 21 => 9 | 22 => 9 | 23 => 9 | 24 => 9 | _ => 2147483647
def tal : Nat → Int := fun k => match k with | 0 => (-128) | 1 => 0 | 2 => 0 | 3 => 0 | 4 => 0 | 5 => 0 | 6 => 0 | 7 => 0 | 8 => 0 | 9 => 0 | 10 => 0 | 11 => 0 | 12 => 0 | 13 => 0 | 14 => 0 | 15 => 0 | 16 => 0 | 17 => 0 | 18 => 0 | 19 => 0 | 20 => (-1) | 21 => 0 | 22 => 0 | 23 => (-1) | 24 => 0 | 25 => 0 | 26 => 0 | 27 => 0 | 28 => 0 | 29 => 0 | 30 => 0 | 31 => 0 | 32 => 0 | 33 => 0 | _ => (-2147483648)
def tah : Nat → Int := fun k => match k with | 0 => 127 | 1 => 2 | 2 => 99 | 3 => 9 | 4 => 9 | 5 => 8 | 6 => 8 | 7 => 8 | 8 => 9 | 9 => 31 | 10 => 99 | 11 => 9 | 12 => 9 | 13 => 8 | 14 => 8 | 15 => 8 | 16 => 9 | 17 => 31 | 18 => 5 | 19 => 5 | 20 => 8 | 21 => 5 | 22 => 5 | 23 => 8 | 24 => 1 | 25 => 8 | 26 => 60 | 27 => 1 | 28 => 8 | 29 => 60 | 30 => 3 | 31 => 9 | 32 => 3 | 33 => 9 | _ => 2147483647
def tI (S : Nat → Int32) (V : Nat → Nat → Int32) : Prop := (∀ k, iv (tsl k) (tsh k) (S k)) ∧ (∀ k j, iv (tal k) (tah k) (V k j))
abbrev TT : Type := (Nat → Int32) × (Nat → Nat → Int32)
def tJ (T : TT) : Prop := tI T.1 T.2
def tmk (a_tape : Nat → Int32) (f_length : Int32) (f_fault : Int32) (f_place : Int32) (a_counts : Nat → Int32) (l0f_huts : Int32) (l0f_singers : Int32) (l0f_villages : Int32) (l0f_dams : Int32) (l0f_echoes : Int32) (l0f_deep : Int32) (l0f_slide : Int32) (l0a_heights : Nat → Int32) (l0a_ladders : Nat → Int32) (l0a_minutes : Nat → Int32) (l0a_echoFrom : Nat → Int32) (l0a_echoTo : Nat → Int32) (l0a_homes : Nat → Int32) (l0a_talls : Nat → Int32) (l0a_known : Nat → Int32) (l1f_huts : Int32) (l1f_singers : Int32) (l1f_villages : Int32) (l1f_dams : Int32) (l1f_echoes : Int32) (l1f_deep : Int32) (l1f_slide : Int32) (l1a_heights : Nat → Int32) (l1a_ladders : Nat → Int32) (l1a_minutes : Nat → Int32) (l1a_echoFrom : Nat → Int32) (l1a_echoTo : Nat → Int32) (l1a_homes : Nat → Int32) (l1a_talls : Nat → Int32) (l1a_known : Nat → Int32) (v0f_deeds : Int32) (v0a_kinds : Nat → Int32) (v0a_firsts : Nat → Int32) (v0a_seconds : Nat → Int32) (v1f_deeds : Int32) (v1a_kinds : Nat → Int32) (v1a_firsts : Nat → Int32) (v1a_seconds : Nat → Int32) (s0f_facts : Int32) (s0a_heard : Nat → Int32) (s0a_huts : Nat → Int32) (s0a_minutes : Nat → Int32) (s1f_facts : Int32) (s1a_heard : Nat → Int32) (s1a_huts : Nat → Int32) (s1a_minutes : Nat → Int32) (c0f_voices : Int32) (c0f_step : Int32) (c0a_parts : Nat → Int32) (c0a_heights : Nat → Int32) (c1f_voices : Int32) (c1f_step : Int32) (c1a_parts : Nat → Int32) (c1a_heights : Nat → Int32) : TT := (fun k => match k with | 0 => f_length | 1 => f_fault | 2 => f_place | 3 => l0f_huts | 4 => l0f_singers | 5 => l0f_villages | 6 => l0f_dams | 7 => l0f_echoes | 8 => l0f_deep | 9 => l0f_slide | 10 => l1f_huts | 11 => l1f_singers | 12 => l1f_villages | 13 => l1f_dams | 14 => l1f_echoes | 15 => l1f_deep | 16 => l1f_slide | 17 => v0f_deeds | 18 => v1f_deeds | 19 => s0f_facts | 20 => s1f_facts | 21 => c0f_voices | 22 => c0f_step | 23 => c1f_voices | 24 => c1f_step | _ => 0, fun k => match k with | 0 => a_tape | 1 => a_counts | 2 => l0a_heights | 3 => l0a_ladders | 4 => l0a_minutes | 5 => l0a_echoFrom | 6 => l0a_echoTo | 7 => l0a_homes | 8 => l0a_talls | 9 => l0a_known | 10 => l1a_heights | 11 => l1a_ladders | 12 => l1a_minutes | 13 => l1a_echoFrom | 14 => l1a_echoTo | 15 => l1a_homes | 16 => l1a_talls | 17 => l1a_known | 18 => v0a_kinds | 19 => v0a_firsts | 20 => v0a_seconds | 21 => v1a_kinds | 22 => v1a_firsts | 23 => v1a_seconds | 24 => s0a_heard | 25 => s0a_huts | 26 => s0a_minutes | 27 => s1a_heard | 28 => s1a_huts | 29 => s1a_minutes | 30 => c0a_parts | 31 => c0a_heights | 32 => c1a_parts | 33 => c1a_heights | _ => fun _ => 0)
def mmk (a_tape : Nat → Int32) (a_size : Nat → Int32) (a_fault : Nat → Int32) (a_faultPlace : Nat → Int32) (a_many : Nat → Int32) (a_lands : Nat → Int32) (a_evenings : Nat → Int32) (a_sights : Nat → Int32) (a_choirs : Nat → Int32) (a_kept : Nat → Int32) : Nat → Nat → Int32 := fun k => match k with | 0 => a_tape | 1 => a_size | 2 => a_fault | 3 => a_faultPlace | 4 => a_many | 5 => a_lands | 6 => a_evenings | 7 => a_sights | 8 => a_choirs | 9 => a_kept | _ => fun _ => 0
theorem imJ_nI {a : Int32} : imJ a ↔ ∃ k, k < 3 ∧ a = nI k := by
  constructor
  · intro h
    obtain ⟨j, hj, e⟩ := nI_of2 (M := 2) (n := 2) (by decide) (Int32.not_lt.mpr h.1) h.2
    exact ⟨j, by omega, e⟩
  · rintro ⟨k, hk, rfl⟩
    exact ⟨nI_pos' (by omega), nI_le (b := 2) (by omega) (by omega)⟩
end
section
/-- a row of bytes that go on -/
def scn (p : Nat → Bool) : Nat → Nat → Nat
  | 0, r => r
  | m + 1, r => if p r = true then scn p m (r + 1) else r
theorem scn_le (p : Nat → Bool) : ∀ (m r : Nat), r ≤ scn p m r ∧ scn p m r ≤ r + m
  | 0, r => ⟨Nat.le_refl _, Nat.le_refl _⟩
  | m + 1, r => by
    unfold scn
    have := scn_le p m (r + 1)
    by_cases h : p r = true
    · rw [if_pos h]; omega
    · rw [if_neg h]; omega
theorem scn_t {p : Nat → Bool} {m r : Nat} (h : p r = true) : scn p (m + 1) r = scn p m (r + 1) := by
  rw [scn, if_pos h]
theorem scn_f {p : Nat → Bool} {m r : Nat} (h : ¬ p r = true) : scn p m r = r := by
  cases m with
  | zero => rfl
  | succ m => rw [scn, if_neg h]
theorem scn_all (p : Nat → Bool) : ∀ (m r j : Nat), r ≤ j → j < scn p m r → p j = true
  | 0, r, j => fun h1 h2 => absurd h2 (by unfold scn; omega)
  | m + 1, r, j => fun h1 h2 => by
    unfold scn at h2
    by_cases h : p r = true
    · rw [if_pos h] at h2
      by_cases hj : j = r
      · rw [hj]; exact h
      · exact scn_all p m (r + 1) j (by omega) h2
    · rw [if_neg h] at h2; omega
def isB (B : Nat → Int32) (j : Nat) : Bool := decide (B j = 10 ∨ B j = 32)
def isL (B : Nat → Int32) (j : Nat) : Bool := decide (97 ≤ B j ∧ B j ≤ 122)
def isD (B : Nat → Int32) (j : Nat) : Bool := decide (48 ≤ B j ∧ B j ≤ 57)
/-- a token from r on: its first byte, what is behind it, its kind (0 end, 1 word, 2 number, 3 stroke, 4 none), its value -/
def tF (B : Nat → Int32) (n r : Nat) : Nat := scn (isB B) (n - r) r
def tN (B : Nat → Int32) (n r : Nat) : Nat := if tF B n r < n then (if isL B (tF B n r) = true then scn (isL B) (n - tF B n r) (tF B n r) else if isD B (tF B n r) = true then scn (isD B) (n - tF B n r) (tF B n r) else tF B n r + 1) else tF B n r
def tK (B : Nat → Int32) (n r : Nat) : Nat := if tF B n r < n then (if isL B (tF B n r) = true then 1 else if isD B (tF B n r) = true then (if tN B n r - tF B n r ≤ 2 then 2 else 4) else if B (tF B n r) = 59 then 3 else 4) else 0
def vD (B : Nat → Int32) (f : Nat) : Nat → Int32
  | 0 => 0
  | m + 1 => if m < 2 then vD B f m * 10 + B (f + m) - 48 else vD B f m
def tV (B : Nat → Int32) (n r : Nat) : Int32 := vD B (tF B n r) (tN B n r - tF B n r)
def pw (B : Nat → Int32) (f : Nat) : Nat → Int64
  | 0 => 0
  | m + 1 => (pw B f m <<< (Int32.toInt64 8 &&& 63)) ||| Int32.toInt64 (B (f + m) &&& 255)
def tW (B : Nat → Int32) (n r : Nat) : Int64 := if tN B n r - tF B n r ≤ 8 then pw B (tF B n r) (tN B n r - tF B n r) else 0
def sI (k : Nat) : Int32 := if k = 0 then 0 else if k = 1 then 2 else if k = 2 then 3 else if k = 3 then 4 else 1
theorem tF_le {B : Nat → Int32} {n r : Nat} (hr : r ≤ n) : r ≤ tF B n r ∧ tF B n r ≤ n := by
  have := scn_le (isB B) (n - r) r
  unfold tF
  omega
theorem tk_end {B : Nat → Int32} {n r : Nat} (h : ¬ tF B n r < n) : tK B n r = 0 ∧ tN B n r = tF B n r := ⟨if_neg h, if_neg h⟩
theorem tk_let {B : Nat → Int32} {n r f : Nat} (hf : tF B n r = f) (h : f < n) (hL : isL B f = true) : tK B n r = 1 ∧ tN B n r = scn (isL B) (n - f) f := by
  unfold tK tN
  rw [hf, if_pos h, if_pos hL, if_pos h, if_pos hL]
  exact ⟨rfl, rfl⟩
theorem tk_dig {B : Nat → Int32} {n r f : Nat} (hf : tF B n r = f) (h : f < n) (hL : ¬ isL B f = true) (hD : isD B f = true) : tN B n r = scn (isD B) (n - f) f ∧ tK B n r = if scn (isD B) (n - f) f - f ≤ 2 then 2 else 4 := by
  have e : tN B n r = scn (isD B) (n - f) f := by
    unfold tN
    rw [hf, if_pos h, if_neg hL, if_pos hD]
  refine ⟨e, ?_⟩
  unfold tK
  rw [e, hf, if_pos h, if_neg hL, if_pos hD]
theorem tk_sgn {B : Nat → Int32} {n r f : Nat} (hf : tF B n r = f) (h : f < n) (hL : ¬ isL B f = true) (hD : ¬ isD B f = true) : tN B n r = f + 1 ∧ tK B n r = if B f = 59 then 3 else 4 := by
  unfold tK tN
  rw [hf, if_pos h, if_neg hL, if_neg hD, if_pos h, if_neg hL, if_neg hD]
  exact ⟨rfl, rfl⟩
theorem tk_le {B : Nat → Int32} {n r : Nat} (hr : r ≤ n) : tF B n r ≤ tN B n r ∧ tN B n r ≤ n ∧ (¬ tK B n r = 0 → tF B n r < tN B n r) ∧ (tK B n r = 0 → tF B n r = n) ∧ tK B n r ≤ 4 := by
  have h1 := tF_le (B := B) hr
  by_cases h : tF B n r < n
  · by_cases hL : isL B (tF B n r) = true
    · obtain ⟨a, b⟩ := tk_let rfl h hL
      have c := scn_le (isL B) (n - tF B n r) (tF B n r)
      have d : scn (isL B) (n - tF B n r) (tF B n r) = scn (isL B) (n - tF B n r - 1) (tF B n r + 1) := by
        conv => lhs; rw [show n - tF B n r = (n - tF B n r - 1) + 1 by omega]
        exact scn_t hL
      have e := scn_le (isL B) (n - tF B n r - 1) (tF B n r + 1)
      rw [b, a]
      exact ⟨by omega, by omega, fun _ => by omega, fun h => by omega, by omega⟩
    · by_cases hD : isD B (tF B n r) = true
      · obtain ⟨b, a⟩ := tk_dig rfl h hL hD
        have c := scn_le (isD B) (n - tF B n r) (tF B n r)
        have d : scn (isD B) (n - tF B n r) (tF B n r) = scn (isD B) (n - tF B n r - 1) (tF B n r + 1) := by
          conv => lhs; rw [show n - tF B n r = (n - tF B n r - 1) + 1 by omega]
          exact scn_t hD
        have e := scn_le (isD B) (n - tF B n r - 1) (tF B n r + 1)
        have k : tK B n r = 2 ∨ tK B n r = 4 := by
          rw [a]
          by_cases hh : scn (isD B) (n - tF B n r) (tF B n r) - tF B n r ≤ 2
          · rw [if_pos hh]; exact Or.inl rfl
          · rw [if_neg hh]; exact Or.inr rfl
        rw [b]
        exact ⟨by omega, by omega, fun _ => by omega, fun h => by omega, by omega⟩
      · obtain ⟨b, a⟩ := tk_sgn rfl h hL hD
        have k : tK B n r = 3 ∨ tK B n r = 4 := by
          rw [a]
          by_cases hh : B (tF B n r) = 59
          · rw [if_pos hh]; exact Or.inl rfl
          · rw [if_neg hh]; exact Or.inr rfl
        rw [b]
        exact ⟨by omega, by omega, fun _ => by omega, fun h => by omega, by omega⟩
  · obtain ⟨a, b⟩ := tk_end h
    rw [a, b]
    exact ⟨by omega, by omega, fun h => absurd rfl h, fun _ => by omega, by omega⟩
theorem sp_isLet {x : Int32} {post : Int32 → Prop} (h1 : 97 ≤ x ∧ x ≤ 122 → post 1) (h0 : ¬ (97 ≤ x ∧ x ≤ 122) → post 0) : q_z_X4_isLetter_0 x post :=
  ⟨fun h => h0 (fun h2 => absurd h (Int32.not_lt.mpr h2.1)), fun h => ⟨fun g => h0 (fun h2 => absurd g (Int32.not_lt.mpr h2.2)), fun g => h1 ⟨Int32.not_lt.mp h, Int32.not_lt.mp g⟩⟩⟩
theorem sp_isDig {x : Int32} {post : Int32 → Prop} (h1 : 48 ≤ x ∧ x ≤ 57 → post 1) (h0 : ¬ (48 ≤ x ∧ x ≤ 57) → post 0) : q_z_X4_isDigit_0 x post :=
  ⟨fun h => h0 (fun h2 => absurd h (Int32.not_lt.mpr h2.1)), fun h => ⟨fun g => h0 (fun h2 => absurd g (Int32.not_lt.mpr h2.2)), fun g => h1 ⟨Int32.not_lt.mp h, Int32.not_lt.mp g⟩⟩⟩
/-- the class's next token -/
theorem e_adv {tp B : Nat → Int32} {n r : Nat} {ki fi va : Int32} {post : Int32 → Int32 → Int32 → Int32 → Prop} (hn : n ≤ 600) (hr : r ≤ n) (hB : ∀ j, j < n → tp j = B j) (h : ∀ v', (tK B n r = 2 → v' = tV B n r) → post (nI (tN B n r)) (nI (tK B n r)) (nI (tF B n r)) v') : q_wr_X4_advance_0 tp (nI n) (nI r) ki fi va post := by
  have hF := tF_le (B := B) hr
  have f41 : ∀ f, tF B n r = f → q_wr_X4_advance_41 tp (nI n) (nI r) ki fi va (nI f) post := by
    intro f hf
    have hfn : f ≤ n := by omega
    refine pk_lt f n (fun hlt => ?_) (fun hge => ?_)
    · have hin : vp_in (nI f) 600 := vp_in_nI (by omega) (by omega)
      refine ⟨hin, ?_⟩
      rw [nI_clamp (by omega), hB f hlt]
      refine sp_isLet (fun a => oi ?_) (fun hnl => iz ⟨hin, ?_⟩)
      · have hL : isL B f = true := decide_eq_true a
        obtain ⟨hK, hN⟩ := tk_let hf hlt hL
        have fin : ∀ j, j = tN B n r → q_wr_X4_advance_149 tp (nI n) (nI r) 1 (nI f) va (nI j) post := by
          intro j hj
          have h1 := h va (fun hk => absurd (hK.symm.trans hk) (by decide))
          rw [← hj, hK, hf] at h1
          exact h1
        intro P hP
        have loop : ∀ m j, m + j = n → scn (isL B) m j = tN B n r → P (nI j) := by
          intro m
          induction m with
          | zero =>
            intro j hj hs
            apply hP
            refine pk_le n j (fun _ => fin j hs) (fun hlt2 => absurd hlt2 (by omega))
          | succ m ih =>
            intro j hj hs
            apply hP
            refine pk_le n j (fun hlt2 => absurd hlt2 (by omega)) (fun _ => ⟨vp_in_nI (by omega) (by omega), ?_⟩)
            rw [nI_clamp (by omega), hB j (by omega)]
            refine sp_isLet (fun a => oi (fun v e => ?_)) (fun a => iz (fin j ?_))
            · rw [e, nI_1]
              refine ih (j + 1) (by omega) ?_
              rw [← hs]
              exact (scn_t (decide_eq_true a)).symm
            · rw [← hs]
              exact (scn_f (by unfold isL; rw [decide_eq_true_iff]; exact a)).symm
        exact loop (n - f) f (by omega) hN.symm
      · have hL : ¬ isL B f = true := by unfold isL; rw [decide_eq_true_iff]; exact hnl
        refine sp_isDig (fun a => oi ?_) (fun hnd => iz ⟨hin, ?_⟩)
        · have hD : isD B f = true := decide_eq_true a
          obtain ⟨hN, hK⟩ := tk_dig hf hlt hL hD
          have fin : ∀ j, j = tN B n r → f < j → j ≤ n → q_wr_X4_readNumber_68 tp (nI n) ki (vD B f (j - f)) (nI f) (nI j) (fun r_3 f_kind_1 f_value_1 => q_wr_X4_advance_149 tp (nI n) (nI r) f_kind_1 (nI f) f_value_1 r_3 post) := by
            intro j hj h1 h2
            have e : nI j - nI f = nI (j - f) := pk_sub (by omega)
            have hv : tV B n r = vD B f (j - f) := by unfold tV; rw [hf, hj]
            rw [← hN, ← hj] at hK
            have g := h (vD B f (j - f)) (fun _ => hv.symm)
            rw [← hj, hf] at g
            unfold q_wr_X4_readNumber_68
            rw [e]
            refine pk_lt 2 (j - f) (fun h3 => ?_) (fun h3 => ?_)
            · rw [if_neg (by omega)] at hK
              rw [hK] at g
              exact g
            · rw [if_pos (by omega)] at hK
              rw [hK] at g
              exact g
          intro P hP
          have loop : ∀ m j, m + j = n → f ≤ j → (f = j → 0 < m) → scn (isD B) m j = tN B n r → P (nI j) (vD B f (j - f)) := by
            intro m
            induction m with
            | zero =>
              intro j hj hfj h0 hs
              apply hP
              refine pk_le n j (fun _ => fin j hs (by omega) (by omega)) (fun hlt2 => absurd hlt2 (by omega))
            | succ m ih =>
              intro j hj hfj h0 hs
              apply hP
              have hin2 : vp_in (nI j) 600 := vp_in_nI (by omega) (by omega)
              refine pk_le n j (fun hlt2 => absurd hlt2 (by omega)) (fun _ => ⟨hin2, ?_⟩)
              rw [nI_clamp (by omega), hB j (by omega)]
              refine sp_isDig (fun a2 => oi ?_) (fun a2 => iz (fin j ?_ ?_ (by omega)))
              · have nx : ∀ y, y = vD B f (j + 1 - f) → q_wr_X4_readNumber_59 P tp (nI n) ki (vD B f (j - f)) (nI f) (nI j) y (fun r_3 f_kind_1 f_value_1 => q_wr_X4_advance_149 tp (nI n) (nI r) f_kind_1 (nI f) f_value_1 r_3 post) := by
                  intro y hy v e
                  rw [e, nI_1, hy]
                  refine ih (j + 1) (by omega) (by omega) (fun h9 => by omega) ?_
                  rw [← hs]
                  exact (scn_t (decide_eq_true a2)).symm
                have e2 : nI j - nI f = nI (j - f) := pk_sub (by omega)
                have e3 : j + 1 - f = (j - f) + 1 := by omega
                rw [e2]
                refine pk_le 2 (j - f) (fun h3 => nx _ ?_) (fun h3 => ⟨hin2, nx _ ?_⟩)
                · rw [e3, vD, if_neg (by omega)]
                · rw [e3, vD, if_pos h3, show f + (j - f) = j by omega]
              · rw [← hs]
                exact (scn_f (by unfold isD; rw [decide_eq_true_iff]; exact a2)).symm
              · refine Nat.lt_of_le_of_ne hfj (fun h9 => a2 ?_)
                rw [← h9]; exact a
          have h0 := loop (n - f) f (by omega) (Nat.le_refl f) (fun _ => by omega) hN.symm
          rw [Nat.sub_self] at h0
          exact h0
        · have hD : ¬ isD B f = true := by unfold isD; rw [decide_eq_true_iff]; exact hnd
          obtain ⟨hN, hK⟩ := tk_sgn hf hlt hL hD
          refine ⟨fun a v e => ?_, fun a v e => ?_⟩
          · rw [if_neg a] at hK
            have g := h va (fun hk => absurd (hK.symm.trans hk) (by decide))
            rw [hN, hK, hf] at g
            rw [e, nI_1]
            exact g
          · rw [if_pos a] at hK
            have g := h va (fun hk => absurd (hK.symm.trans hk) (by decide))
            rw [hN, hK, hf] at g
            rw [e, nI_1]
            exact g
    · obtain ⟨hK, hN⟩ := tk_end (B := B) (n := n) (r := r) (by omega)
      have g := h va (fun hk => absurd (hK.symm.trans hk) (by decide))
      rw [hN, hK, hf] at g
      exact g
  intro P hP
  have loop : ∀ m j, m + j = n → scn (isB B) m j = tF B n r → P (nI j) := by
    intro m
    induction m with
    | zero =>
      intro j hj hs
      apply hP
      refine pk_le n j (fun _ => f41 j hs.symm) (fun hlt2 => absurd hlt2 (by omega))
    | succ m ih =>
      intro j hj hs
      apply hP
      have hin2 : vp_in (nI j) 600 := vp_in_nI (by omega) (by omega)
      have nx : isB B j = true → q_wr_X4_advance_35 P tp (nI n) (nI r) ki fi va (nI j) post := by
        intro hb v e
        rw [e, nI_1]
        refine ih (j + 1) (by omega) ?_
        rw [← hs]
        exact (scn_t hb).symm
      refine pk_le n j (fun hlt2 => absurd hlt2 (by omega)) (fun _ => ⟨hin2, ?_⟩)
      rw [nI_clamp (by omega), hB j (by omega)]
      refine ⟨fun a => nx (decide_eq_true (Or.inl a)), fun a => ⟨hin2, fun a2 => f41 j ?_, fun a2 => nx (decide_eq_true (Or.inr a2))⟩⟩
      rw [← hs]
      exact scn_f (by unfold isB; rw [decide_eq_true_iff]; exact fun h9 => h9.elim a a2)
  exact loop (n - r) r (by omega) rfl
end
section
theorem u8_tab : ∀ k, k < 256 → (((nI k - 128) &&& 255 = 10) ↔ nI k - 128 = 10) ∧ (((nI k - 128) &&& 255 = 32) ↔ nI k - 128 = 32) ∧ (((nI k - 128) &&& 255 = 59) ↔ nI k - 128 = 59) ∧ ((97 ≤ (nI k - 128) &&& 255 ∧ (nI k - 128) &&& 255 ≤ 122) ↔ (97 ≤ nI k - 128 ∧ nI k - 128 ≤ 122)) ∧ ((48 ≤ (nI k - 128) &&& 255 ∧ (nI k - 128) &&& 255 ≤ 57) ↔ (48 ≤ nI k - 128 ∧ nI k - 128 ≤ 57)) ∧ (0 ≤ nI k - 128 → (nI k - 128) &&& 255 = nI k - 128) ∧ 0 ≤ (nI k - 128) &&& 255 := by decide +kernel
theorem u8 {x : Int32} (h : iv (-128) 127 x) : ((x &&& 255 = 10) ↔ x = 10) ∧ ((x &&& 255 = 32) ↔ x = 32) ∧ ((x &&& 255 = 59) ↔ x = 59) ∧ ((97 ≤ x &&& 255 ∧ x &&& 255 ≤ 122) ↔ (97 ≤ x ∧ x ≤ 122)) ∧ ((48 ≤ x &&& 255 ∧ x &&& 255 ≤ 57) ↔ (48 ≤ x ∧ x ≤ 57)) ∧ (0 ≤ x → x &&& 255 = x) ∧ 0 ≤ x &&& 255 := by
  have h2 : iv 0 255 (x + 128) := iv_add (l := 0) (h := 255) h (iv_lit (x := 128) (l := 128) (h := 128) (by decide)) (by decide)
  obtain ⟨k, hk, -, hk2, -⟩ := iv_nI h2 (by decide)
  have e : x = nI k - 128 := by rw [← hk]; simp
  rw [e]
  exact u8_tab k (by omega)
theorem sp_see1 {tp B : Nat → Int32} {j n : Nat} {post : Int32 → Prop} (hn : n ≤ 600) (hB : ∀ j, j < n → tp j = B j) (hj : j < n) (h : post (B j &&& 255)) : q_m_see_0 tp (nI j) (nI n) post :=
  sp_seeE (Nat.le_of_lt hj) hn (fun e => absurd e (by omega)) (fun _ => by rw [hB j hj]; exact h)
theorem sp_see0 {tp : Nat → Int32} {j n : Nat} {post : Int32 → Prop} (hn : n ≤ 600) (hj : j = n) (h : post (-1)) : q_m_see_0 tp (nI j) (nI n) post :=
  sp_seeE (Nat.le_of_eq hj) hn (fun _ => h) (fun e => absurd e (by omega))
theorem isL_n {B : Nat → Int32} {j : Nat} (h : ¬ (97 ≤ B j ∧ B j ≤ 122)) : ¬ isL B j = true := by unfold isL; rw [decide_eq_true_iff]; exact h
theorem isD_n {B : Nat → Int32} {j : Nat} (h : ¬ (48 ≤ B j ∧ B j ≤ 57)) : ¬ isD B j = true := by unfold isD; rw [decide_eq_true_iff]; exact h
theorem dig_0 {x : Int32} (h : 48 ≤ x ∧ x ≤ 57) : 0 ≤ x := Int32.le_iff_toInt_le.mpr (by have := r_le h.1; have e : (48 : Int32).toInt = 48 := rfl; have e0 : (0 : Int32).toInt = 0 := rfl; omega)
theorem let_0 {x : Int32} (h : 97 ≤ x ∧ x ≤ 122) : 0 ≤ x := Int32.le_iff_toInt_le.mpr (by have := r_le h.1; have e : (97 : Int32).toInt = 97 := rfl; have e0 : (0 : Int32).toInt = 0 := rfl; omega)
/-- the reference's next token -/
theorem e_tok {tp B : Nat → Int32} {n r : Nat} {be so va : Int32} {wd : Int64} {post : Int32 → Int32 → Int32 → Int32 → Int64 → Prop} (hn : n ≤ 600) (hr : r ≤ n) (hB : ∀ j, j < n → tp j = B j) (hb : ∀ j, iv (-128) 127 (B j)) (h : ∀ v' w', (tK B n r = 2 → v' = tV B n r) → (tK B n r = 1 → w' = tW B n r) → post (nI (tN B n r)) (nI (tF B n r)) (sI (tK B n r)) v' w') : q_m_token_0 tp (nI r) (nI n) be so va wd post := by
  have hF := tF_le (B := B) hr
  intro P hP
  have loop : ∀ m j, m + j = n → scn (isB B) m j = tF B n r → P (nI j) := by
    intro m
    induction m with
    | zero =>
      intro j hj hs
      have hj2 : j = n := by omega
      apply hP
      refine sp_see0 hn hj2 ⟨fun h9 => absurd h9 (by decide), fun _ => ?_⟩
      refine sp_see0 hn hj2 ⟨fun _ => ?_, fun h9 => absurd h9 (by decide)⟩
      refine sp_see0 hn hj2 ⟨fun h9 => absurd h9 (by decide), fun _ => ?_⟩
      have hf : tF B n r = j := hs.symm
      obtain ⟨hK, hN⟩ := tk_end (B := B) (n := n) (r := r) (by omega)
      have g := h va 0 (fun hk => absurd (hK.symm.trans hk) (by decide)) (fun hk => absurd (hK.symm.trans hk) (by decide))
      rw [hN, hK, hf] at g
      exact g
    | succ m ih =>
      intro j hj hs
      have hlt : j < n := by omega
      obtain ⟨u10, u32, u59, uL, uD, up, u0⟩ := u8 (hb j)
      apply hP
      have k18 : isB B j = true → q_m_token_18 P tp (nI j) (nI n) be so va wd post := by
        intro hb2 v e
        rw [e, nI_1]
        refine ih (j + 1) (by omega) ?_
        rw [← hs]
        exact (scn_t hb2).symm
      refine sp_see1 hn hB hlt ⟨fun a => k18 (decide_eq_true (Or.inl (u10.mp a))), fun a => ?_⟩
      refine sp_see1 hn hB hlt ⟨fun a2 => ?_, fun a2 => k18 (decide_eq_true (Or.inr (u32.mp a2)))⟩
      have hf : tF B n r = j := by
        rw [← hs]
        exact scn_f (by unfold isB; rw [decide_eq_true_iff]; exact fun h9 => h9.elim (fun e => a (u10.mpr e)) (fun e => a2 (u32.mpr e)))
      refine sp_see1 hn hB hlt ⟨fun _ => ?_, fun h9 => absurd u0 h9⟩
      refine sp_in (fun hnl => iz ?_) (fun l1 l2 => oi ?_)
      · have hL := isL_n (fun h9 => hnl (uL.mpr h9))
        refine sp_in (fun hnd => iz ?_) (fun d1 d2 => oi ?_)
        · have hD := isD_n (fun h9 => hnd (uD.mpr h9))
          obtain ⟨hN, hK⟩ := tk_sgn hf hlt hL hD
          intro v e
          rw [e, nI_1]
          refine ⟨fun c => ?_, fun c => ?_⟩
          · rw [if_neg (fun h9 => c (u59.mpr h9))] at hK
            have g := h va 0 (fun hk => absurd (hK.symm.trans hk) (by decide)) (fun hk => absurd (hK.symm.trans hk) (by decide))
            rw [hN, hK, hf] at g
            exact g
          · rw [if_pos (u59.mp c)] at hK
            have g := h va 0 (fun hk => absurd (hK.symm.trans hk) (by decide)) (fun hk => absurd (hK.symm.trans hk) (by decide))
            rw [hN, hK, hf] at g
            exact g
        · have hD : isD B j = true := decide_eq_true (uD.mp ⟨d1, d2⟩)
          obtain ⟨hN, hK⟩ := tk_dig hf hlt hL hD
          have fin : ∀ i, j + i = tN B n r → ((nI i ≤ 2 → q_m_token_235 tp (nI (j + i)) (nI n) (nI j) so (vD B j i) 0 3 post) ∧ (¬ nI i ≤ 2 → q_m_token_235 tp (nI (j + i)) (nI n) (nI j) so (vD B j i) 0 1 post)) ∨ 600 < i := by
            intro i hi
            by_cases h6 : 600 < i
            · exact Or.inr h6
            refine Or.inl ?_
            have hv : tV B n r = vD B j i := by unfold tV; rw [hf, ← hi]; congr 1; omega
            have g0 := h (vD B j i) 0 (fun _ => hv.symm)
            rw [← hN, ← hi, show j + i - j = i by omega] at hK
            rw [← hi, hf] at g0
            refine pk_le i 2 (fun h3 => ?_) (fun h3 => ?_)
            · rw [if_pos h3] at hK
              have g := g0 (fun hk => absurd (hK.symm.trans hk) (by decide))
              rw [hK] at g
              exact g
            · rw [if_neg (by omega)] at hK
              have g := g0 (fun hk => absurd (hK.symm.trans hk) (by decide))
              rw [hK] at g
              exact g
          intro P2 hP2
          have loop2 : ∀ q i, q + (j + i) = n → scn (isD B) q (j + i) = tN B n r → P2 (nI i) (nI (j + i)) (vD B j i) := by
            intro q
            induction q with
            | zero =>
              intro i hi hs2
              apply hP2
              refine sp_see0 hn (by omega) (sp_in (fun _ => iz ?_) (fun g1 _ => absurd g1 (by decide)))
              exact (fin i hs2).resolve_right (by omega)
            | succ q ih2 =>
              intro i hi hs2
              have hlt2 : j + i < n := by omega
              obtain ⟨-, -, -, -, uD2, up2, -⟩ := u8 (hb (j + i))
              apply hP2
              refine sp_see1 hn hB hlt2 (sp_in (fun c => iz ?_) (fun c1 c2 => oi ?_))
              · refine (fin i ?_).resolve_right (by omega)
                rw [← hs2]
                exact (scn_f (isD_n (fun h9 => c (uD2.mpr h9)))).symm
              · have hd2 := uD2.mp ⟨c1, c2⟩
                have nx : ∀ y, y = vD B j (i + 1) → q_m_token_205 P2 tp (nI (j + i)) (nI n) (nI j) so (vD B j i) 0 (nI i) y post := by
                  intro y hy v1 e1 v2 e2
                  rw [e1, e2, nI_1, nI_1, hy]
                  refine ih2 (i + 1) (by omega) ?_
                  rw [← hs2]
                  exact (scn_t (decide_eq_true hd2)).symm
                refine pk_le 2 i (fun h3 => nx _ ?_) (fun h3 => sp_see1 hn hB hlt2 (nx _ ?_))
                · rw [vD, if_neg (by omega)]
                · rw [vD, if_pos h3, up2 (dig_0 hd2), Int32.mul_comm]
          have h0 := loop2 (n - j) 0 (by omega) hN.symm
          exact h0
      · have hL : isL B j = true := decide_eq_true (uL.mp ⟨l1, l2⟩)
        obtain ⟨hK, hN⟩ := tk_let hf hlt hL
        have fin : ∀ i, j + i = tN B n r → ((nI i ≤ 8 → q_m_token_136 tp (nI (j + i)) (nI n) (nI j) so va (pw B j i) (pw B j i) post) ∧ (¬ nI i ≤ 8 → q_m_token_136 tp (nI (j + i)) (nI n) (nI j) so va (pw B j i) 0 post)) ∨ 600 < i := by
          intro i hi
          by_cases h6 : 600 < i
          · exact Or.inr h6
          refine Or.inl ?_
          have e9 : j + i - j = i := by omega
          have hw : tW B n r = if i ≤ 8 then pw B j i else 0 := by unfold tW; rw [hf, ← hi, e9]
          have g0 := fun w (hw2 : w = tW B n r) => h va w (fun hk => absurd (hK.symm.trans hk) (by decide)) (fun _ => hw2)
          rw [← hi, hf, hK] at g0
          refine pk_le i 8 (fun h3 => g0 _ (by rw [hw, if_pos h3])) (fun h3 => g0 _ (by rw [hw, if_neg (by omega)]))
        intro P2 hP2
        have loop2 : ∀ q i, q + (j + i) = n → scn (isL B) q (j + i) = tN B n r → P2 (nI i) (nI (j + i)) (pw B j i) := by
          intro q
          induction q with
          | zero =>
            intro i hi hs2
            apply hP2
            refine sp_see0 hn (by omega) (sp_in (fun _ => iz ?_) (fun g1 _ => absurd g1 (by decide)))
            exact (fin i hs2).resolve_right (by omega)
          | succ q ih2 =>
            intro i hi hs2
            have hlt2 : j + i < n := by omega
            obtain ⟨-, -, -, uL2, -, up2, -⟩ := u8 (hb (j + i))
            apply hP2
            refine sp_see1 hn hB hlt2 (sp_in (fun c => iz ?_) (fun c1 c2 => oi ?_))
            · refine (fin i ?_).resolve_right (by omega)
              rw [← hs2]
              exact (scn_f (isL_n (fun h9 => c (uL2.mpr h9)))).symm
            · refine sp_see1 hn hB hlt2 (fun v1 e1 v2 e2 v3 e3 => ?_)
              rw [e1, e2, e3, nI_1, nI_1]
              refine ih2 (i + 1) (by omega) ?_
              rw [← hs2]
              exact (scn_t (decide_eq_true (uL2.mp ⟨c1, c2⟩))).symm
        exact loop2 (n - j) 0 (by omega) hN.symm
  exact loop (n - r) r (by omega) rfl
end
section
/-- words: which of the spellings a row of letters is -/
def spl (B : Nat → Int32) (f e w : Nat) : Prop := e - f = sLen.getD w 0 ∧ ∀ i, i < sLen.getD w 0 → B (f + i) = (sByt.getD w []).getD i 0
theorem spl_tab : ∀ i, i < 20 → ∀ j, j < 20 → ¬ i = j → ¬ sLen.getD i 0 = sLen.getD j 0 ∨ ∃ k, k < sLen.getD i 0 ∧ ¬ (sByt.getD i []).getD k 0 = (sByt.getD j []).getD k 0 := by decide +kernel
theorem spl_un {B : Nat → Int32} {f e i j : Nat} (hi : i < 20) (hj : j < 20) (h1 : spl B f e i) (h2 : spl B f e j) : i = j := by
  by_cases h : i = j
  · exact h
  · exfalso
    rcases spl_tab i hi j hj h with a | ⟨k, hk, a⟩
    · exact a (h1.1.symm.trans h2.1)
    · exact a ((h1.2 k hk).symm.trans (h2.2 k (by rw [← h2.1, h1.1]; exact hk)))
def wlo (o : Nat) : Nat := [0, 10, 16, 18, 20].getD o 0
def wP (B : Nat → Int32) (n r o j : Nat) : Prop := wlo o ≤ j ∧ j < wlo (o + 1) ∧ tK B n r = 1 ∧ spl B (tF B n r) (tN B n r) j
noncomputable def wOf (B : Nat → Int32) (n r o : Nat) : Nat := @dite Nat (∃ j, wP B n r o j) (Classical.propDecidable _) (fun h => Classical.choose h) (fun _ => 20)
theorem wlo_lt : ∀ o, o ≤ 3 → wlo (o + 1) ≤ 20 ∧ wlo o < wlo (o + 1) := by decide
theorem wd_is {B : Nat → Int32} {n r o j : Nat} (ho : o ≤ 3) (h : wP B n r o j) : wOf B n r o = j := by
  have hex : ∃ j, wP B n r o j := ⟨j, h⟩
  have e : wOf B n r o = Classical.choose hex := by unfold wOf; exact dif_pos hex
  rw [e]
  have hc := Classical.choose_spec hex
  have := (wlo_lt o ho).1
  exact spl_un (Nat.lt_of_lt_of_le hc.2.1 this) (Nat.lt_of_lt_of_le h.2.1 this) hc.2.2.2 h.2.2.2
theorem wd_no {B : Nat → Int32} {n r o : Nat} (h : ∀ j, ¬ wP B n r o j) : wOf B n r o = 20 := by
  unfold wOf
  exact dif_neg (fun ⟨j, hj⟩ => h j hj)
theorem wd_cases {B : Nat → Int32} {n r o : Nat} (ho : o ≤ 3) : (wOf B n r o = 20 ∧ ∀ j, ¬ wP B n r o j) ∨ (wOf B n r o < 20 ∧ wP B n r o (wOf B n r o)) := by
  by_cases h : ∃ j, wP B n r o j
  · obtain ⟨j, hj⟩ := h
    rw [wd_is ho hj]
    exact Or.inr ⟨Nat.lt_of_lt_of_le hj.2.1 (wlo_lt o ho).1, hj⟩
  · exact Or.inl ⟨wd_no (fun j hj => h ⟨j, hj⟩), fun j hj => h ⟨j, hj⟩⟩
theorem sB_tab : ∀ w, w < 20 → ∀ i, i < sLen.getD w 0 → (sByt.getD w []).getD i 0 &&& 255 = (sByt.getD w []).getD i 0 := by decide +kernel
theorem sL_tab : ∀ w, w < 20 → 0 < sLen.getD w 0 ∧ sLen.getD w 0 ≤ 7 := by decide +kernel
theorem e_spelled {tp B : Nat → Int32} {n f e w : Nat} {post : Int32 → Prop} (hn : n ≤ 600) (hf : f ≤ e) (he : e ≤ n) (hB : ∀ j, j < n → tp j = B j) (hw : w < 20) (h1 : spl B f e w → post 1) (h0 : ¬ spl B f e w → post 0) : q_wr_X4_isSpelled_0 tp (nI e) (nI f) w post := by
  have hl := sL_tab w hw
  refine ⟨hw, fun hq => ?_, fun hq => h0 (fun hs => hq ?_)⟩
  · rw [pk_sub hf] at hq
    have hq2 : sLen.getD w 0 = e - f := (nI_eq (by omega) (by omega)).mp hq
    intro P hP
    have loop : ∀ m i, m + i = sLen.getD w 0 → (∀ k, k < i → B (f + k) = (sByt.getD w []).getD k 0) → P (nI i) := by
      intro m
      induction m with
      | zero =>
        intro i hi hk
        apply hP
        refine ⟨hw, pk_le (sLen.getD w 0) i (fun _ => h1 ⟨hq2.symm, fun k hk2 => hk k (by omega)⟩) (fun h9 => absurd h9 (by omega))⟩
      | succ m ih =>
        intro i hi hk
        apply hP
        refine ⟨hw, pk_le (sLen.getD w 0) i (fun h9 => absurd h9 (by omega)) (fun _ => ?_)⟩
        rw [nI_add, nI_clamp (n := f + i) (by omega), nI_clamp (n := i) (by omega), hB (f + i) (by omega), sB_tab w hw i (by omega)]
        refine ⟨vp_in_nI (by omega) (by omega), hw, vp_in_nI (by omega) (by omega), fun hq3 v ev => ?_, fun hq3 => h0 (fun hs => hq3 (hs.2 i (by omega)))⟩
        rw [ev, nI_1]
        refine ih (i + 1) (by omega) (fun k hk2 => ?_)
        by_cases hki : k = i
        · rw [hki]; exact hq3
        · exact hk k (by omega)
    exact loop (sLen.getD w 0) 0 (by omega) (fun k hk => absurd hk (by omega))
  · rw [pk_sub hf, hs.1]
theorem wlo_tb : ∀ o, o ≤ 4 → tbf_0 o = nI (wlo o) := by decide +kernel
theorem e_wordOf {tp B : Nat → Int32} {n r o : Nat} {post : Int32 → Prop} (hn : n ≤ 600) (hr : r ≤ n) (ho : o ≤ 3) (hB : ∀ j, j < n → tp j = B j) (h0 : wOf B n r o = 20 → post (-1)) (h1 : wOf B n r o < 20 → wP B n r o (wOf B n r o) → post (nI (wOf B n r o))) : q_wr_X4_wordOf_0 tp (nI (tN B n r)) (nI (tK B n r)) (nI (tF B n r)) (nI o) post := by
  have hk := tk_le (B := B) hr
  have hwl := wlo_lt o ho
  refine pk_eq (tK B n r) 1 (fun hK => ⟨vp_in_nI (by omega) (by omega), fun v ev => ?_⟩) (fun hK => h0 (wd_no (fun j hj => hK hj.2.2.1)))
  rw [nI_clamp (by omega), wlo_tb o (by omega)] at ev
  rw [ev]
  intro P hP
  have loop : ∀ m j, m + j = wlo (o + 1) → wlo o ≤ j → (∀ i, wlo o ≤ i → i < j → ¬ spl B (tF B n r) (tN B n r) i) → P (nI j) := by
    intro m
    induction m with
    | zero =>
      intro j hj hlo hi
      apply hP
      rw [nI_1, nI_clamp (n := o + 1) (by omega), wlo_tb (o + 1) (by omega)]
      refine ⟨vp_in_nI (by omega) (by omega), pk_le (wlo (o + 1)) j (fun _ => h0 (wd_no (fun k hk2 => hi k hk2.1 (by have := hk2.2.1; omega) hk2.2.2.2))) (fun h9 => absurd h9 (by omega))⟩
    | succ m ih =>
      intro j hj hlo hi
      apply hP
      rw [nI_1, nI_clamp (n := o + 1) (by omega), wlo_tb (o + 1) (by omega)]
      refine ⟨vp_in_nI (by omega) (by omega), pk_le (wlo (o + 1)) j (fun h9 => absurd h9 (by omega)) (fun _ => ⟨vp_in_nI (by omega) (by omega), ?_⟩)⟩
      rw [nI_clamp (n := j) (by omega)]
      refine e_spelled hn hk.1 hk.2.1 hB (by omega) (fun hs => oi ?_) (fun hs => iz (fun v2 e2 => ?_))
      · have hp : wP B n r o j := ⟨hlo, by omega, hK, hs⟩
        have e := wd_is ho hp
        have g := h1 (by omega) (by rw [e]; exact hp)
        rw [e] at g
        exact g
      · rw [e2, nI_1]
        refine ih (j + 1) (by omega) (by omega) (fun i hi1 hi2 => ?_)
        by_cases hij : i = j
        · rw [hij]; exact hs
        · exact hi i hi1 (by omega)
  exact loop (wlo (o + 1) - wlo o) (wlo o) (by omega) (Nat.le_refl _) (fun i h9 h8 => absurd h8 (by omega))
/-- packed words -/
def pN (d : Nat → Nat) : Nat → Nat
  | 0 => 0
  | m + 1 => 256 * pN d m + d m
def pL : List Nat → Nat
  | [] => 0
  | a :: l => 256 * pL l + a
theorem pN_inj (d : Nat → Nat) : ∀ (l : List Nat) (m : Nat), (∀ i, i < m → 0 < d i ∧ d i < 256) → (∀ a, a ∈ l → 0 < a ∧ a < 256) → pN d m = pL l → m = l.length ∧ ∀ i, i < m → d i = l.getD (m - 1 - i) 0
  | [], 0 => fun _ _ _ => ⟨rfl, fun i hi => absurd hi (by omega)⟩
  | [], m + 1 => fun h _ e => by
    have := h m (by omega)
    simp only [pN, pL] at e
    omega
  | a :: l, 0 => fun _ h e => by
    have := h a (by simp)
    simp only [pN, pL] at e
    omega
  | a :: l, m + 1 => fun h1 h2 e => by
    have a1 := h1 m (by omega)
    have a2 := h2 a (by simp)
    simp only [pN, pL] at e
    obtain ⟨e1, e2⟩ := pN_inj d l m (fun i hi => h1 i (by omega)) (fun b hb => h2 b (by simp [hb])) (by omega)
    refine ⟨by simp [e1], fun i hi => ?_⟩
    by_cases him : i = m
    · subst him
      have : i + 1 - 1 - i = 0 := by omega
      rw [this]
      simp only [List.getD_cons_zero]
      omega
    · rw [e2 i (by omega)]
      have : m + 1 - 1 - i = (m - 1 - i) + 1 := by omega
      rw [this, List.getD_cons_succ]
theorem pN_lt (d : Nat → Nat) : ∀ m, (∀ i, i < m → d i < 256) → pN d m < 256 ^ m
  | 0 => fun _ => by simp [pN]
  | m + 1 => fun h => by
    have a := h m (by omega)
    have b := pN_lt d m (fun i hi => h i (by omega))
    rw [Nat.pow_succ]
    simp only [pN]
    omega
def wC : List Nat := [6845812, 33329961647564645, 6578541, 1684366704, 495740085349, 7823737, 1701013615, 119165551928690, 126896661030258, 461414299507, 422608071022, 1936289383, 33610324346432613, 2002873451, 427020610914, 28259043934301796, 448377483876, 1836414053, 508675318629, 1937007984]
def rB (w : Nat) : List Nat := ((sByt.getD w []).map Int32.toNatClampNeg).reverse
theorem rB_tab : ∀ w, w < 20 → pL (rB w) = wC.getD w 0 ∧ (rB w).length = sLen.getD w 0 ∧ (∀ a, a ∈ rB w → 0 < a ∧ a < 256) ∧ (∀ i, i < sLen.getD w 0 → nI ((rB w).getD (sLen.getD w 0 - 1 - i) 0) = (sByt.getD w []).getD i 0) := by decide +kernel
theorem wC_lt : ∀ w, w < 20 → wC.getD w 0 < 2 ^ 63 ∧ 0 < wC.getD w 0 := by decide +kernel
theorem sh8 {a b : Nat} (ha : a < 2 ^ 55) (hb : b < 256) : (lN a <<< (Int32.toInt64 8 &&& 63)) ||| lN b = lN (256 * a + b) := by
  have e8 : (Int32.toInt64 8 &&& 63 : Int64) = 8 := by decide
  rw [e8]
  apply Int64.toBitVec_inj.mp
  apply BitVec.eq_of_toNat_eq
  have h1 : (lN a).toBitVec.toNat = a := by
    show a % 2 ^ 64 = a
    exact Nat.mod_eq_of_lt (by omega)
  have h2 : (lN b).toBitVec.toNat = b := by
    show b % 2 ^ 64 = b
    exact Nat.mod_eq_of_lt (by omega)
  have h3 : (lN (256 * a + b)).toBitVec.toNat = 256 * a + b := by
    show (256 * a + b) % 2 ^ 64 = 256 * a + b
    exact Nat.mod_eq_of_lt (by omega)
  rw [h3, Int64.toBitVec_or, Int64.toBitVec_shiftLeft, BitVec.toNat_or, h2]
  have e9 : ((8 : Int64).toBitVec.smod 64) = 8 := by decide
  rw [e9]
  have e10 : ((lN a).toBitVec <<< (8 : BitVec 64)).toNat = 256 * a := by
    rw [BitVec.shiftLeft_eq', BitVec.toNat_shiftLeft, h1]
    show (a <<< 8) % 2 ^ 64 = 256 * a
    rw [Nat.shiftLeft_eq]
    rw [Nat.mod_eq_of_lt (by omega)]
    omega
  rw [e10]
  have := Nat.shiftLeft_add_eq_or_of_lt (b := b) (i := 8) (by omega) a
  rw [Nat.shiftLeft_eq] at this
  rw [show 256 * a = a * 2 ^ 8 by omega]
  exact this.symm
def dB (B : Nat → Int32) (f i : Nat) : Nat := (B (f + i)).toNatClampNeg
theorem let_n {x : Int32} (h : 97 ≤ x ∧ x ≤ 122) : ∃ d : Nat, x = nI d ∧ 97 ≤ d ∧ d ≤ 122 := by
  have e1 : (97 : Int32).toInt = 97 := rfl
  have e2 : (122 : Int32).toInt = 122 := rfl
  obtain ⟨d, h1, h2, h3, h4⟩ := iv_nI (a := 97) (b := 122) (x := x) ⟨by have := r_le h.1; omega, by have := r_le h.2; omega⟩ (by decide)
  exact ⟨d, h1, by omega, by omega⟩
theorem pw_pN {B : Nat → Int32} {f : Nat} (hb : ∀ j, iv (-128) 127 (B j)) : ∀ m, m ≤ 8 → (∀ i, i < m → 97 ≤ B (f + i) ∧ B (f + i) ≤ 122) → pw B f m = lN (pN (dB B f) m) ∧ pN (dB B f) m < 128 * 256 ^ (m - 1)
  | 0 => fun _ _ => ⟨rfl, by simp [pN]⟩
  | m + 1 => fun hm h => by
    obtain ⟨d, hd, d1, d2⟩ := let_n (h m (by omega))
    have e : Int32.toInt64 (B (f + m) &&& 255) = lN d := by
      rw [(u8 (hb (f + m))).2.2.2.2.2.1 (let_0 (h m (by omega))), hd]
      exact nI_l (by omega)
    have hdm : dB B f m = d := by unfold dB; rw [hd]; exact nI_clamp (by omega)
    obtain ⟨e1, e2⟩ := pw_pN hb m (by omega) (fun i hi => h i (by omega))
    have hp : 256 ^ (m - 1) ≤ 256 ^ 6 := Nat.pow_le_pow_right (by omega) (by omega)
    have e6 : (256 : Nat) ^ 6 = 281474976710656 := by decide
    have hlt : pN (dB B f) m < 2 ^ 55 := by omega
    refine ⟨?_, ?_⟩
    · show (pw B f m <<< (Int32.toInt64 8 &&& 63)) ||| Int32.toInt64 (B (f + m) &&& 255) = lN (256 * pN (dB B f) m + dB B f m)
      rw [e, e1, hdm]
      exact sh8 hlt (by omega)
    · show 256 * pN (dB B f) m + dB B f m < 128 * 256 ^ (m + 1 - 1)
      rw [hdm]
      cases m with
      | zero => simp only [pN]; omega
      | succ m =>
        rw [show m + 1 + 1 - 1 = (m + 1 - 1) + 1 by omega, Nat.pow_succ]
        omega
/-- a word of the reference is a spelling -/
theorem tW_iff {B : Nat → Int32} {n r j : Nat} (hr : r ≤ n) (hb : ∀ j, iv (-128) 127 (B j)) (hj : j < 20) (hK : tK B n r = 1) : tW B n r = lN (wC.getD j 0) ↔ spl B (tF B n r) (tN B n r) j := by
  have hk := tk_le (B := B) hr
  obtain ⟨r1, r2, r3, r4⟩ := rB_tab j hj
  have hw := wC_lt j hj
  have hL := sL_tab j hj
  have hlt : tF B n r < n := by
    have := hk.2.2.1 (by omega)
    omega
  have hLf : isL B (tF B n r) = true := by
    by_cases h : isL B (tF B n r) = true
    · exact h
    · exfalso
      by_cases hD : isD B (tF B n r) = true
      · have := (tk_dig rfl hlt h hD).2
        rw [hK] at this
        by_cases h2 : scn (isD B) (n - tF B n r) (tF B n r) - tF B n r ≤ 2
        · rw [if_pos h2] at this; omega
        · rw [if_neg h2] at this; omega
      · have := (tk_sgn rfl hlt h hD).2
        rw [hK] at this
        by_cases h2 : B (tF B n r) = 59
        · rw [if_pos h2] at this; omega
        · rw [if_neg h2] at this; omega
  have hN := (tk_let rfl hlt hLf).2
  have hall : ∀ i, i < tN B n r - tF B n r → 97 ≤ B (tF B n r + i) ∧ B (tF B n r + i) ≤ 122 := by
    intro i hi
    have h9 := scn_all (isL B) (n - tF B n r) (tF B n r) (tF B n r + i) (by omega) (by rw [← hN]; omega)
    unfold isL at h9
    exact of_decide_eq_true h9
  by_cases h8 : tN B n r - tF B n r ≤ 8
  · have hp := pw_pN hb _ h8 hall
    have hd : ∀ i, i < tN B n r - tF B n r → 0 < dB B (tF B n r) i ∧ dB B (tF B n r) i < 256 := by
      intro i hi
      obtain ⟨d, hd, d1, d2⟩ := let_n (hall i hi)
      unfold dB
      rw [hd, nI_clamp (by omega)]
      omega
    have hlt63 : pN (dB B (tF B n r)) (tN B n r - tF B n r) < 2 ^ 63 := by
      have h7 : 256 ^ (tN B n r - tF B n r - 1) ≤ 256 ^ 7 := Nat.pow_le_pow_right (by omega) (by omega)
      have e7 : (256 : Nat) ^ 7 = 72057594037927936 := by decide
      omega
    have e : tW B n r = lN (pN (dB B (tF B n r)) (tN B n r - tF B n r)) := by
      unfold tW
      rw [if_pos h8]
      exact hp.1
    rw [e, pk_lEQ hlt63 hw.1, ← r1]
    constructor
    · intro h
      obtain ⟨e1, e2⟩ := pN_inj _ (rB j) _ hd r3 h
      rw [r2] at e1
      refine ⟨e1, fun i hi => ?_⟩
      have e3 := e2 i (by omega)
      rw [e1] at e3
      rw [← r4 i hi, ← e3]
      obtain ⟨d, hd2, d1, d2⟩ := let_n (hall i (by omega))
      unfold dB
      rw [hd2, nI_clamp (by omega)]
    · intro h
      have e4 : ∀ (l : List Nat) (m : Nat), m = l.length → (∀ i, i < m → dB B (tF B n r) i = l.getD (m - 1 - i) 0) → pN (dB B (tF B n r)) m = pL l := by
        intro l
        induction l with
        | nil => intro m hm _; rw [hm]; rfl
        | cons a l ih =>
          intro m hm hq
          rw [List.length_cons] at hm
          subst hm
          simp only [pN, pL]
          have ha := hq l.length (by omega)
          rw [show l.length + 1 - 1 - l.length = 0 by omega] at ha
          simp only [List.getD_cons_zero] at ha
          rw [ha, ih l.length rfl (fun i hi => ?_)]
          have hb2 := hq i (by omega)
          rw [show l.length + 1 - 1 - i = (l.length - 1 - i) + 1 by omega, List.getD_cons_succ] at hb2
          exact hb2
      refine e4 (rB j) _ (by rw [r2]; exact h.1) (fun i hi => ?_)
      unfold dB
      have h5 : i < sLen.getD j 0 := by rw [← h.1]; exact hi
      rw [h.2 i h5, ← r4 i h5, h.1]
      refine nI_clamp ?_
      have hmem : (rB j).getD (sLen.getD j 0 - 1 - i) 0 < 256 := by
        rw [List.getD_eq_getElem?_getD]
        cases e9 : (rB j)[sLen.getD j 0 - 1 - i]? with
        | none => simp
        | some x => exact (r3 x (List.mem_of_getElem? e9)).2
      omega
  · have e : tW B n r = lN 0 := by
      unfold tW
      rw [if_neg h8]
      rfl
    rw [e, pk_lEQ (by omega) hw.1]
    constructor
    · intro h; omega
    · intro h; have := h.1; omega
end
section
/-- a line: the places of its tokens -/
def ps (B : Nat → Int32) (n r : Nat) : Nat → Nat
  | 0 => r
  | k + 1 => tN B n (ps B n r k)
theorem ps_le {B : Nat → Int32} {n r : Nat} (hr : r ≤ n) : ∀ k, r ≤ ps B n r k ∧ ps B n r k ≤ n
  | 0 => ⟨Nat.le_refl _, hr⟩
  | k + 1 => by
    have h := ps_le (B := B) hr k
    have h1 := tF_le (B := B) h.2
    have h2 := tk_le (B := B) h.2
    show r ≤ tN B n (ps B n r k) ∧ tN B n (ps B n r k) ≤ n
    omega
def nW (w : Nat) : Nat := [1, 1, 1, 1, 1, 3, 2, 2, 2, 2, 2, 2, 2, 2, 1, 1, 2, 2, 2, 1].getD w 0
theorem nW_tb : ∀ w, w < 20 → tbf_1 w = nI (nW w) ∧ 1 ≤ nW w ∧ nW w ≤ 3 := by decide +kernel
def cb (lo hi but v : Int32) : Bool := decide (lo ≤ v ∧ v ≤ hi ∧ ¬ v = but)
def cW (w k : Nat) (a v : Int32) : Bool := cb (tbf_2 (w * 3 + k)) (tbf_3 (w * 3 + k)) (if k = 1 ∧ (w = 5 ∨ w = 6) then a else -1) v
def fu (w : Nat) (td : Nat → Int32) : Bool := decide ((w = 0 ∧ td 0 = 9) ∨ (w = 6 ∧ td 4 = 4) ∨ (w = 8 ∧ td 1 = 6) ∨ (10 ≤ w ∧ w < 16 ∧ td 0 = 40) ∨ (16 ≤ w ∧ w < 18 ∧ td 0 = 10) ∨ (w = 18 ∧ td 0 = 9))
def mF (c : Bool) (lf f : Int32) : Int32 := if c = true then lf else if lf = 0 then f else lf
def mP (c : Bool) (lf lp pl : Int32) : Int32 := if c = true then lp else if lf = 0 then pl else lp
def mkF (B : Nat → Int32) (n r w : Nat) (td : Nat → Int32) (fa : Int32) : Nat → Int32
  | 0 => mF (!fu w td) fa 3
  | k + 1 => mF (cW w k (tV B n (ps B n r 1)) (tV B n (ps B n r (k + 1)))) (mkF B n r w td fa k) 2
def mkP (B : Nat → Int32) (n r w : Nat) (td : Nat → Int32) (fa pl : Int32) : Nat → Int32
  | 0 => mP (!fu w td) fa pl (nI (tF B n r))
  | k + 1 => mP (cW w k (tV B n (ps B n r 1)) (tV B n (ps B n r (k + 1)))) (mkF B n r w td fa k) (mkP B n r w td fa pl k) (nI (tF B n (ps B n r (k + 1))))
def gd (B : Nat → Int32) (n r w : Nat) : Nat → Bool
  | 0 => true
  | k + 1 => gd B n r w k && cW w k (tV B n (ps B n r 1)) (tV B n (ps B n r (k + 1)))
/-- the token of a line with which no text goes on; 9: none -/
def lbr (B : Nat → Int32) (n r : Nat) : Nat → Nat → Nat
  | 0, k => if tK B n (ps B n r (k + 1)) = 3 then 9 else k + 1
  | d + 1, k => if tK B n (ps B n r (k + 1)) = 2 then lbr B n r d (k + 1) else k + 1
noncomputable def lb (B : Nat → Int32) (n r o : Nat) : Nat := if wOf B n r o = 20 then 0 else lbr B n r (nW (wOf B n r o)) 0
def gr (a b : Int32) : Int32 := if b < a then a else b
/-- what a line tells -/
def lD (w : Nat) (g : Bool) (a b c : Int32) (td : Nat → Int32) : Nat → Int32 :=
  if w = 0 then (if td 0 = 9 then td else upd (upd td 0 (td 0 + 1)) (Int32.toNatClampNeg (7 + td 0)) a)
  else if w = 1 then upd td 2 (td 2 ||| (if g = true then 1 <<< (a &&& 31) else 0))
  else if w = 2 then upd td 3 (td 3 ||| (if g = true then 1 <<< (a &&& 31) else 0))
  else if w = 3 then upd td 5 a
  else if w = 4 then upd td 6 a
  else if w = 5 then (if g = true then upd (upd td (Int32.toNatClampNeg ((51 + 9 * a) + b)) c) (Int32.toNatClampNeg ((51 + 9 * b) + a)) c else td)
  else if w = 6 then (if td 4 = 4 then td else upd (upd (upd td 4 (td 4 + 1)) (Int32.toNatClampNeg (43 + 2 * td 4)) a) (Int32.toNatClampNeg (43 + 2 * td 4 + 1)) b)
  else if w = 7 then (if g = true then upd td (Int32.toNatClampNeg (16 + a)) b else td)
  else if w = 8 then (if td 1 = 6 then td else upd (upd (upd td 1 (td 1 + 1)) (Int32.toNatClampNeg (25 + td 1)) a) (Int32.toNatClampNeg (31 + td 1)) b)
  else if w = 9 then (if g = true then upd td (Int32.toNatClampNeg (37 + a)) (td (Int32.toNatClampNeg (37 + a)) ||| 1 <<< (b &&& 31)) else td)
  else if w < 16 then (if td 0 = 40 then td else upd (upd (upd (upd td 0 (td 0 + 1)) (Int32.toNatClampNeg ((1 + 3 * td 0) + 0)) (nI (w - 10))) (Int32.toNatClampNeg ((1 + 3 * td 0) + 1)) a) (Int32.toNatClampNeg ((1 + 3 * td 0) + 2)) (if w < 14 then b else -1))
  else if w < 18 then (if td 0 = 10 then td else upd (upd (upd (upd td 0 (td 0 + 1)) (Int32.toNatClampNeg ((1 + 3 * td 0) + 0)) (if w = 16 then 1 else 0)) (Int32.toNatClampNeg ((1 + 3 * td 0) + 1)) a) (Int32.toNatClampNeg ((1 + 3 * td 0) + 2)) b)
  else if w = 18 then (if td 0 = 9 then td else upd (upd (upd td 0 (td 0 + 1)) (Int32.toNatClampNeg ((1 + 2 * td 0) + 0)) a) (Int32.toNatClampNeg ((1 + 2 * td 0) + 1)) b)
  else upd td 19 a
def lH (w : Nat) (a b fh : Int32) : Int32 := if w = 5 ∨ w = 6 then gr (gr fh a) b else if w = 1 ∨ w = 2 ∨ w = 7 ∨ w = 8 then gr fh a else fh
def lS (w : Nat) (a fs : Int32) : Int32 := if w = 9 then gr fs a else fs
/-- the end of a text -/
def fin4 (o n : Nat) (fa pl : Int32) (td : Nat → Int32) (fh fs : Int32) : Int32 × Int32 × (Nat → Int32) :=
  if fa = 0 ∧ o = 0 ∧ (td 0 ≤ fh ∨ td 1 ≤ fs) then (4, nI n, td) else (fa, pl, td)
noncomputable def go (B : Nat → Int32) (n o : Nat) : Nat → Nat → Int32 → Int32 → (Nat → Int32) → Int32 → Int32 → Int32 × Int32 × (Nat → Int32)
  | 0, _, fa, pl, td, _, _ => (fa, pl, td)
  | m + 1, r, fa, pl, td, fh, fs =>
    if tK B n r = 0 then fin4 o n fa pl td fh fs
    else if lb B n r o = 9 then go B n o m (ps B n r (nW (wOf B n r o) + 2)) (mkF B n r (wOf B n r o) td fa (nW (wOf B n r o))) (mkP B n r (wOf B n r o) td fa pl (nW (wOf B n r o))) (lD (wOf B n r o) (gd B n r (wOf B n r o) (nW (wOf B n r o))) (tV B n (ps B n r 1)) (tV B n (ps B n r 2)) (tV B n (ps B n r 3)) td) (lH (wOf B n r o) (tV B n (ps B n r 1)) (tV B n (ps B n r 2)) fh) (lS (wOf B n r o) (tV B n (ps B n r 1)) fs)
    else (1, nI (tF B n (ps B n r (lb B n r o))), td)
/-- counts are within their bounds -/
def CB (o : Nat) (td : Nat → Int32) : Prop := iv 0 (if o = 0 then 9 else if o = 1 then 40 else if o = 2 then 10 else 9) (td 0) ∧ (o = 0 → iv 0 6 (td 1) ∧ iv 0 4 (td 4))
/-- the class's drafts are as the told row -/
def LDR (huts singers villages dams echoes deep slide : Int32) (heights ladders minutes echoFrom echoTo homes talls known td : Nat → Int32) : Prop :=
  huts = td 0 ∧ singers = td 1 ∧ villages = td 2 ∧ dams = td 3 ∧ echoes = td 4 ∧ deep = td 5 ∧ slide = td 6 ∧ (∀ j, j < (td 0).toNatClampNeg → heights j = td (7 + j)) ∧ (∀ j, j < 9 → ladders j = td (16 + j)) ∧ (∀ j, j < 81 → minutes j = td (51 + j)) ∧ (∀ j, j < (td 4).toNatClampNeg → echoFrom j = td (43 + 2 * j) ∧ echoTo j = td (44 + 2 * j)) ∧ (∀ j, j < (td 1).toNatClampNeg → homes j = td (25 + j) ∧ talls j = td (31 + j)) ∧ (∀ j, j < 6 → known j = td (37 + j))
def R3 (c : Int32) (a b d td : Nat → Int32) : Prop := c = td 0 ∧ ∀ j, j < (td 0).toNatClampNeg → a j = td (1 + 3 * j) ∧ b j = td (2 + 3 * j) ∧ d j = td (3 + 3 * j)
def CDR (voices step : Int32) (parts heights td : Nat → Int32) : Prop := voices = td 0 ∧ step = td 19 ∧ ∀ j, j < (td 0).toNatClampNeg → parts j = td (1 + 2 * j) ∧ heights j = td (2 + 2 * j)
def HB (h g : Int32) : Prop := ∀ k : Nat, k ≤ 9 → (h >>> (nI k &&& 31) = 0 ↔ g < nI k)
theorem HB_0 : HB 0 (-1) := by
  intro k hk
  have : ∀ k, k ≤ 9 → ((0 : Int32) >>> (nI k &&& 31) = 0 ↔ (-1 : Int32) < nI k) := by decide +kernel
  exact this k hk
theorem sh_tab : ∀ i, i ≤ 8 → ∀ k, k ≤ 9 → (((1 : Int32) <<< (nI i &&& 31)) >>> (nI k &&& 31) = 0 ↔ nI i < nI k) := by decide +kernel
theorem or_z {x y : Int32} : x ||| y = 0 ↔ x = 0 ∧ y = 0 := by
  constructor
  · intro h
    have h1 : x.toBitVec ||| y.toBitVec = 0#32 := by
      have := congrArg Int32.toBitVec h
      rw [Int32.toBitVec_or] at this
      exact this
    have hx : x.toBitVec = 0#32 := by
      apply BitVec.eq_of_getLsbD_eq
      intro i hi
      have h2 := congrArg (fun b => b.getLsbD i) h1
      simp only [BitVec.getLsbD_or, BitVec.getLsbD_zero, Bool.or_eq_false_iff] at h2
      rw [h2.1, BitVec.getLsbD_zero]
    have hy : y.toBitVec = 0#32 := by
      apply BitVec.eq_of_getLsbD_eq
      intro i hi
      have h2 := congrArg (fun b => b.getLsbD i) h1
      simp only [BitVec.getLsbD_or, BitVec.getLsbD_zero, Bool.or_eq_false_iff] at h2
      rw [h2.2, BitVec.getLsbD_zero]
    exact ⟨Int32.toBitVec_inj.mp hx, Int32.toBitVec_inj.mp hy⟩
  · rintro ⟨rfl, rfl⟩; rfl
theorem shr_or (x y s : Int32) : (x ||| y) >>> s = (x >>> s) ||| (y >>> s) := by
  apply Int32.toBitVec_inj.mp
  simp only [Int32.toBitVec_or, Int32.toBitVec_shiftRight]
  apply BitVec.eq_of_getLsbD_eq
  intro i hi
  simp only [BitVec.sshiftRight_eq', BitVec.getLsbD_sshiftRight, BitVec.getLsbD_or, BitVec.msb_or]
  split <;> simp_all <;> exact Bool.and_or_distrib_left _ _ _
theorem gr_lt {g a k : Int32} : gr g a < k ↔ g < k ∧ a < k := by
  unfold gr
  by_cases h : a < g
  · rw [if_pos h]
    exact ⟨fun h2 => ⟨h2, Int32.lt_trans h h2⟩, fun h2 => h2.1⟩
  · rw [if_neg h]
    exact ⟨fun h2 => ⟨Int32.lt_of_le_of_lt (Int32.not_lt.mp h) h2, h2⟩, fun h2 => h2.2⟩
theorem HB_or {h g a : Int32} (hh : HB h g) (ha : iv 0 8 a) : HB (h ||| (1 <<< (a &&& 31))) (gr g a) := by
  obtain ⟨i, rfl, -, hi, -⟩ := iv_nI ha (by decide)
  intro k hk
  rw [shr_or, or_z, gr_lt, hh k hk, sh_tab i (by omega) k hk]
theorem or_assoc3 (x y z : Int32) : x ||| (y ||| z) = x ||| y ||| z := by
  apply Int32.toBitVec_inj.mp
  simp only [Int32.toBitVec_or]
  exact (BitVec.or_assoc _ _ _).symm
theorem HB_or2 {h g a b : Int32} (hh : HB h g) (ha : iv 0 8 a) (hb : iv 0 8 b) : HB (h ||| ((1 <<< (a &&& 31)) ||| (1 <<< (b &&& 31)))) (gr (gr g a) b) := by
  rw [or_assoc3]
  exact HB_or (HB_or hh ha) hb
end
