theorem sp_isLandWord {w : Int64} {post : Int32 → Prop} (h0 : post 0) (h1 : post 1) : q_m_isLandWord_0 w post := by
  unfold q_m_isLandWord_0 q_m_isLandWord_80
  exact ⟨fun _ => h1, fun _ => ⟨fun _ => h1, fun _ => ⟨fun _ => h1, fun _ => ⟨fun _ => h1, fun _ => ⟨fun _ => h1, fun _ => ⟨fun _ => h1, fun _ => ⟨fun _ => h1, fun _ => ⟨fun _ => h1, fun _ => ⟨fun _ => h1, fun _ => ⟨fun _ => h0, fun _ => h1⟩⟩⟩⟩⟩⟩⟩⟩⟩⟩
theorem sp_deedBy {w : Int64} {post : Int32 → Prop} (hm : post (-1)) (h : ∀ d, d ≤ 5 → post (nI d)) : q_m_deedBy_0 w post :=
  ⟨fun _ => ⟨fun _ => ⟨fun _ => ⟨fun _ => ⟨fun _ => ⟨fun _ => hm, fun _ => h 5 (by omega)⟩, fun _ => h 4 (by omega)⟩, fun _ => h 3 (by omega)⟩, fun _ => h 2 (by omega)⟩, fun _ => h 1 (by omega)⟩, fun _ => h 0 (by omega)⟩
section PM
variable {tp rd told : Nat → Int32} {re be so va wr lf lp fh fs gd x : Int32} {wd w : Int64} {n : Nat}
theorem sp_landLine {post : Int32 → Int32 → Int32 → Int32 → Int32 → Int64 → Int32 → Int32 → Int32 → (Nat → Int32) → (Nat → Int32) → Int32 → Int32 → Int32 → Prop} (hn : n ≤ 600) (hre : mTk n re) (hI : LI 0 lf fh told)
    (h0 : ∀ re be so va wd wr lf lp told rd fh fs gd, post 0 re be so va wd wr lf lp told rd fh fs gd)
    (h1 : ∀ re' be so' va wd wr lf' lp told' rd fh' fs gd, mTk n re' → adv re re' so' → LI 0 lf' fh' told' → post 1 re' be so' va wd wr lf' lp told' rd fh' fs gd) : q_m_landLine_0 tp re (nI n) be so va wd wr lf lp told rd fh fs gd w x post := by
  have k60 : ∀ lf' lp', (lf' = 0 → lf = 0) → q_m_landLine_60 tp re (nI n) be so va wd wr lf' lp' told rd fh fs gd w post := by
    intro lf' lp' hl
    have hI2 : LI 0 lf' fh told := LI_up hI hl (Int.le_refl _)
    refine sp_tokenT hn hre (fun re1 be1 so1 va1 wd1 g1 g2 => ?_)
    have k93 : q_m_landLine_93 tp re1 (nI n) be1 so1 va1 wd1 wr lf' lp' told rd fh fs gd w post := ⟨fun _ => sp_bitLine (k := 3) (Or.inr rfl) hn g1 hI2 (fun _ _ _ _ _ _ _ _ _ _ _ _ => ⟨rfl, h0 _ _ _ _ _ _ _ _ _ _ _ _ _⟩) (fun _ _ _ _ _ _ _ _ _ _ _ _ a b c => ⟨rfl, h1 _ _ _ _ _ _ _ _ _ _ _ _ _ a (adv_tr g2 b) c⟩), fun _ => sp_bitLine (k := 2) (Or.inl rfl) hn g1 hI2 (fun _ _ _ _ _ _ _ _ _ _ _ _ => ⟨rfl, h0 _ _ _ _ _ _ _ _ _ _ _ _ _⟩) (fun _ _ _ _ _ _ _ _ _ _ _ _ a b c => ⟨rfl, h1 _ _ _ _ _ _ _ _ _ _ _ _ _ a (adv_tr g2 b) c⟩)⟩
    refine ⟨fun _ => ⟨fun _ => k93, fun _ => ⟨fun _ => ⟨fun _ => ⟨fun _ => ⟨fun _ => ⟨fun _ => ⟨fun _ => ⟨fun _ => ?_, fun _ => ?_⟩, fun _ => ?_⟩, fun _ => ?_⟩, fun _ => ?_⟩, fun _ => ?_⟩, fun _ => ?_⟩, fun _ => k93⟩⟩, fun _ => ?_⟩
    · exact sp_knowsLine hn g1 hI2 (fun _ _ _ _ _ _ _ _ _ _ _ _ => ⟨rfl, h0 _ _ _ _ _ _ _ _ _ _ _ _ _⟩) (fun _ _ _ _ _ _ _ _ _ _ _ _ a b c => ⟨rfl, h1 _ _ _ _ _ _ _ _ _ _ _ _ _ a (adv_tr g2 b) c⟩)
    · exact sp_singerLine hn g1 hI2 (fun _ _ _ _ _ _ _ _ _ _ _ _ => ⟨rfl, h0 _ _ _ _ _ _ _ _ _ _ _ _ _⟩) (fun _ _ _ _ _ _ _ _ _ _ _ _ a b c => ⟨rfl, h1 _ _ _ _ _ _ _ _ _ _ _ _ _ a (adv_tr g2 b) c⟩)
    · exact sp_ladderLine hn g1 hI2 (fun _ _ _ _ _ _ _ _ _ _ _ _ => ⟨rfl, h0 _ _ _ _ _ _ _ _ _ _ _ _ _⟩) (fun _ _ _ _ _ _ _ _ _ _ _ _ a b c => ⟨rfl, h1 _ _ _ _ _ _ _ _ _ _ _ _ _ a (adv_tr g2 b) c⟩)
    · exact sp_echoLine hn g1 hI2 (fun _ _ _ _ _ _ _ _ _ _ _ _ => ⟨rfl, h0 _ _ _ _ _ _ _ _ _ _ _ _ _⟩) (fun _ _ _ _ _ _ _ _ _ _ _ _ a b c => ⟨rfl, h1 _ _ _ _ _ _ _ _ _ _ _ _ _ a (adv_tr g2 b) c⟩)
    · exact sp_wayLine hn g1 hI2 (fun _ _ _ _ _ _ _ _ _ _ _ _ => ⟨rfl, h0 _ _ _ _ _ _ _ _ _ _ _ _ _⟩) (fun _ _ _ _ _ _ _ _ _ _ _ _ a b c => ⟨rfl, h1 _ _ _ _ _ _ _ _ _ _ _ _ _ a (adv_tr g2 b) c⟩)
    · exact sp_plainLine (k := 6) (l0 := 0) (by decide) (by decide) rfl rfl hn g1 hI2 (fun _ _ _ _ _ _ _ _ _ _ _ => ⟨rfl, h0 _ _ _ _ _ _ _ _ _ _ _ _ _⟩) (fun _ _ _ _ _ _ _ _ _ _ _ a b c => ⟨rfl, h1 _ _ _ _ _ _ _ _ _ _ _ _ _ a (adv_tr g2 b) c⟩)
    · exact sp_plainLine (k := 5) (l0 := 1) (by decide) (by decide) rfl rfl hn g1 hI2 (fun _ _ _ _ _ _ _ _ _ _ _ => ⟨rfl, h0 _ _ _ _ _ _ _ _ _ _ _ _ _⟩) (fun _ _ _ _ _ _ _ _ _ _ _ a b c => ⟨rfl, h1 _ _ _ _ _ _ _ _ _ _ _ _ _ a (adv_tr g2 b) c⟩)
    · exact sp_hutLine hn g1 hI2 (fun _ _ _ _ _ _ _ _ _ _ _ => ⟨rfl, h0 _ _ _ _ _ _ _ _ _ _ _ _ _⟩) (fun _ _ _ _ _ _ _ _ _ _ _ a b c => ⟨rfl, h1 _ _ _ _ _ _ _ _ _ _ _ _ _ a (adv_tr g2 b) c⟩)
  have k44 : ∀ lf' lp', (lf' = 0 → lf = 0) → q_m_landLine_44 tp re (nI n) be so va wd wr lf' lp' told rd fh fs gd w x post := fun lf' lp' hl => ⟨fun _ => k60 _ _ hl, fun _ => sp_full (iv_lit (by decide)) (fun l2 p2 h2 => k60 _ _ (fun h => hl (h2 h)))⟩
  have k29 : ∀ lf' lp', (lf' = 0 → lf = 0) → q_m_landLine_29 tp re (nI n) be so va wd wr lf' lp' told rd fh fs gd w x post := fun lf' lp' hl => ⟨fun _ => k44 _ _ hl, fun _ => sp_full (iv_lit (by decide)) (fun l2 p2 h2 => k44 _ _ (fun h => hl (h2 h)))⟩
  exact sp_isLandWord (zi ⟨rfl, h0 _ _ _ _ _ _ _ _ _ _ _ _ _⟩) (io ⟨fun _ => k29 _ _ (fun h => h), fun _ => sp_full (iv_lit (by decide)) (fun l2 p2 h2 => k29 _ _ h2)⟩)
theorem sp_keep {o W M : Nat} {post : (Nat → Int32) → Prop} (hI : PI o lf told) (hW : W = 2 ∨ W = 3) (hM : M ≤ 40) (hMo : (M : Int) = rhi o 0) (ho : ¬ o = 0) (hf : 1 + W * M ≤ 131) (hr : lf = 0 → ∀ i k, i < W → k < M → iv (rlo o (1 + W * k + i)) (rhi o (1 + W * k + i)) (rd i)) (h : ∀ told', PI o lf told' → post told') : q_m_keep_0 told rd (nI W) (nI M) post := by
  have hM0 : 0 < M ∨ M = 0 := by omega
  refine sp_further (c := 0) hI (Or.inl ⟨rfl, hMo⟩) hM (fun _ => ?_) (fun k t1 hk ht hp hs => ?_)
  · intro P hP
    apply hP
    refine ⟨fun h9 => ?_, fun _ => ⟨fun _ => h _ hI, fun h9 => absurd rfl h9⟩⟩
    rcases hW with rfl | rfl
    · exact absurd h9 (by decide)
    · exact absurd h9 (by decide)
  · intro P hP
    have loop : ∀ (q i : Nat) (t : Nat → Int32), q + i = W → PI o lf t → P (nI i) t := by
      intro q
      induction q with
      | zero =>
        intro i t hi hpt
        apply hP
        exact ⟨fun _ => h _ hpt, fun h9 => absurd (nI_le (by omega) (by omega)) h9⟩
      | succ q ih =>
        intro i t hi hpt
        apply hP
        have hb : W * k ≤ W * M := Nat.mul_le_mul_left W (by omega)
        have hb2 : W * k + W ≤ W * M := by
          have := Nat.mul_le_mul_left W (show k + 1 ≤ M by omega)
          rw [Nat.mul_add] at this
          omega
        refine ⟨fun h9 => absurd h9 (nI_ge (by omega) (by omega)), fun _ => ⟨fun h9 => absurd h9 (nI_nm1 (by omega)), fun _ => ⟨vp_in_nI (by omega) (by omega), fun v1 e1 => ?_⟩⟩⟩
        have ei : ((1 : Int32) + nI W * nI k) + nI i = nI (1 + W * k + i) := by
          have e1 : (1 : Int32) = nI 1 := rfl
          rw [e1, pk_mul, nI_add, nI_add]
        rw [ei]
        refine ⟨vp_in_nI (by omega) (by omega), fun t2 e2 v2 e3 => ?_⟩
        rw [nI_clamp (by omega)] at e1 e2
        rw [e3, nI_1]
        subst e1 e2
        exact ih (i + 1) _ (by omega) (PI_upd hpt (fun hl => ⟨hl, hr hl i k (by omega) hk⟩) (by omega) (fun h9 => absurd h9 ho))
    exact loop W 0 t1 (by omega) hp
theorem rg1 {k i : Nat} (hk : k < 40) (hi : i < 3) : rhi 1 (1 + 3 * k + i) = (if i = 2 then 8 else 5) ∧ rlo 1 (1 + 3 * k + i) = (if i = 2 then -1 else 0) := by
  have e : (1 + 3 * k + i - 1) % 3 = i := by omega
  constructor
  · unfold rhi
    rw [if_neg (show ¬ (1 : Nat) = 0 by omega), if_pos rfl, if_neg (show ¬ 1 + 3 * k + i = 0 by omega), if_pos (show 1 + 3 * k + i ≤ 120 by omega), e]
  · unfold rlo
    rw [if_pos rfl, if_neg (show ¬ 1 + 3 * k + i = 0 by omega), if_pos (show 1 + 3 * k + i ≤ 120 by omega), e]
theorem rg2 {k i : Nat} (hk : k < 10) (hi : i < 3) : rhi 2 (1 + 3 * k + i) = (if i = 0 then 1 else if i = 1 then 8 else 60) ∧ rlo 2 (1 + 3 * k + i) = 0 := by
  have e : (1 + 3 * k + i - 1) % 3 = i := by omega
  constructor
  · unfold rhi
    rw [if_neg (show ¬ (2 : Nat) = 0 by omega), if_neg (show ¬ (2 : Nat) = 1 by omega), if_pos rfl, if_neg (show ¬ 1 + 3 * k + i = 0 by omega), if_pos (show 1 + 3 * k + i ≤ 30 by omega), e]
  · unfold rlo
    rw [if_neg (show ¬ (2 : Nat) = 1 by omega)]
theorem rg3 {k i : Nat} (hk : k < 9) (hi : i < 2) : rhi 3 (1 + 2 * k + i) = (if i = 0 then 3 else 9) ∧ rlo 3 (1 + 2 * k + i) = 0 := by
  have e : (1 + 2 * k + i - 1) % 2 = i := by omega
  constructor
  · unfold rhi
    rw [if_neg (show ¬ (3 : Nat) = 0 by omega), if_neg (show ¬ (3 : Nat) = 1 by omega), if_neg (show ¬ (3 : Nat) = 2 by omega), if_neg (show ¬ 1 + 2 * k + i = 0 by omega), if_pos (show 1 + 2 * k + i ≤ 18 by omega), e]
  · unfold rlo
    rw [if_neg (show ¬ (3 : Nat) = 1 by omega)]
theorem sp_eveningLine {post : Int32 → Int32 → Int32 → Int32 → Int32 → Int64 → Int32 → Int32 → Int32 → (Nat → Int32) → (Nat → Int32) → Int32 → Prop} (hn : n ≤ 600) (hre : mTk n re) (hI : PI 1 lf told)
    (h0 : ∀ re be so va wd wr lf lp told rd gd, post 0 re be so va wd wr lf lp told rd gd)
    (h1 : ∀ re' be so' va wd wr lf' lp told' rd gd, mTk n re' → adv re re' so' → PI 1 lf' told' → post 1 re' be so' va wd wr lf' lp told' rd gd) : q_m_eveningLine_0 tp re (nI n) be so va wd wr lf lp told rd gd w x post := by
  refine sp_deedBy ⟨fun h => absurd rfl h, fun _ => ⟨rfl, h0 _ _ _ _ _ _ _ _ _ _ _⟩⟩ (fun d hd => ⟨fun _ => ?_, fun h => absurd h (nI_nm1 (by omega))⟩)
  refine sp_full (iv_lit (by decide)) (fun l1 p1 hl1 => sp_tokenT hn hre (fun r1 b1 s1 v1 w1 g1 g2 rd1 erd => ?_))
  subst erd
  refine sp_take hn g1 (iv_lit (by decide)) (fun _ _ _ _ _ _ _ _ _ _ => iz (h0 _ _ _ _ _ _ _ _ _ _ _)) (fun r2 b2 s2 v2 w2 wr2 l2 p2 gd2 v k1 k2 k3 k4 => oi ?_)
  have k75 : ∀ (re' be' so' va' : Int32) (wd' : Int64) (wr' lf' lp' gd' : Int32) (rdx : Nat → Int32), mTk n re' → adv re re' so' → (lf' = 0 → l2 = 0) → rdx 1 = v → (lf' = 0 → iv (-1) 8 (rdx 2)) → q_m_eveningLine_75 tp re' (nI n) be' so' va' wd' wr' lf' lp' told rdx gd' (nI d) post := by
    intro re' be' so' va' wd' wr' lf' lp' gd' rdx a1 a2 a3 a4 a5 rd2 er
    refine sp_keep (lf := lf') (o := 1) (W := 3) (M := 40) (PI_lf hI (fun h => hl1 (k3 (a3 h)).1)) (Or.inr rfl) (by omega) rfl (by omega) (by omega) (fun hl i k hi hk => ?_) (fun t' hp => h1 _ _ _ _ _ _ _ _ _ _ _ a1 a2 hp)
    obtain ⟨q1, q2⟩ := rg1 hk hi
    rw [q1, q2, er, c_0]
    rcases (show i = 0 ∨ i = 1 ∨ i = 2 by omega) with rfl | rfl | rfl
    · rw [up_s]; exact iv_ofN (by omega) (by simp) (by simp; omega)
    · rw [up_n (by omega), a4]; exact iv_of rfl rfl (k3 (a3 hl)).2.1 (k3 (a3 hl)).2.2
    · rw [up_n (by omega)]; exact a5 hl
  have k67 : ∀ hi_ : Int32, hi_.toInt ≤ 8 → q_m_eveningLine_67 tp r2 (nI n) b2 s2 v2 w2 wr2 l2 p2 told (upd (upd rd (Int32.toNatClampNeg 2) (-1)) (Int32.toNatClampNeg 1) v) gd2 (nI d) 2 0 hi_ post := by
    intro hi_ hh
    refine sp_take hn k1 (iv_lit (by decide)) (fun _ _ _ _ _ _ _ _ _ _ => zi (h0 _ _ _ _ _ _ _ _ _ _ _)) (fun r3 b3 s3 v3 w3 wr3 l3 p3 gd3 u m1 m2 m3 m4 => io (k75 _ _ _ _ _ _ _ _ _ _ m1 (adv_tr (adv_tr g2 k2) m2) (fun h => (m3 h).1) ?_ (fun h => ?_)))
    · rw [c_1, c_2, up_n (by omega), up_s]
    · rw [c_2, up_s]
      have q1 := r_le (m3 h).2.1
      have q2 := r_le (m3 h).2.2
      have e0 : (0 : Int32).toInt = 0 := rfl
      exact ⟨by omega, by omega⟩
  refine ⟨fun _ => k75 _ _ _ _ _ _ _ _ _ _ k1 (adv_tr g2 k2) (fun h => h) ?_ (fun h => ?_), fun _ => ⟨fun _ => k67 4 (by decide), fun _ => k67 8 (by decide)⟩⟩
  · rw [c_1, up_s]
  · rw [c_1, c_2, up_n (by omega), up_s]; exact iv_lit (by decide)
theorem sp_sightLine {post : Int32 → Int32 → Int32 → Int32 → Int32 → Int64 → Int32 → Int32 → Int32 → (Nat → Int32) → (Nat → Int32) → Int32 → Prop} (hn : n ≤ 600) (hre : mTk n re) (hI : PI 2 lf told)
    (h0 : ∀ re be so va wd wr lf lp told rd gd, post 0 re be so va wd wr lf lp told rd gd)
    (h1 : ∀ re' be so' va wd wr lf' lp told' rd gd, mTk n re' → adv re re' so' → PI 2 lf' told' → post 1 re' be so' va wd wr lf' lp told' rd gd) : q_m_sightLine_0 tp re (nI n) be so va wd wr lf lp told rd gd w x post := by
  have k21 : q_m_sightLine_21 tp re (nI n) be so va wd wr lf lp told rd gd w x post := by
    refine sp_full (iv_lit (by decide)) (fun l1 p1 hl1 => sp_tokenT hn hre (fun r1 b1 s1 v1 w1 g1 g2 => ?_))
    refine sp_take hn g1 (iv_lit (by decide)) (fun _ _ _ _ _ _ _ _ _ _ => iz (h0 _ _ _ _ _ _ _ _ _ _ _)) (fun r2 b2 s2 v2 w2 wr2 l2 p2 gd2 v k1 k2 k3 k4 => oi ?_)
    refine sp_take hn k1 (iv_lit (by decide)) (fun _ _ _ _ _ _ _ _ _ _ => zi (h0 _ _ _ _ _ _ _ _ _ _ _)) (fun r3 b3 s3 v3 w3 wr3 l3 p3 gd3 u m1 m2 m3 m4 => io ?_)
    have k75 : ∀ y : Int32, iv 0 1 y → q_m_sightLine_75 tp r3 (nI n) b3 s3 v3 w3 wr3 l3 p3 told (upd (upd rd (Int32.toNatClampNeg 1) v) (Int32.toNatClampNeg 2) u) gd3 0 y post := by
      intro y hy
      refine ⟨by unfold vp_in; decide, fun rd2 er => ?_⟩
      refine sp_keep (lf := l3) (o := 2) (W := 3) (M := 10) (PI_lf hI (fun h => hl1 (k3 (m3 h).1).1)) (Or.inr rfl) (by omega) rfl (by omega) (by omega) (fun hl i k hi hk => ?_) (fun t' hp => h1 _ _ _ _ _ _ _ _ _ _ _ m1 (adv_tr (adv_tr g2 k2) m2) hp)
      obtain ⟨q1, q2⟩ := rg2 hk hi
      rw [q1, q2, er, c_0, c_1, c_2]
      rcases (show i = 0 ∨ i = 1 ∨ i = 2 by omega) with rfl | rfl | rfl
      · rw [up_s]; exact hy
      · rw [up_n (by omega), up_n (by omega), up_s]; exact iv_of rfl rfl (k3 (m3 hl).1).2.1 (k3 (m3 hl).1).2.2
      · rw [up_n (by omega), up_s]; exact iv_of rfl rfl (m3 hl).2.1 (m3 hl).2.2
    exact ⟨fun _ => k75 0 (iv_lit (by decide)), fun _ => k75 1 (iv_lit (by decide))⟩
  exact ⟨fun _ => k21, fun _ => ⟨fun _ => k21, fun _ => ⟨rfl, h0 _ _ _ _ _ _ _ _ _ _ _⟩⟩⟩
theorem sp_choirLine {post : Int32 → Int32 → Int32 → Int32 → Int32 → Int64 → Int32 → Int32 → Int32 → (Nat → Int32) → (Nat → Int32) → Int32 → Prop} (hn : n ≤ 600) (hre : mTk n re) (hI : PI 3 lf told)
    (h0 : ∀ re be so va wd wr lf lp told rd gd, post 0 re be so va wd wr lf lp told rd gd)
    (h1 : ∀ re' be so' va wd wr lf' lp told' rd gd, mTk n re' → adv re re' so' → PI 3 lf' told' → post 1 re' be so' va wd wr lf' lp told' rd gd) : q_m_choirLine_0 tp re (nI n) be so va wd wr lf lp told rd gd w x post := by
  have k37 : ∀ l1 p1, (l1 = 0 → lf = 0) → q_m_choirLine_37 tp re (nI n) be so va wd wr l1 p1 told rd gd w post := by
    intro l1 p1 hl1
    refine sp_tokenT hn hre (fun r1 b1 s1 v1 w1 g1 g2 => ⟨fun _ => ?_, fun _ => ?_⟩)
    · refine sp_take hn g1 (iv_lit (by decide)) (fun _ _ _ _ _ _ _ _ _ _ => iz (h0 _ _ _ _ _ _ _ _ _ _ _)) (fun r2 b2 s2 v2 w2 wr2 l2 p2 gd2 v k1 k2 k3 k4 => oi ?_)
      refine sp_take hn k1 (iv_lit (by decide)) (fun _ _ _ _ _ _ _ _ _ _ => zi (h0 _ _ _ _ _ _ _ _ _ _ _)) (fun r3 b3 s3 v3 w3 wr3 l3 p3 gd3 u m1 m2 m3 m4 => io ?_)
      refine sp_keep (lf := l3) (o := 3) (W := 2) (M := 9) (PI_lf hI (fun h => hl1 (k3 (m3 h).1).1)) (Or.inl rfl) (by omega) rfl (by omega) (by omega) (fun hl i k hi hk => ?_) (fun t' hp => h1 _ _ _ _ _ _ _ _ _ _ _ m1 (adv_tr (adv_tr g2 k2) m2) hp)
      obtain ⟨q1, q2⟩ := rg3 hk hi
      rw [q1, q2, c_0, c_1]
      rcases (show i = 0 ∨ i = 1 by omega) with rfl | rfl
      · rw [up_n (by omega), up_s]; exact iv_of rfl rfl (k3 (m3 hl).1).2.1 (k3 (m3 hl).1).2.2
      · rw [up_s]; exact iv_of rfl rfl (m3 hl).2.1 (m3 hl).2.2
    · refine sp_take hn g1 (iv_lit (by decide)) (fun _ _ _ _ _ _ _ _ _ _ => zi ⟨rfl, h0 _ _ _ _ _ _ _ _ _ _ _⟩) (fun r2 b2 s2 v2 w2 wr2 l2 p2 gd2 v k1 k2 k3 k4 => io (fun x1 e1 => ⟨by unfold vp_in; decide, fun t2 e2 => ⟨rfl, ?_⟩⟩))
      have ev : x1 = v := by rw [e1]; exact up_s
      have e19 : Int32.toNatClampNeg 19 = 19 := rfl
      rw [e19] at e2
      subst ev e2
      exact h1 _ _ _ _ _ _ _ _ _ _ _ k1 (adv_tr g2 k2) (PI_upd hI (fun h => ⟨hl1 (k3 h).1, iv_of rfl rfl (k3 h).2.1 (k3 h).2.2⟩) (by omega) (fun h9 => absurd h9 (by omega)))
  have k21 : q_m_choirLine_21 tp re (nI n) be so va wd wr lf lp told rd gd w x post := ⟨fun _ => k37 _ _ (fun h => h), fun _ => sp_full (iv_lit (by decide)) (fun l1 p1 h => k37 _ _ h)⟩
  exact ⟨fun _ => k21, fun _ => ⟨fun _ => k21, fun _ => ⟨rfl, h0 _ _ _ _ _ _ _ _ _ _ _⟩⟩⟩
theorem sp_lineOf {o : Nat} {post : Int32 → Int32 → Int32 → Int32 → Int32 → Int64 → Int32 → Int32 → Int32 → (Nat → Int32) → (Nat → Int32) → Int32 → Int32 → Int32 → Prop} (ho : o ≤ 3) (hn : n ≤ 600) (hre : mTk n re) (hI : LI o lf fh told)
    (h0 : ∀ re be so va wd wr lf lp told rd fh fs gd, post 0 re be so va wd wr lf lp told rd fh fs gd)
    (h1 : ∀ re' be so' va wd wr lf' lp told' rd fh' fs gd, mTk n re' → adv re re' so' → LI o lf' fh' told' → post 1 re' be so' va wd wr lf' lp told' rd fh' fs gd) : q_m_lineOf_0 tp re (nI n) be so va wd wr lf lp told rd fh fs gd (nI o) w x post := by
  refine ⟨fun hc => ?_, fun hc => ?_, fun hc => ?_, fun hc => ?_⟩
  · rw [nI_toInt (by omega)] at hc
    have e : o = 3 := by omega
    subst e
    exact sp_choirLine hn hre hI.1 (fun _ _ _ _ _ _ _ _ _ _ _ => ⟨rfl, h0 _ _ _ _ _ _ _ _ _ _ _ _ _⟩) (fun _ _ _ _ _ _ _ _ _ _ _ a b c => ⟨rfl, h1 _ _ _ _ _ _ _ _ _ _ _ _ _ a b ⟨c, fun h => absurd h (by omega)⟩⟩)
  · have e : o = 0 := (nI_eq (b := 0) (by omega) (by omega)).mp hc
    subst e
    exact sp_landLine hn hre hI (fun _ _ _ _ _ _ _ _ _ _ _ _ _ => ⟨rfl, h0 _ _ _ _ _ _ _ _ _ _ _ _ _⟩) (fun _ _ _ _ _ _ _ _ _ _ _ _ _ a b c => ⟨rfl, h1 _ _ _ _ _ _ _ _ _ _ _ _ _ a b c⟩)
  · have e : o = 1 := (nI_eq (b := 1) (by omega) (by omega)).mp hc
    subst e
    exact sp_eveningLine hn hre hI.1 (fun _ _ _ _ _ _ _ _ _ _ _ => ⟨rfl, h0 _ _ _ _ _ _ _ _ _ _ _ _ _⟩) (fun _ _ _ _ _ _ _ _ _ _ _ a b c => ⟨rfl, h1 _ _ _ _ _ _ _ _ _ _ _ _ _ a b ⟨c, fun h => absurd h (by omega)⟩⟩)
  · have e : o = 2 := (nI_eq (b := 2) (by omega) (by omega)).mp hc
    subst e
    exact sp_sightLine hn hre hI.1 (fun _ _ _ _ _ _ _ _ _ _ _ => ⟨rfl, h0 _ _ _ _ _ _ _ _ _ _ _ _ _⟩) (fun _ _ _ _ _ _ _ _ _ _ _ a b c => ⟨rfl, h1 _ _ _ _ _ _ _ _ _ _ _ _ _ a b ⟨c, fun h => absurd h (by omega)⟩⟩)
theorem sp_linesT {o : Nat} {post : Int32 → Int32 → Int32 → Int32 → Int32 → Int64 → Int32 → Int32 → Int32 → (Nat → Int32) → (Nat → Int32) → Int32 → Int32 → Int32 → Prop} (ho : o ≤ 3) (hn : n ≤ 600) (hre : mTk n re) (hI : LI o lf fh told)
    (h0 : ∀ re be so va wd wr lf lp told rd fh fs gd, post 0 re be so va wd wr lf lp told rd fh fs gd)
    (h1 : ∀ re be so va wd wr lf' lp told' rd fh' fs gd, LI o lf' fh' told' → post 1 re be so va wd wr lf' lp told' rd fh' fs gd) : q_m_lines_0 tp re (nI n) be so va wd wr lf lp told rd fh fs gd (nI o) post := by
  intro P hP
  have p0 : ∀ re be so va wd wr lf lp told rd fh fs gd, P 0 re be so va wd wr lf lp told rd fh fs gd := by
    intro re be so va wd wr lf lp told rd fh fs gd
    apply hP
    exact ⟨fun _ => ⟨rfl, h0 _ _ _ _ _ _ _ _ _ _ _ _ _⟩, fun h => absurd rfl h⟩
  have loop : ∀ (m : Nat) (re be so va : Int32) (wd : Int64) (wr lf lp : Int32) (told rd : Nat → Int32) (fh fs gd : Int32), (n : Int) - re.toInt < (m : Int) → mTk n re → LI o lf fh told → P 1 re be so va wd wr lf lp told rd fh fs gd := by
    intro m
    induction m with
    | zero =>
      intro re be so va wd wr lf lp told rd fh fs gd hm hre hI
      obtain ⟨r, hr, rfl⟩ := hre
      rw [nI_toInt (by omega)] at hm
      omega
    | succ m ih =>
      intro re be so va wd wr lf lp told rd fh fs gd hm hre hI
      apply hP
      have k41 : ∀ y : Int64, q_m_lines_41 P tp re (nI n) be so va wd wr lf lp told rd fh fs 1 (nI o) be (nI o) y post := by
        intro y
        refine sp_lineOf ho hn hre hI (fun _ _ _ _ _ _ _ _ _ _ _ _ _ => iz (iz (p0 _ _ _ _ _ _ _ _ _ _ _ _ _))) (fun r1 b1 s1 v1 w1 wr1 l1 p1 t1 rd1 fh1 fs1 gd1 g1 g2 g3 => oi ⟨fun h4 => oi ?_, fun _ => iz (p0 _ _ _ _ _ _ _ _ _ _ _ _ _)⟩)
        refine sp_tokenT hn g1 (fun r2 b2 s2 v2 w2 k1 k2 => ih _ _ _ _ _ _ _ _ _ _ _ _ _ ?_ k1 g3)
        have q1 := g2.2 (by rw [h4]; decide)
        have q2 := k2.1
        omega
      exact ⟨fun h => absurd h (by decide), fun _ => ⟨fun _ => ⟨rfl, h1 _ _ _ _ _ _ _ _ _ _ _ _ _ hI⟩, fun _ => ⟨fun _ => k41 _, fun _ => k41 _⟩⟩⟩
  obtain ⟨r, hr, rfl⟩ := hre
  exact loop (n + 1) _ _ _ _ _ _ _ _ _ _ _ _ _ (by rw [nI_toInt (by omega)]; omega) ⟨r, hr, rfl⟩ hI
end PM
