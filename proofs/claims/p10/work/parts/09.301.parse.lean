/-- what a line leaves: the text's row in its ranges, a singer's hut known -/
def LI (o : Nat) (lf fh : Int32) (told : Nat → Int32) : Prop := PI o lf told ∧ (o = 0 → lf = 0 → ¬ told 1 = 0 → 0 ≤ fh.toInt)
theorem LI_up {o : Nat} {lf lf' fh fh' : Int32} {told : Nat → Int32} (h : LI o lf fh told) (hl : lf' = 0 → lf = 0) (hf : fh.toInt ≤ fh'.toInt) : LI o lf' fh' told := ⟨PI_lf h.1 hl, fun ho h2 h3 => Int.le_trans (h.2 ho (hl h2) h3) hf⟩
theorem iv_of {l h : Int} {v a b : Int32} (ha : a.toInt = l) (hb : b.toInt = h) (h1 : a ≤ v) (h2 : v ≤ b) : iv l h v := ⟨by rw [← ha]; exact r_le h1, by rw [← hb]; exact r_le h2⟩
theorem LI_upd {lf lf' fh fh' : Int32} {told : Nat → Int32} {k : Nat} {v : Int32} (h : LI 0 lf fh told) (hl : lf' = 0 → lf = 0 ∧ iv 0 (mRh k) v) (h0 : ¬ k = 0) (h1 : ¬ k = 1) (h4 : ¬ k = 4) (hf : fh.toInt ≤ fh'.toInt) : LI 0 lf' fh' (upd told k v) := by
  refine ⟨PI_upd h.1 (fun h2 => hl h2) h0 (fun _ => ⟨h1, h4⟩), fun ho h2 h3 => ?_⟩
  have e : upd told k v 1 = told 1 := by unfold upd; rw [if_neg (fun h => h1 h.symm)]
  rw [e] at h3
  exact Int.le_trans (h.2 ho (hl h2).1 h3) hf
theorem up_s {f : Nat → Int32} {k : Nat} {v : Int32} : upd f k v k = v := by unfold upd; rw [if_pos rfl]
theorem up_n {f : Nat → Int32} {k j : Nat} {v : Int32} (h : ¬ j = k) : upd f k v j = f j := by unfold upd; rw [if_neg h]

theorem nI_nm1 {k : Nat} (hk : k < 2 ^ 31) : ¬ nI k = -1 := fun h => by
  have := congrArg Int32.toInt h
  rw [nI_toInt hk] at this
  have e : (-1 : Int32).toInt = -1 := rfl
  omega
theorem c_0 : Int32.toNatClampNeg 0 = 0 := rfl
theorem c_1 : Int32.toNatClampNeg 1 = 1 := rfl
theorem c_2 : Int32.toNatClampNeg 2 = 2 := rfl
theorem LI_fur {lf fh : Int32} {told told' : Nat → Int32} {c : Nat} (h : LI 0 lf fh told) (hp : PI 0 lf told') (ht : ∀ j, ¬ j = c → told' j = told j) (hc : ¬ c = 1) : LI 0 lf fh told' := ⟨hp, fun ho h2 h3 => h.2 ho h2 (by rw [← ht 1 (fun h => hc h.symm)]; exact h3)⟩
section PL
variable {tp rd told : Nat → Int32} {re be so va wr lf lp fh fs gd : Int32} {wd : Int64} {n : Nat}

theorem sp_hutLine {post : Int32 → Int32 → Int32 → Int32 → Int32 → Int64 → Int32 → Int32 → Int32 → (Nat → Int32) → (Nat → Int32) → Int32 → Prop} (hn : n ≤ 600) (hre : mTk n re) (hI : LI 0 lf fh told)
    (h0 : ∀ re be so va wd wr lf lp told rd gd, post 0 re be so va wd wr lf lp told rd   gd)
    (h1 : ∀ re' be so' va wd wr lf' lp told' rd gd, mTk n re' → adv re re' so' → LI 0 lf' fh told' → post 1 re' be so' va wd wr lf' lp told' rd   gd) : q_m_hutLine_0 tp re (nI n) be so va wd wr lf lp told rd   gd  post := by
  refine sp_take hn hre (iv_lit (by decide)) (fun _ _ _ _ _ _ _ _ _ _ => zi (h0 _ _ _ _ _ _ _ _ _ _ _)) (fun re' be' so' va' wd' wr' lf' lp' gd' v g1 g2 g3 g4 => io ?_)
  have hI2 := LI_up (lf' := lf') (fh' := fh) hI (fun h => (g3 h).1) (Int.le_refl _)
  refine sp_further (o := 0) (c := 0) (M := 9) hI2.1 (Or.inl ⟨rfl, rfl⟩) (by omega) (fun _ => ⟨fun _ => h1 _ _ _ _ _ _ _ _ _ _ _ g1 g2 hI2, fun h => absurd rfl h⟩) (fun k told' hk ht hp hs => ⟨fun h => absurd h (nI_nm1 (by omega)), fun _ v1 e1 => ?_⟩)
  rw [show (7 : Int32) + nI k = nI (7 + k) from nI_add 7 k]
  refine ⟨vp_in_nI (by omega) (by omega), fun t2 e2 => ?_⟩
  rw [nI_clamp (by omega)] at e2
  have ev : v1 = v := by rw [e1]; exact up_s
  subst ev e2
  refine h1 _ _ _ _ _ _ _ _ _ _ _ g1 g2 (LI_upd (LI_fur hI2 hp hs (by omega)) (fun h => ⟨h, ?_⟩) (by omega) (by omega) (by omega) (Int.le_refl _))
  have e9 : mRh (7 + k) = 99 := by
    unfold mRh
    (repeat rw [if_neg (by omega)])
    rw [if_pos (by omega)]
  rw [e9]
  exact iv_of rfl rfl (g3 h).2.1 (g3 h).2.2

theorem sp_plainLine {post : Int32 → Int32 → Int32 → Int32 → Int32 → Int64 → Int32 → Int32 → Int32 → (Nat → Int32) → (Nat → Int32) → Int32 → Prop} {k : Nat} {l0 : Int} (hl0 : 0 ≤ l0) {lo hi : Int32} (hk : ¬ k = 0 ∧ ¬ k = 1 ∧ ¬ k = 4 ∧ k < 132) (ha : lo.toInt = l0) (hb : hi.toInt = mRh k) (hn : n ≤ 600) (hre : mTk n re) (hI : LI 0 lf fh told)
    (h0 : ∀ re be so va wd wr lf lp told rd gd, post 0 re be so va wd wr lf lp told rd   gd)
    (h1 : ∀ re' be so' va wd wr lf' lp told' rd gd, mTk n re' → adv re re' so' → LI 0 lf' fh told' → post 1 re' be so' va wd wr lf' lp told' rd   gd) : q_m_plainLine_0 tp re (nI n) be so va wd wr lf lp told rd   gd (nI k) lo hi post := by
  refine sp_take hn hre (iv_lit (by decide)) (fun _ _ _ _ _ _ _ _ _ _ => zi (h0 _ _ _ _ _ _ _ _ _ _ _)) (fun re' be' so' va' wd' wr' lf' lp' gd' v g1 g2 g3 g4 => io (fun v1 e1 => ⟨vp_in_nI (by omega) (by omega), fun t2 e2 => ?_⟩))
  rw [nI_clamp (by omega)] at e2
  have ev : v1 = v := by rw [e1]; exact up_s
  subst ev e2
  exact h1 _ _ _ _ _ _ _ _ _ _ _ g1 g2 (LI_upd hI (fun h => ⟨(g3 h).1, iv_w (iv_of ha hb (g3 h).2.1 (g3 h).2.2) ⟨hl0, Int.le_refl _⟩⟩) hk.1 hk.2.1 hk.2.2.1 (Int.le_refl _))

theorem sp_bitLine {post : Int32 → Int32 → Int32 → Int32 → Int32 → Int64 → Int32 → Int32 → Int32 → (Nat → Int32) → (Nat → Int32) → Int32 → Int32 → Prop} {k : Nat} (hk : k = 2 ∨ k = 3) (hn : n ≤ 600) (hre : mTk n re) (hI : LI 0 lf fh told)
    (h0 : ∀ re be so va wd wr lf lp told rd fh gd, post 0 re be so va wd wr lf lp told rd fh  gd)
    (h1 : ∀ re' be so' va wd wr lf' lp told' rd fh' gd, mTk n re' → adv re re' so' → LI 0 lf' fh' told' → post 1 re' be so' va wd wr lf' lp told' rd fh'  gd) : q_m_bitLine_0 tp re (nI n) be so va wd wr lf lp told rd fh  gd (nI k) post := by
  refine sp_takeHut hn hre (iv_lit (by decide)) (fun _ _ _ _ _ _ _ _ _ _ _ => zi (h0 _ _ _ _ _ _ _ _ _ _ _ _)) (fun r1 b1 s1 v1' w1 wr1 lf1 lp1 fh1 gd1 v g1 g2 g3 g4 g5 g6 => io ?_)
  have c0 : upd rd (Int32.toNatClampNeg 0) v (Int32.toNatClampNeg 0) = v := up_s
  rw [nI_clamp (by omega), c0]
  have hm : mRh k = 511 := by rcases hk with rfl | rfl <;> rfl
  have fin_ : ∀ y : Int32, (lf1 = 0 → iv 0 511 y) → q_m_bitLine_37 tp r1 (nI n) b1 s1 v1' w1 wr1 lf1 lp1 told (upd rd (Int32.toNatClampNeg 0) v) fh1 gd1 (nI k) (told k) y post := by
    intro y hy z ez
    refine ⟨vp_in_nI (by omega) (by omega), fun t2 e2 => ?_⟩
    rw [nI_clamp (by omega)] at e2
    subst ez e2
    refine h1 _ _ _ _ _ _ _ _ _ _ _ _ g1 g2 (LI_upd hI (fun h => ⟨(g3 h).1, ?_⟩) (by omega) (by omega) (by omega) g5)
    have ho := hI.1.2.2 (g3 h).1 k (by omega)
    have ho2 : iv 0 511 (told k) := by
      have e : rhi 0 k = 511 := hm
      rw [e] at ho
      exact ho
    rw [hm]
    exact iv_or 9 ho2 (hy h) (by decide)
  refine ⟨vp_in_nI (by omega) (by omega), fun _ => fin_ 0 (fun _ => iv_lit (by decide)), fun _ => fin_ _ (fun h => ?_)⟩
  exact iv_w (iv_shl1 (l := 1) (h := 256) (iv_lit (l := 1) (h := 1) (by decide)) (iv_of (l := 0) (h := 8) rfl rfl (g3 h).2.1 (g3 h).2.2) (by decide)) (by decide)

theorem sp_wayLine {post : Int32 → Int32 → Int32 → Int32 → Int32 → Int64 → Int32 → Int32 → Int32 → (Nat → Int32) → (Nat → Int32) → Int32 → Int32 → Prop} (hn : n ≤ 600) (hre : mTk n re) (hI : LI 0 lf fh told)
    (h0 : ∀ re be so va wd wr lf lp told rd fh gd, post 0 re be so va wd wr lf lp told rd fh  gd)
    (h1 : ∀ re' be so' va wd wr lf' lp told' rd fh' gd, mTk n re' → adv re re' so' → LI 0 lf' fh' told' → post 1 re' be so' va wd wr lf' lp told' rd fh'  gd) : q_m_wayLine_0 tp re (nI n) be so va wd wr lf lp told rd fh  gd  post := by
  refine sp_takeHut hn hre (iv_lit (by decide)) (fun _ _ _ _ _ _ _ _ _ _ _ => iz (h0 _ _ _ _ _ _ _ _ _ _ _ _)) (fun r1 b1 s1 v1' w1 wr1 lf1 lp1 fh1 gd1 v g1 g2 g3 g4 g5 g6 => oi ?_)
  refine sp_takeHut hn g1 (iv_lit (by decide)) (fun _ _ _ _ _ _ _ _ _ _ _ => iz (h0 _ _ _ _ _ _ _ _ _ _ _ _)) (fun r2 b2 s2 v2' w2 wr2 lf2 lp2 fh2 gd2 w k1 k2 k3 k4 k5 k6 => oi ?_)
  refine sp_take hn k1 (iv_lit (by decide)) (fun _ _ _ _ _ _ _ _ _ _ => zi (h0 _ _ _ _ _ _ _ _ _ _ _ _)) (fun r3 b3 s3 v3' w3 wr3 lf3 lp3 gd3 u m1 m2 m3 m4 => io ?_)
  have hadv := adv_tr (adv_tr g2 k2) m2
  have hlf : lf3 = 0 → lf = 0 := fun h => (g3 ((k3 ((m3 h).1)).1)).1
  have hfh := Int.le_trans g5 k5
  have e0 : upd (upd (upd rd (Int32.toNatClampNeg 0) v) (Int32.toNatClampNeg 1) w) (Int32.toNatClampNeg 2) u (Int32.toNatClampNeg 0) = v := by rw [c_0, c_1, c_2, up_n (by omega), up_n (by omega), up_s]
  have e1 : upd (upd (upd rd (Int32.toNatClampNeg 0) v) (Int32.toNatClampNeg 1) w) (Int32.toNatClampNeg 2) u (Int32.toNatClampNeg 1) = w := by rw [c_0, c_1, c_2, up_n (by omega), up_s]
  have e2 : upd (upd (upd rd (Int32.toNatClampNeg 0) v) (Int32.toNatClampNeg 1) w) (Int32.toNatClampNeg 2) u (Int32.toNatClampNeg 2) = u := up_s
  rw [e0, e1, e2]
  refine ⟨fun _ => h1 _ _ _ _ _ _ _ _ _ _ _ _ m1 hadv (LI_up hI hlf hfh), fun hg x1 ex1 => ?_⟩
  have hv := (g4 ((k4 ((m4 hg).1)).1)).2
  have hw := (k4 ((m4 hg).1)).2
  have hu := (m4 hg).2
  obtain ⟨a, rfl, -, ha, -⟩ := iv_nI (iv_of (l := 0) (h := 8) rfl rfl hv.1 hv.2) (by omega)
  obtain ⟨b, rfl, -, hb, -⟩ := iv_nI (iv_of (l := 0) (h := 8) rfl rfl hw.1 hw.2) (by omega)
  have mw : ∀ a b : Nat, a ≤ 8 → b ≤ 8 → mRh (51 + 9 * a + b) = 9 := by
    intro a b ha hb
    unfold mRh
    (repeat rw [if_neg (by omega)])
  have ix : ∀ a b : Nat, (51 : Int32) + (9 : Int32) * nI a + nI b = nI (51 + 9 * a + b) := by
    intro a b
    have e51 : (51 : Int32) = nI 51 := rfl
    have e9 : (9 : Int32) = nI 9 := rfl
    rw [e51, e9, pk_mul, nI_add, nI_add]
  rw [ix, ix]
  have hu9 : iv 0 9 u := iv_w (iv_of (l := 1) (h := 9) rfl rfl hu.1 hu.2) (by decide)
  refine ⟨vp_in_nI (by omega) (by omega), fun t1 et1 x2 ex2 => ⟨vp_in_nI (by omega) (by omega), fun t2 et2 => ?_⟩⟩
  rw [nI_clamp (by omega)] at et1 et2
  subst ex1 ex2 et1 et2
  refine h1 _ _ _ _ _ _ _ _ _ _ _ _ m1 hadv (LI_upd (lf := lf3) (fh := fh2) (LI_upd hI (fun h => ⟨hlf h, ?_⟩) (by omega) (by omega) (by omega) hfh) (fun h => ⟨h, ?_⟩) (by omega) (by omega) (by omega) (Int.le_refl _))
  · rw [mw a b (by omega) (by omega)]; exact hu9
  · rw [mw b a (by omega) (by omega)]; exact hu9

theorem sp_echoLine {post : Int32 → Int32 → Int32 → Int32 → Int32 → Int64 → Int32 → Int32 → Int32 → (Nat → Int32) → (Nat → Int32) → Int32 → Int32 → Prop} (hn : n ≤ 600) (hre : mTk n re) (hI : LI 0 lf fh told)
    (h0 : ∀ re be so va wd wr lf lp told rd fh gd, post 0 re be so va wd wr lf lp told rd fh  gd)
    (h1 : ∀ re' be so' va wd wr lf' lp told' rd fh' gd, mTk n re' → adv re re' so' → LI 0 lf' fh' told' → post 1 re' be so' va wd wr lf' lp told' rd fh'  gd) : q_m_echoLine_0 tp re (nI n) be so va wd wr lf lp told rd fh  gd  post := by
  refine sp_takeHut hn hre (iv_lit (by decide)) (fun _ _ _ _ _ _ _ _ _ _ _ => iz (h0 _ _ _ _ _ _ _ _ _ _ _ _)) (fun r1 b1 s1 v1' w1 wr1 lf1 lp1 fh1 gd1 v g1 g2 g3 g4 g5 g6 => oi ?_)
  refine sp_takeHut hn g1 (iv_lit (by decide)) (fun _ _ _ _ _ _ _ _ _ _ _ => zi (h0 _ _ _ _ _ _ _ _ _ _ _ _)) (fun r2 b2 s2 v2' w2 wr2 lf2 lp2 fh2 gd2 w k1 k2 k3 k4 k5 k6 => io ?_)
  have hadv := adv_tr g2 k2
  have hlf : lf2 = 0 → lf = 0 := fun h => (g3 ((k3 h).1)).1
  have hI2 := LI_up (lf' := lf2) (fh' := fh2) hI hlf (Int.le_trans g5 k5)
  refine sp_further (o := 0) (c := 4) (M := 4) hI2.1 (Or.inr (Or.inr ⟨rfl, rfl, rfl⟩)) (by omega) (fun _ => ⟨fun _ => h1 _ _ _ _ _ _ _ _ _ _ _ _ k1 hadv hI2, fun h => absurd rfl h⟩) (fun k told' hk ht hp hs => ⟨fun h => absurd h (nI_nm1 (by omega)), fun _ x1 ex1 => ?_⟩)
  have e0 : x1 = v := by rw [ex1, c_0, c_1, up_n (by omega), up_s]
  have i1 : (43 : Int32) + (2 : Int32) * nI k = nI (43 + 2 * k) := by
    have e43 : (43 : Int32) = nI 43 := rfl
    have e2 : (2 : Int32) = nI 2 := rfl
    rw [e43, e2, pk_mul, nI_add]
  rw [i1, nI_1]
  refine ⟨vp_in_nI (by omega) (by omega), fun t1 et1 x2 ex2 => ⟨vp_in_nI (by omega) (by omega), fun t2 et2 => ?_⟩⟩
  have e1 : x2 = w := by rw [ex2]; exact up_s
  rw [nI_clamp (by omega)] at et1 et2
  subst e0 e1 et1 et2
  have me : ∀ j, 43 ≤ j → j ≤ 50 → mRh j = 8 := by
    intro j h1 h2
    unfold mRh
    (repeat rw [if_neg (by omega)])
    rw [if_pos (by omega)]
  refine h1 _ _ _ _ _ _ _ _ _ _ _ _ k1 hadv (LI_upd (lf := lf2) (fh := fh2) (LI_upd (LI_fur hI2 hp hs (by omega)) (fun h => ⟨h, ?_⟩) (by omega) (by omega) (by omega) (Int.le_refl _)) (fun h => ⟨h, ?_⟩) (by omega) (by omega) (by omega) (Int.le_refl _))
  · rw [me _ (by omega) (by omega)]; exact iv_of rfl rfl (g3 ((k3 h).1)).2.1 (g3 ((k3 h).1)).2.2
  · rw [me _ (by omega) (by omega)]; exact iv_of rfl rfl (k3 h).2.1 (k3 h).2.2

theorem sp_ladderLine {post : Int32 → Int32 → Int32 → Int32 → Int32 → Int64 → Int32 → Int32 → Int32 → (Nat → Int32) → (Nat → Int32) → Int32 → Int32 → Prop} (hn : n ≤ 600) (hre : mTk n re) (hI : LI 0 lf fh told)
    (h0 : ∀ re be so va wd wr lf lp told rd fh gd, post 0 re be so va wd wr lf lp told rd fh  gd)
    (h1 : ∀ re' be so' va wd wr lf' lp told' rd fh' gd, mTk n re' → adv re re' so' → LI 0 lf' fh' told' → post 1 re' be so' va wd wr lf' lp told' rd fh'  gd) : q_m_ladderLine_0 tp re (nI n) be so va wd wr lf lp told rd fh  gd  post := by
  refine sp_takeHut hn hre (iv_lit (by decide)) (fun _ _ _ _ _ _ _ _ _ _ _ => iz (h0 _ _ _ _ _ _ _ _ _ _ _ _)) (fun r1 b1 s1 v1' w1 wr1 lf1 lp1 fh1 gd1 v g1 g2 g3 g4 g5 g6 => oi ?_)
  refine sp_take hn g1 (iv_lit (by decide)) (fun _ _ _ _ _ _ _ _ _ _ => zi (h0 _ _ _ _ _ _ _ _ _ _ _ _)) (fun r2 b2 s2 v2' w2 wr2 lf2 lp2 gd2 w k1 k2 k3 k4 => io ?_)
  have hadv := adv_tr g2 k2
  have hlf : lf2 = 0 → lf = 0 := fun h => (g3 ((k3 h).1)).1
  refine ⟨fun _ => h1 _ _ _ _ _ _ _ _ _ _ _ _ k1 hadv (LI_up hI hlf g5), fun hg x1 ex1 => ?_⟩
  have e0 : upd (upd rd (Int32.toNatClampNeg 0) v) (Int32.toNatClampNeg 1) w (Int32.toNatClampNeg 0) = v := by rw [c_0, c_1, up_n (by omega), up_s]
  have e1 : x1 = w := by rw [ex1]; exact up_s
  rw [e0]
  have hv := (g4 ((k4 hg).1)).2
  have hw := (k4 hg).2
  obtain ⟨a, rfl, -, ha, -⟩ := iv_nI (iv_of (l := 0) (h := 8) rfl rfl hv.1 hv.2) (by omega)
  rw [show (16 : Int32) + nI a = nI (16 + a) from nI_add 16 a]
  refine ⟨vp_in_nI (by omega) (by omega), fun t1 et1 => ?_⟩
  rw [nI_clamp (by omega)] at et1
  subst e1 et1
  refine h1 _ _ _ _ _ _ _ _ _ _ _ _ k1 hadv (LI_upd hI (fun h => ⟨hlf h, ?_⟩) (by omega) (by omega) (by omega) g5)
  have me : mRh (16 + a) = 9 := by
    unfold mRh
    (repeat rw [if_neg (by omega)])
    rw [if_pos (by omega)]
  rw [me]
  exact iv_of rfl rfl hw.1 hw.2

theorem sp_singerLine {post : Int32 → Int32 → Int32 → Int32 → Int32 → Int64 → Int32 → Int32 → Int32 → (Nat → Int32) → (Nat → Int32) → Int32 → Int32 → Prop} (hn : n ≤ 600) (hre : mTk n re) (hI : LI 0 lf fh told)
    (h0 : ∀ re be so va wd wr lf lp told rd fh gd, post 0 re be so va wd wr lf lp told rd fh  gd)
    (h1 : ∀ re' be so' va wd wr lf' lp told' rd fh' gd, mTk n re' → adv re re' so' → LI 0 lf' fh' told' → post 1 re' be so' va wd wr lf' lp told' rd fh'  gd) : q_m_singerLine_0 tp re (nI n) be so va wd wr lf lp told rd fh  gd  post := by
  refine sp_takeHut hn hre (iv_lit (by decide)) (fun _ _ _ _ _ _ _ _ _ _ _ => iz (h0 _ _ _ _ _ _ _ _ _ _ _ _)) (fun r1 b1 s1 v1' w1 wr1 lf1 lp1 fh1 gd1 v g1 g2 g3 g4 g5 g6 => oi ?_)
  refine sp_take hn g1 (iv_lit (by decide)) (fun _ _ _ _ _ _ _ _ _ _ => zi (h0 _ _ _ _ _ _ _ _ _ _ _ _)) (fun r2 b2 s2 v2' w2 wr2 lf2 lp2 gd2 w k1 k2 k3 k4 => io ?_)
  have hadv := adv_tr g2 k2
  have hlf : lf2 = 0 → lf = 0 := fun h => (g3 ((k3 h).1)).1
  have hI2 := LI_up (lf' := lf2) (fh' := fh1) hI hlf g5
  refine sp_further (o := 0) (c := 1) (M := 6) hI2.1 (Or.inr (Or.inl ⟨rfl, rfl, rfl⟩)) (by omega) (fun _ => ⟨fun _ => h1 _ _ _ _ _ _ _ _ _ _ _ _ k1 hadv hI2, fun h => absurd rfl h⟩) (fun k told' hk ht hp hs => ⟨fun h => absurd h (nI_nm1 (by omega)), fun _ x1 ex1 => ?_⟩)
  have e0 : x1 = v := by rw [ex1, c_0, c_1, up_n (by omega), up_s]
  rw [show (25 : Int32) + nI k = nI (25 + k) from nI_add 25 k, show (31 : Int32) + nI k = nI (31 + k) from nI_add 31 k]
  refine ⟨vp_in_nI (by omega) (by omega), fun t1 et1 x2 ex2 => ⟨vp_in_nI (by omega) (by omega), fun t2 et2 => ?_⟩⟩
  have e1 : x2 = w := by rw [ex2]; exact up_s
  rw [nI_clamp (by omega)] at et1 et2
  subst e0 e1 et1 et2
  have me : mRh (25 + k) = 8 := by
    unfold mRh
    (repeat rw [if_neg (by omega)])
    rw [if_pos (by omega)]
  have mf : mRh (31 + k) = 9 := by
    unfold mRh
    (repeat rw [if_neg (by omega)])
    rw [if_pos (by omega)]
  have hL : LI 0 lf2 fh1 told' := ⟨hp, fun _ h2 _ => Int.le_trans (r_le (g3 ((k3 h2).1)).2.1) g6⟩
  refine h1 _ _ _ _ _ _ _ _ _ _ _ _ k1 hadv (LI_upd (lf := lf2) (fh := fh1) (LI_upd hL (fun h => ⟨h, ?_⟩) (by omega) (by omega) (by omega) (Int.le_refl _)) (fun h => ⟨h, ?_⟩) (by omega) (by omega) (by omega) (Int.le_refl _))
  · rw [me]; exact iv_of rfl rfl (g3 ((k3 h).1)).2.1 (g3 ((k3 h).1)).2.2
  · rw [mf]; exact iv_of rfl rfl (k3 h).2.1 (k3 h).2.2

theorem sp_knowsLine {post : Int32 → Int32 → Int32 → Int32 → Int32 → Int64 → Int32 → Int32 → Int32 → (Nat → Int32) → (Nat → Int32) → Int32 → Int32 → Prop} (hn : n ≤ 600) (hre : mTk n re) (hI : LI 0 lf fh told)
    (h0 : ∀ re be so va wd wr lf lp told rd fs gd, post 0 re be so va wd wr lf lp told rd  fs gd)
    (h1 : ∀ re' be so' va wd wr lf' lp told' rd fs gd, mTk n re' → adv re re' so' → LI 0 lf' fh told' → post 1 re' be so' va wd wr lf' lp told' rd  fs gd) : q_m_knowsLine_0 tp re (nI n) be so va wd wr lf lp told rd  fs gd  post := by
  refine sp_take hn hre (iv_lit (by decide)) (fun _ _ _ _ _ _ _ _ _ _ => iz (h0 _ _ _ _ _ _ _ _ _ _ _ _)) (fun r1 b1 s1 v1' w1 wr1 lf1 lp1 gd1 v g1 g2 g3 g4 => oi ?_)
  refine sp_take hn g1 (iv_lit (by decide)) (fun _ _ _ _ _ _ _ _ _ _ => zi (h0 _ _ _ _ _ _ _ _ _ _ _ _)) (fun r2 b2 s2 v2' w2 wr2 lf2 lp2 gd2 w k1 k2 k3 k4 => io ?_)
  have hadv := adv_tr g2 k2
  have hlf : lf2 = 0 → lf = 0 := fun h => (g3 ((k3 h).1)).1
  have e0 : upd (upd rd (Int32.toNatClampNeg 0) v) (Int32.toNatClampNeg 1) w (Int32.toNatClampNeg 0) = v := by rw [c_0, c_1, up_n (by omega), up_s]
  have e1 : upd (upd rd (Int32.toNatClampNeg 0) v) (Int32.toNatClampNeg 1) w (Int32.toNatClampNeg 1) = w := up_s
  rw [e0, e1]
  refine sp_greater (fun r3 _ _ => ⟨fun _ => h1 _ _ _ _ _ _ _ _ _ _ _ _ k1 hadv (LI_up hI hlf (Int.le_refl _)), fun hg => ?_⟩)
  have hv := (g4 ((k4 hg).1)).2
  have hw := (k4 hg).2
  obtain ⟨a, rfl, -, ha, -⟩ := iv_nI (iv_of (l := 0) (h := 5) rfl rfl hv.1 hv.2) (by omega)
  rw [show (37 : Int32) + nI a = nI (37 + a) from nI_add 37 a]
  refine ⟨vp_in_nI (by omega) (by omega), fun x1 ex1 => ⟨vp_in_nI (by omega) (by omega), fun t1 et1 => ?_⟩⟩
  rw [nI_clamp (by omega)] at et1 ex1
  subst ex1 et1
  have me : mRh (37 + a) = 31 := by
    unfold mRh
    (repeat rw [if_neg (by omega)])
    rw [if_pos (by omega)]
  refine h1 _ _ _ _ _ _ _ _ _ _ _ _ k1 hadv (LI_upd hI (fun h => ⟨hlf h, ?_⟩) (by omega) (by omega) (by omega) (Int.le_refl _))
  rw [me]
  have ho := hI.1.2.2 (hlf h) (37 + a) (by omega)
  have e : rhi 0 (37 + a) = 31 := me
  have e8 : rlo 0 (37 + a) = 0 := rfl
  rw [e, e8] at ho
  exact iv_or 5 ho (iv_shl1 (l := 1) (h := 16) (iv_lit (l := 1) (h := 1) (by decide)) (iv_of (l := 0) (h := 4) rfl rfl hw.1 hw.2) (by decide)) (by decide)

end PL
