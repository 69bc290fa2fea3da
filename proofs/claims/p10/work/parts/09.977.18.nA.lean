theorem bit32_tab' : ((List.range 31).all fun i => (List.range 32).all fun k => hb (bitI i) k == decide (i = k)) = true := by decide +kernel
theorem hb_b32' {i k : Nat} (hi : i < 31) (hk : k < 32) : hb (bitI i) k = decide (i = k) := by
  have h := List.all_eq_true.mp (List.all_eq_true.mp bit32_tab' i (List.mem_range.mpr hi)) k (List.mem_range.mpr hk)
  exact eq_of_beq h
theorem lt_le3 {x y z : Int32} (h : x ≤ y) (h2 : y < z) : x < z := by
  rw [Int32.lt_iff_toInt_lt]
  have := r_le h
  have := r_lt h2
  omega
theorem le_tr {x y z : Int32} (h : x ≤ y) (h2 : y ≤ z) : x ≤ z := by
  rw [Int32.le_iff_toInt_le]
  have := r_le h
  have := r_le h2
  omega
theorem le_rf (x : Int32) : x ≤ x := by rw [Int32.le_iff_toInt_le]; omega
theorem gr_l (a b : Int32) : a ≤ gr a b := by
  unfold gr
  split
  · exact le_rf a
  · next h => rw [Int32.le_iff_toInt_le]; exact r_nlt h
theorem gr_r (a b : Int32) : b ≤ gr a b := by
  unfold gr
  split
  · next h => rw [Int32.le_iff_toInt_le]; have := r_lt h; omega
  · exact le_rf b
theorem lH_ge (w : Nat) (a b fh : Int32) : fh ≤ lH w a b fh := by
  unfold lH
  split
  · exact le_tr (gr_l fh a) (gr_l _ b)
  · split
    · exact gr_l fh a
    · exact le_rf fh
/-- huts told of so far are not beyond fh -/
def GO (td : Nat → Int32) (fh : Int32) : Prop := CB 0 td ∧ (∀ s : Nat, s < 6 → nI s < td 1 → td (25 + s) ≤ fh) ∧ (∀ k : Nat, k < 4 → nI k < td 4 → td (43 + 2 * k) ≤ fh ∧ td (44 + 2 * k) ≤ fh) ∧ ∀ h : Nat, h < 32 → hb (td 2) h = true → nI h ≤ fh
theorem GO_of {t td : Nat → Int32} {fh fh' : Int32} (h : GO td fh) (hC : CB 0 t) (h1 : t 1 = td 1) (h4 : t 4 = td 4) (hs : ∀ j, 25 ≤ j → j ≤ 30 → t j = td j) (hk : ∀ j, 43 ≤ j → j ≤ 50 → t j = td j) (hf : fh ≤ fh') (hv : ∀ h : Nat, h < 32 → hb (t 2) h = true → nI h ≤ fh') : GO t fh' := by
  refine ⟨hC, fun s hs6 hl => ?_, fun k hk4 hl => ?_, hv⟩
  · rw [h1] at hl
    rw [hs _ (by omega) (by omega)]
    exact le_tr (h.2.1 s hs6 hl) hf
  · rw [h4] at hl
    rw [hk _ (by omega) (by omega), hk _ (by omega) (by omega)]
    exact ⟨le_tr (h.2.2.1 k hk4 hl).1 hf, le_tr (h.2.2.1 k hk4 hl).2 hf⟩
theorem GO_ln {B : Nat → Int32} {n r w : Nat} {td : Nat → Int32} {fh : Int32} (hw : w < 10) (h : GO td fh) : GO (lD w (gd B n r w (nW w)) (tV B n (ps B n r 1)) (tV B n (ps B n r 2)) (tV B n (ps B n r 3)) td) (lH w (tV B n (ps B n r 1)) (tV B n (ps B n r 2)) fh) := by
  have hC : CB 0 (lD w (gd B n r w (nW w)) (tV B n (ps B n r 1)) (tV B n (ps B n r 2)) (tV B n (ps B n r 3)) td) := CB_ln (by omega) ⟨Nat.zero_le _, hw⟩ h.1
  have hf := lH_ge w (tV B n (ps B n r 1)) (tV B n (ps B n r 2)) fh
  have vv : ∀ {t : Nat → Int32} {fh' : Int32}, fh ≤ fh' → t 2 = td 2 → ∀ h : Nat, h < 32 → hb (t 2) h = true → nI h ≤ fh' := by
    intro t fh' hf e x hx hb1
    rw [e] at hb1
    exact le_tr (h.2.2.2 x hx hb1) hf
  have c0 : iv 0 (9 : Nat) (td 0) := h.1.1
  have c1 : iv 0 (6 : Nat) (td 1) := (h.1.2 rfl).1
  have c4 : iv 0 (4 : Nat) (td 4) := (h.1.2 rfl).2
  obtain ⟨n0, e0, -, hn0, -⟩ := iv_nI c0 (by decide)
  obtain ⟨n1, e1, -, hn1, -⟩ := iv_nI c1 (by decide)
  obtain ⟨n4, e4, -, hn4, -⟩ := iv_nI c4 (by decide)
  have hg : gd B n r w (nW w) = true → ∀ k, k < nW w → cW w k (tV B n (ps B n r 1)) (tV B n (ps B n r (k + 1))) = true := fun hg k hk => gd_c _ hg k hk
  generalize eg : gd B n r w (nW w) = g at hC hg ⊢
  generalize ea : tV B n (ps B n r 1) = a at hC hf hg ⊢
  have hg0 : g = true → cW w 0 a a = true := fun hh => by
    have h9 := hg hh 0 (by have := (nW_tb w (by omega)).2.1; omega)
    rw [show 0 + 1 = 1 from rfl, ea] at h9
    exact h9
  have hg1 : g = true → w = 5 → cW w 1 a (tV B n (ps B n r 2)) = true := fun hh h5 => by
    have h9 := hg hh 1 (by rw [h5]; decide)
    exact h9
  generalize eb : tV B n (ps B n r 2) = b at hC hf hg1 ⊢
  generalize ec : tV B n (ps B n r 3) = c at hC ⊢
  clear hg eg ea eb ec
  have hc : w = 0 ∨ w = 1 ∨ w = 2 ∨ w = 3 ∨ w = 4 ∨ w = 5 ∨ w = 6 ∨ w = 7 ∨ w = 8 ∨ w = 9 := by omega
  rcases hc with rfl | rfl | rfl | rfl | rfl | rfl | rfl | rfl | rfl | rfl
  · have e : ∀ j, ¬ j = 0 → ¬ (7 ≤ j ∧ j ≤ 15) → lD 0 g a b c td j = td j := by
      intro j hj hj2
      show (if td 0 = 9 then td else upd (upd td 0 (td 0 + 1)) (Int32.toNatClampNeg (7 + td 0)) a) j = td j
      split
      · rfl
      · next h9 =>
        have : ¬ n0 = 9 := fun e => h9 (by rw [e0, e]; rfl)
        rw [e0, show (7 : Int32) + nI n0 = nI (7 + n0) from jx 7 n0, nI_clamp (by omega), up_n (by omega), up_n hj]
    exact GO_of h hC (e 1 (by omega) (by omega)) (e 4 (by omega) (by omega)) (fun j _ _ => e j (by omega) (by omega)) (fun j _ _ => e j (by omega) (by omega)) hf (vv hf (e 2 (by omega) (by omega)))
  · have e : ∀ j, ¬ j = 2 → lD 1 g a b c td j = td j := fun j hj => up_n hj
    refine GO_of h hC (e 1 (by omega)) (e 4 (by omega)) (fun j _ _ => e j (by omega)) (fun j _ _ => e j (by omega)) hf (fun x hx hbx => ?_)
    have e2 : lD 1 g a b c td 2 = td 2 ||| (if g = true then 1 <<< (a &&& 31) else 0) := by
      show upd td 2 (td 2 ||| (if g = true then 1 <<< (a &&& 31) else 0)) 2 = _
      rw [up_s]
    rw [e2, hb_or, Bool.or_eq_true] at hbx
    rcases hbx with hbx | hbx
    · exact le_tr (h.2.2.2 x hx hbx) hf
    · by_cases hh : g = true
      · rw [if_pos hh] at hbx
        obtain ⟨p, rfl, -, hp, -⟩ := iv_nI (iv_hut (hg0 hh) (by decide +kernel)) (by decide)
        have e3 : hb (bitI p) x = true := hbx
        rw [hb_b32' (by omega) hx] at e3
        rw [← of_decide_eq_true e3]
        exact gr_r fh (nI p)
      · rw [if_neg hh, hb_0] at hbx
        exact absurd hbx (by decide)
  · have e : ∀ j, ¬ j = 3 → lD 2 g a b c td j = td j := fun j hj => up_n hj
    exact GO_of h hC (e 1 (by omega)) (e 4 (by omega)) (fun j _ _ => e j (by omega)) (fun j _ _ => e j (by omega)) hf (vv hf (e 2 (by omega)))
  · have e : ∀ j, ¬ j = 5 → lD 3 g a b c td j = td j := fun j hj => up_n hj
    exact GO_of h hC (e 1 (by omega)) (e 4 (by omega)) (fun j _ _ => e j (by omega)) (fun j _ _ => e j (by omega)) hf (vv hf (e 2 (by omega)))
  · have e : ∀ j, ¬ j = 6 → lD 4 g a b c td j = td j := fun j hj => up_n hj
    exact GO_of h hC (e 1 (by omega)) (e 4 (by omega)) (fun j _ _ => e j (by omega)) (fun j _ _ => e j (by omega)) hf (vv hf (e 2 (by omega)))
  · have e : ∀ j, j ≤ 50 → lD 5 g a b c td j = td j := by
      intro j hj
      show (if g = true then upd (upd td (Int32.toNatClampNeg ((51 + 9 * a) + b)) c) (Int32.toNatClampNeg ((51 + 9 * b) + a)) c else td) j = td j
      split
      · next hh =>
        obtain ⟨p, rfl, -, hp, -⟩ := iv_nI (iv_hut (hg0 hh) (by decide +kernel)) (by decide)
        obtain ⟨q, rfl, -, hq, -⟩ := iv_nI (iv_hut (hg1 hh rfl) (by decide +kernel)) (by decide)
        rw [ix9, ix9, nI_clamp (by omega), nI_clamp (by omega), up_n (by omega), up_n (by omega)]
      · rfl
    exact GO_of h hC (e 1 (by omega)) (e 4 (by omega)) (fun j _ _ => e j (by omega)) (fun j _ _ => e j (by omega)) hf (vv hf (e 2 (by omega)))
  · have hl1 : a ≤ lH 6 a b fh := le_tr (gr_r fh a) (gr_l _ b)
    have hl2 : b ≤ lH 6 a b fh := gr_r _ b
    have ev : lD 6 g a b c td = (if td 4 = 4 then td else upd (upd (upd td 4 (td 4 + 1)) (Int32.toNatClampNeg (43 + 2 * td 4)) a) (Int32.toNatClampNeg (43 + 2 * td 4 + 1)) b) := rfl
    by_cases h9 : td 4 = 4
    · rw [if_pos h9] at ev
      rw [ev] at hC ⊢
      exact GO_of h hC rfl rfl (fun _ _ _ => rfl) (fun _ _ _ => rfl) hf (vv hf rfl)
    · rw [if_neg h9] at ev
      have hn : ¬ n4 = 4 := fun e => h9 (by rw [e4, e]; rfl)
      have hi : (43 : Int32) + 2 * nI n4 = nI (43 + 2 * n4) := by rw [show (43 : Int32) = nI 43 from rfl, show (2 : Int32) = nI 2 from rfl, pk_mul, nI_add]
      rw [e4, hi, nI_1 n4, nI_1 (43 + 2 * n4), nI_clamp (by omega), nI_clamp (by omega)] at ev
      rw [ev] at hC ⊢
      refine ⟨hC, fun s hs6 hl => ?_, fun k hk4 hl => ?_, vv hf (by rw [up_n (by omega), up_n (by omega), up_n (by omega)])⟩
      · rw [up_n (by omega), up_n (by omega), up_n (by omega)] at hl ⊢
        exact le_tr (h.2.1 s hs6 hl) hf
      · rw [up_n (by omega), up_n (by omega), up_s] at hl
        by_cases hkn : k = n4
        · subst hkn
          rw [up_n (by omega), up_s, show 44 + 2 * k = 43 + 2 * k + 1 by omega, up_s]
          exact ⟨hl1, hl2⟩
        · have hlt : nI k < td 4 := by
            rw [e4]
            have := (nI_ltI (by omega) (by omega)).mp hl
            exact nI_lt (by omega) (by omega)
          rw [up_n (by omega), up_n (by omega), up_n (by omega), up_n (by omega), up_n (by omega), up_n (by omega)]
          exact ⟨le_tr (h.2.2.1 k hk4 hlt).1 hf, le_tr (h.2.2.1 k hk4 hlt).2 hf⟩
  · have e : ∀ j, ¬ (16 ≤ j ∧ j ≤ 24) → lD 7 g a b c td j = td j := by
      intro j hj
      show (if g = true then upd td (Int32.toNatClampNeg (16 + a)) b else td) j = td j
      split
      · next hh =>
        obtain ⟨p, rfl, -, hp, -⟩ := iv_nI (iv_hut (hg0 hh) (by decide +kernel)) (by decide)
        rw [show (16 : Int32) + nI p = nI (16 + p) from jx 16 p, nI_clamp (by omega), up_n (by omega)]
      · rfl
    exact GO_of h hC (e 1 (by omega)) (e 4 (by omega)) (fun j _ _ => e j (by omega)) (fun j _ _ => e j (by omega)) hf (vv hf (e 2 (by omega)))
  · have hl1 : a ≤ lH 8 a b fh := gr_r fh a
    have ev : lD 8 g a b c td = (if td 1 = 6 then td else upd (upd (upd td 1 (td 1 + 1)) (Int32.toNatClampNeg (25 + td 1)) a) (Int32.toNatClampNeg (31 + td 1)) b) := rfl
    by_cases h9 : td 1 = 6
    · rw [if_pos h9] at ev
      rw [ev] at hC ⊢
      exact GO_of h hC rfl rfl (fun _ _ _ => rfl) (fun _ _ _ => rfl) hf (vv hf rfl)
    · rw [if_neg h9] at ev
      have hn : ¬ n1 = 6 := fun e => h9 (by rw [e1, e]; rfl)
      rw [e1, show (25 : Int32) + nI n1 = nI (25 + n1) from jx 25 n1, show (31 : Int32) + nI n1 = nI (31 + n1) from jx 31 n1, nI_1 n1, nI_clamp (by omega), nI_clamp (by omega)] at ev
      rw [ev] at hC ⊢
      refine ⟨hC, fun s hs6 hl => ?_, fun k hk4 hl => ?_, vv hf (by rw [up_n (by omega), up_n (by omega), up_n (by omega)])⟩
      · rw [up_n (by omega), up_n (by omega), up_s] at hl
        by_cases hsn : s = n1
        · subst hsn
          rw [up_n (by omega), up_s]
          exact hl1
        · have hlt : nI s < td 1 := by
            rw [e1]
            have := (nI_ltI (by omega) (by omega)).mp hl
            exact nI_lt (by omega) (by omega)
          rw [up_n (by omega), up_n (by omega), up_n (by omega)]
          exact le_tr (h.2.1 s hs6 hlt) hf
      · rw [up_n (by omega), up_n (by omega), up_n (by omega)] at hl
        rw [up_n (by omega), up_n (by omega), up_n (by omega), up_n (by omega), up_n (by omega), up_n (by omega)]
        exact ⟨le_tr (h.2.2.1 k hk4 hl).1 hf, le_tr (h.2.2.1 k hk4 hl).2 hf⟩
  · have e : ∀ j, ¬ (37 ≤ j ∧ j ≤ 42) → lD 9 g a b c td j = td j := by
      intro j hj
      show (if g = true then upd td (Int32.toNatClampNeg (37 + a)) (td (Int32.toNatClampNeg (37 + a)) ||| 1 <<< (b &&& 31)) else td) j = td j
      split
      · next hh =>
        have h5 : iv 0 5 a := iv_w (cW_iv (hg0 hh)) (by decide +kernel)
        obtain ⟨p, rfl, -, hp, -⟩ := iv_nI h5 (by decide)
        rw [show (37 : Int32) + nI p = nI (37 + p) from jx 37 p, nI_clamp (by omega), up_n (by omega)]
      · rfl
    exact GO_of h hC (e 1 (by omega)) (e 4 (by omega)) (fun j _ _ => e j (by omega)) (fun j _ _ => e j (by omega)) hf (vv hf (e 2 (by omega)))
theorem go_LO {B : Nat → Int32} {n : Nat} : ∀ m r fa pl td fh fs, r ≤ n → n < m + r → GO td fh → (go B n 0 m r fa pl td fh fs).1 = 0 → LOK (go B n 0 m r fa pl td fh fs).2.2 := by
  intro m
  induction m with
  | zero => intro r fa pl td fh fs hr hm; omega
  | succ m ih =>
    intro r fa pl td fh fs hr hm hG h0
    unfold go at h0 ⊢
    by_cases hk : tK B n r = 0
    · rw [if_pos hk] at h0 ⊢
      unfold fin4 at h0 ⊢
      by_cases h4 : fa = 0 ∧ 0 = 0 ∧ (td 0 ≤ fh ∨ td 1 ≤ fs)
      · rw [if_pos h4] at h0
        exact absurd (show (4 : Int32) = 0 from h0) (by decide)
      · rw [if_neg h4] at h0 ⊢
        have hlt : fh < td 0 := by
          rw [← Int32.not_le]
          intro h9
          exact h4 ⟨h0, rfl, Or.inl h9⟩
        exact ⟨fun s hs hl => lt_le3 (hG.2.1 s hs hl) hlt, fun k hk4 hl => ⟨lt_le3 (hG.2.2.1 k hk4 hl).1 hlt, lt_le3 (hG.2.2.1 k hk4 hl).2 hlt⟩, fun x hx hbx => lt_le3 (hG.2.2.2 x hx hbx) hlt⟩
    · rw [if_neg hk] at h0 ⊢
      by_cases h9 : lb B n r 0 = 9
      · rw [if_pos h9] at h0 ⊢
        have hw : wOf B n r 0 < 10 := by
          rcases wd_cases (B := B) (n := n) (r := r) (o := 0) (by omega) with ⟨e, _⟩ | ⟨_, hP⟩
          · unfold lb at h9
            rw [if_pos e] at h9
            omega
          · exact hP.2.1
        have hp1 := (ps_le (B := B) hr (nW (wOf B n r 0) + 2)).2
        have hp2 := ps_lt (B := B) hr hk (nW (wOf B n r 0) + 1)
        have hp3 : r + 1 ≤ ps B n r (nW (wOf B n r 0) + 2) := hp2
        exact ih _ _ _ _ _ _ hp1 (by omega) (GO_ln hw hG) h0
      · rw [if_neg h9] at h0
        exact absurd (show (1 : Int32) = 0 from h0) (by decide)
theorem tx_LO {B : Nat → Int32} {n : Nat} (h : (tx B n 0).1 = 0) : LOK (tx B n 0).2.2 := by
  unfold tx at h ⊢
  refine go_LO _ _ _ _ _ _ _ (Nat.zero_le _) (by omega) ⟨CB_ini (by omega) (fun _ _ => rfl), fun s hs hl => ?_, fun k hk hl => ?_, fun x _ hbx => by rw [show ini 0 2 = 0 from rfl, hb_0] at hbx; exact absurd hbx (by decide)⟩ h
  · exact absurd hl (nI_pos (by omega))
  · exact absurd hl (nI_pos (by omega))
theorem LOK_ext {td td' : Nat → Int32} (h : LOK td) (e : ∀ j, j < 132 → td' j = td j) : LOK td' := by
  refine ⟨fun s hs hl => ?_, fun k hk hl => ?_, fun x hx hbx => by rw [e 0 (by omega)]; rw [e 2 (by omega)] at hbx; exact h.2.2 x hx hbx⟩
  · rw [e 1 (by omega)] at hl
    rw [e _ (by omega), e 0 (by omega)]
    exact h.1 s hs hl
  · rw [e 4 (by omega)] at hl
    rw [e (43 + 2 * k) (by omega), e (44 + 2 * k) (by omega), e 0 (by omega)]
    exact h.2.1 k hk hl
/-- the lands of a slot are as told -/
def LKs (M : Nat → Nat → Int32) (s : Nat) : Prop := ∀ k : Nat, k < 2 → nI k < M 4 (4 * s) → LOK (fun j => M 5 (264 * s + 132 * k + j))
def LK (M : Nat → Nat → Int32) : Prop := LKs M 0 ∧ ∀ j, j < 3 → ¬ M 9 j = 0 → LKs M (j + 1)
theorem LKs_mv {M M' : Nat → Nat → Int32} {s s' : Nat} (h : ∀ c, c < 9 → ∀ i, i < wR c → M' c (wR c * s' + i) = M c (wR c * s + i)) (hT : LKs M s) : LKs M' s' := by
  intro k hk hl
  have e4 : M' 4 (4 * s') = M 4 (4 * s) := h 4 (by omega) 0 (by decide)
  rw [e4] at hl
  refine LOK_ext (hT k hk hl) (fun j hj => ?_)
  have g := h 5 (by omega) (132 * k + j) (by show 132 * k + j < 264; omega)
  have w5 : wR 5 = 264 := rfl
  rw [w5] at g
  show M' 5 (264 * s' + 132 * k + j) = M 5 (264 * s + 132 * k + j)
  rw [Nat.add_assoc, Nat.add_assoc]
  exact g
theorem LK_eq {M M' : Nat → Nat → Int32} (h : ∀ i, i < 10 → 2 ≤ i → M' i = M i) (hK : LK M) : LK M' := by
  refine ⟨fun k hk hl => ?_, fun j hj hn k hk hl => ?_⟩
  · rw [h 4 (by omega) (by omega)] at hl
    rw [h 5 (by omega) (by omega)]
    exact hK.1 k hk hl
  · rw [h 9 (by omega) (by omega)] at hn
    rw [h 4 (by omega) (by omega)] at hl
    rw [h 5 (by omega) (by omega)]
    exact hK.2 j hj hn k hk hl
theorem LK_fd {M M' : Nat → Nat → Int32} {a b c d e r : Int32} (h : mFD M M' a b c d e r) (hK : LK M) : LK M' := LK_eq (fun i h1 h2 => h.1.1 i h2 h1) hK
theorem LK_en {M M' : Nat → Nat → Int32} {a r : Int32} (h : mEN M M' a r) (hK : LK M) : LK M' := LK_eq (fun i h1 h2 => h.1.1 i h2 h1) hK
theorem LK_im {M M' : Nat → Nat → Int32} {a r : Int32} (h : mIM M M' a r) (hK : LK M) : LK M' := by
  by_cases hj : imJ a
  · obtain ⟨k, hk, e⟩ := imJ_nI.mp hj
    obtain ⟨_, hc, h1, hs⟩ := h.2 k hk e
    refine ⟨LKs_mv (mCP_out hc (by omega)) hK.1, fun j hj3 hn => ?_⟩
    by_cases hjk : j = k
    · subst hjk
      exact LKs_mv (fun c hc9 i hi => (hc c hc9).1 i hi) hK.1
    · rw [hs j hjk] at hn
      exact LKs_mv (mCP_out hc (by omega)) (hK.2 j hj3 hn)
  · exact LK_eq (fun i h1 _ => (h.1 hj).2 i h1) hK
theorem LK_ag {M M' : Nat → Nat → Int32} {a r : Int32} (h : mAG M M' a r) (hK : LK M) : LK M' := by
  by_cases hx : ∃ k, k < 3 ∧ a = nI k ∧ ¬ M 9 k = 0
  · obtain ⟨k, hk, e, hn⟩ := hx
    obtain ⟨_, hc, h9⟩ := h.2 k hk e hn
    refine ⟨LKs_mv (fun c hc9 i hi => (hc c hc9).1 i hi) (hK.2 k hk hn), fun j hj3 hn2 => ?_⟩
    rw [h9] at hn2
    exact LKs_mv (mCP_out hc (by omega)) (hK.2 j hj3 hn2)
  · exact LK_eq (fun i h1 _ => (h.1 hx).2 i h1) hK
theorem LK_tx {M M' : Nat → Nat → Int32} {a1 a2 r : Int32} (h : mTX M M' a1 a2 r) (hc : ∀ o, o < 4 → iv 0 2 (M 4 o)) (hK : LK M) : LK M' := by
  obtain ⟨m0, m9, ml, ms, mn, my⟩ := h
  have stay : (∀ i, 4 ≤ i → i < 9 → M' i = M i) → LK M' := by
    intro h
    refine ⟨fun k hk hl => ?_, fun j hj hn k hk hl => ?_⟩
    · rw [h 4 (by omega) (by omega)] at hl
      rw [h 5 (by omega) (by omega)]
      exact hK.1 k hk hl
    · rw [m9] at hn
      rw [h 4 (by omega) (by omega)] at hl
      rw [h 5 (by omega) (by omega)]
      exact hK.2 j hj hn k hk hl
  by_cases hx : ∃ o k, o < 4 ∧ k < 2 ∧ a1 = nI o ∧ NUM (M 4 o) a2 k
  · obtain ⟨o, k, ho, hk, e, hN⟩ := hx
    obtain ⟨_, _, hf, hg⟩ := my o k ho hk e hN
    by_cases h0 : (MXr M o).1 = 0
    · obtain ⟨_, e4, ein, eout, eo⟩ := hg h0
      by_cases ho0 : o = 0
      · subst ho0
        have w0 : wD 0 = 132 := rfl
        rw [w0] at ein eout
        refine ⟨fun k' hk' hl => ?_, fun j hj hn k' hk' hl => ?_⟩
        · by_cases hkk : k' = k
          · subst hkk
            refine LOK_ext (tx_LO h0) (fun j hj => ?_)
            have g := ein j hj
            show M' 5 (264 * 0 + 132 * k' + j) = _
            rw [Nat.mul_zero, Nat.zero_add]
            exact g
          · have hlt : nI k' < M 4 (4 * 0) := by
              rw [e4, up_s] at hl
              unfold cmx at hl
              obtain ⟨c, ec, -, hc2, -⟩ := iv_nI (hc 0 (by omega)) (by decide)
              show nI k' < M 4 0
              rw [ec] at hl ⊢
              rcases hN with ⟨_, q⟩ | ⟨_, _, q⟩
              · rw [ec] at q
                have : c = k := (nI_eq (by omega) (by omega)).mp q
                subst this
                rw [nI_1, if_pos (nI_lt (by omega) (by omega))] at hl
                have := (nI_ltI (by omega) (by omega)).mp hl
                exact nI_lt (by omega) (by omega)
              · rw [ec] at q
                have := (nI_ltI (by omega) (by omega)).mp q
                rw [nI_1, if_neg (fun h9 => by have := (nI_ltI (by omega) (by omega)).mp h9; omega)] at hl
                exact hl
            refine LOK_ext (hK.1 k' hk' hlt) (fun j hj => ?_)
            show M' 5 (264 * 0 + 132 * k' + j) = M 5 (264 * 0 + 132 * k' + j)
            exact eout _ (by omega)
        · rw [m9] at hn
          have e44 : M' 4 (4 * (j + 1)) = M 4 (4 * (j + 1)) := by rw [e4, up_n (by omega)]
          rw [e44] at hl
          refine LOK_ext (hK.2 j hj hn k' hk' hl) (fun i hi => ?_)
          show M' 5 (264 * (j + 1) + 132 * k' + i) = M 5 (264 * (j + 1) + 132 * k' + i)
          exact eout _ (by omega)
      · have e5 : M' 5 = M 5 := eo 5 (by omega) (by omega) (by omega)
        refine ⟨fun k' hk' hl => ?_, fun j hj hn k' hk' hl => ?_⟩
        · rw [e4, up_n (by omega)] at hl
          rw [e5]
          exact hK.1 k' hk' hl
        · rw [m9] at hn
          rw [e4, up_n (by omega)] at hl
          rw [e5]
          exact hK.2 j hj hn k' hk' hl
    · exact stay (hf h0).2
  · exact stay (mn hx).2.2.2
/-- land k of the reference's rows is as told -/
theorem LK_row {M : Nat → Nat → Int32} {k : Nat} (hK : LK M) (hk : k < 2) (hl : nI k < M 4 0) : LOK (rowM M 0 (nI k)) := by
  refine LOK_ext (hK.1 k hk hl) (fun j hj => ?_)
  unfold rowM
  rw [nI_clamp (by omega)]
  show M 5 (132 * k + j) = M 5 (264 * 0 + 132 * k + j)
  rw [Nat.mul_zero, Nat.zero_add]
/-- what all calls keep: both sides are told alike, lands as told -/
def RG (T : TT) (M : Nat → Nat → Int32) (I : Nat → TT) (mi : Nat → Option Nat) : Prop := RF T M I mi ∧ LK M
theorem RG_fd {T T' : TT} {M M' : Nat → Nat → Int32} {I : Nat → TT} {mi : Nat → Option Nat} {a b c d e r1 r2 : Int32} (h : RG T M I mi) (hB : tB T) (hI : tBI I mi) (h1 : xFD T T' a b c d e r1) (h2 : mFD M M' a b c d e r2) : r1 = r2 ∧ RG T' M' I mi := ⟨(RF_fd h.1 hB hI h1 h2).1, (RF_fd h.1 hB hI h1 h2).2, LK_fd h2 h.2⟩
theorem RG_en {T T' : TT} {M M' : Nat → Nat → Int32} {I : Nat → TT} {mi : Nat → Option Nat} {a r1 r2 : Int32} (h : RG T M I mi) (hB : tB T) (hI : tBI I mi) (h1 : xEN T T' a r1) (h2 : mEN M M' a r2) : r1 = r2 ∧ RG T' M' I mi := ⟨(RF_en h.1 hB hI h1 h2).1, (RF_en h.1 hB hI h1 h2).2, LK_en h2 h.2⟩
theorem RG_im {T : TT} {M M' : Nat → Nat → Int32} {I I' : Nat → TT} {mi mi' : Nat → Option Nat} {a r1 r2 : Int32} (h : RG T M I mi) (hB : tB T) (hI : tBI I mi) (h1 : xIM mi mi' I I' T a r1) (h2 : mIM M M' a r2) : r1 = r2 ∧ RG T M' I' mi' := ⟨(RF_im h.1 hB hI h1 h2).1, (RF_im h.1 hB hI h1 h2).2, LK_im h2 h.2⟩
theorem RG_ag {T T' : TT} {M M' : Nat → Nat → Int32} {I : Nat → TT} {mi : Nat → Option Nat} {a r1 r2 : Int32} (h : RG T M I mi) (hB : tB T) (hI : tBI I mi) (h1 : xAG mi I T T' a r1) (h2 : mAG M M' a r2) : r1 = r2 ∧ RG T' M' I mi := ⟨(RF_ag h.1 hB hI h1 h2).1, (RF_ag h.1 hB hI h1 h2).2, LK_ag h2 h.2⟩
theorem RG_tx {T T' : TT} {M M' : Nat → Nat → Int32} {I : Nat → TT} {mi : Nat → Option Nat} {a1 a2 r1 r2 : Int32} (h : RG T M I mi) (hB : tB T) (hB' : tB T') (hI : tBI I mi) (h1 : xTX T T' a1 a2 r1) (h2 : mTX M M' a1 a2 r2) : r1 = r2 ∧ RG T' M' I mi := ⟨(RF_tx h.1 hB hB' hI h1 h2).1, (RF_tx h.1 hB hB' hI h1 h2).2, LK_tx h2 (fun o ho => by rw [TM_cnt h.1.1 o ho]; exact hB.2.2.1 o) h.2⟩
