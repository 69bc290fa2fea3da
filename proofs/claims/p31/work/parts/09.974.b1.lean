section
theorem ps_lt {B : Nat → Int32} {n r : Nat} (hr : r ≤ n) (hK : ¬ tK B n r = 0) : ∀ k, r + 1 ≤ ps B n r (k + 1)
  | 0 => by
    have h := tk_le (B := B) hr
    have h1 := tF_le (B := B) hr
    have h2 := h.2.2.1 hK
    show r + 1 ≤ tN B n r
    omega
  | k + 1 => by
    have h := ps_lt hr hK k
    have h0 := ps_le (B := B) hr (k + 1)
    have h1 := tk_le (B := B) h0.2
    have h2 := tF_le (B := B) h0.2
    show r + 1 ≤ tN B n (ps B n r (k + 1))
    omega
theorem iv_hut {w : Nat} {a v : Int32} {k : Nat} (h : cW w k a v = true) (hs : 0 ≤ (tbf_2 (w * 3 + k)).toInt ∧ (tbf_3 (w * 3 + k)).toInt ≤ 8) : iv 0 8 v := iv_w (cW_iv h) hs
theorem hutw : ∀ w, w < 20 → (w = 5 ∨ w = 7 ∨ w = 9) → 0 ≤ (tbf_2 (w * 3 + 0)).toInt ∧ (tbf_3 (w * 3 + 0)).toInt ≤ 8 := by decide +kernel
/-- as CB_lD, of a line -/
theorem CB_ln {B : Nat → Int32} {n r o w : Nat} {td : Nat → Int32} (ho : o ≤ 3) (hw : wlo o ≤ w ∧ w < wlo (o + 1)) (hC : CB o td) : CB o (lD w (gd B n r w (nW w)) (tV B n (ps B n r 1)) (tV B n (ps B n r 2)) (tV B n (ps B n r 3)) td) := by
  by_cases hq : w = 5 ∨ w = 7 ∨ w = 9
  · refine CB_lD ho hw hC (fun hg => ?_)
    have h20 : w < 20 := Nat.lt_of_lt_of_le hw.2 (wlo_lt o ho).1
    have hn := nW_tb w h20
    refine ⟨iv_hut (gd_c _ hg 0 (by omega)) (hutw w h20 hq), fun h5 => ?_⟩
    subst h5
    exact iv_hut (gd_c _ hg 1 (by decide)) (by decide +kernel)
  · have e : ∀ g g' : Bool, CB o (lD w g (tV B n (ps B n r 1)) (tV B n (ps B n r 2)) (tV B n (ps B n r 3)) td) → CB o (lD w g' (tV B n (ps B n r 1)) (tV B n (ps B n r 2)) (tV B n (ps B n r 3)) td) := by
      intro g g' h
      have h5 : ¬ w = 5 := fun h => hq (Or.inl h)
      have h7 : ¬ w = 7 := fun h => hq (Or.inr (Or.inl h))
      have h9 : ¬ w = 9 := fun h => hq (Or.inr (Or.inr h))
      by_cases h1 : w = 1
      · subst h1; exact h
      by_cases h2 : w = 2
      · subst h2; exact h
      have e2 : lD w g' (tV B n (ps B n r 1)) (tV B n (ps B n r 2)) (tV B n (ps B n r 3)) td = lD w g (tV B n (ps B n r 1)) (tV B n (ps B n r 2)) (tV B n (ps B n r 3)) td := by
        unfold lD
        simp only [if_neg h1, if_neg h2, if_neg h5, if_neg h7, if_neg h9]
      rw [e2]; exact h
    exact e false _ (CB_lD ho hw hC (fun h => absurd h (by decide)))
def FP (fa pl : Int32) : Prop := (fa = 0 → pl = -1) ∧ (¬ fa = 0 → 0 < fa.toInt)
theorem FP_m {c : Bool} {lf lp f p : Int32} (h : FP lf lp) (hf : 0 < f.toInt) : FP (mF c lf f) (mP c lf lp p) := by
  unfold mF mP
  by_cases hc : c = true
  · rw [if_pos hc, if_pos hc]; exact h
  · rw [if_neg hc, if_neg hc]
    by_cases hl : lf = 0
    · rw [if_pos hl, if_pos hl]
      exact ⟨fun h9 => by rw [h9] at hf; exact absurd hf (by decide), fun _ => hf⟩
    · rw [if_neg hl, if_neg hl]; exact h
theorem FP_k {B : Nat → Int32} {n r w : Nat} {td : Nat → Int32} {fa pl : Int32} (h : FP fa pl) : ∀ k, FP (mkF B n r w td fa k) (mkP B n r w td fa pl k)
  | 0 => FP_m h (by decide)
  | k + 1 => FP_m (FP_k h k) (by decide)
set_option maxRecDepth 20000 in
theorem e_lines {tp B : Nat → Int32} {n o : Nat} {post : Int32 → Int32 → Int32 → Int32 → Int32 → Int64 → Int32 → Int32 → Int32 → (Nat → Int32) → (Nat → Int32) → Int32 → Int32 → Int32 → Prop} (hn : n ≤ 600) (hB : ∀ j, j < n → tp j = B j) (hb : ∀ j, iv (-128) 127 (B j)) (ho : o ≤ 3) {R : Int32 × Int32 × (Nat → Int32)}
    (hX : ∀ (p : Int32) (td' : Nat → Int32), R = (1, p, td') → ∀ (re be so va : Int32) (wd : Int64) (lf lp : Int32) (td rd : Nat → Int32) (fh fs gd : Int32), post 0 re be so va wd p lf lp td rd fh fs gd)
    (hE : ∀ (fa pl lp : Int32) (td told : Nat → Int32) (fh fs : Int32), CB o told → (∀ j, j < 132 → told j = td j) → (¬ fa = 0 → lp = pl) → FP fa pl → R = fin4 o n fa pl td fh fs → ∀ (re va : Int32) (wd : Int64) (wr : Int32) (rd : Nat → Int32) (gd : Int32), post 1 re (nI n) 0 va wd wr fa lp told rd fh fs gd)
    {r : Nat} {va wr fa pl lp fh fs gd : Int32} {wd : Int64} {td told rd : Nat → Int32} (hr : r ≤ n) (hw : tK B n r = 1 → wd = tW B n r) (hlp : ¬ fa = 0 → lp < nI (tF B n r)) (hC : CB o told) (ht : ∀ j, j < 132 → told j = td j) (hpl : ¬ fa = 0 → lp = pl) (hFP : FP fa pl) (hR : R = go B n o (n + 1) r fa pl td fh fs) : q_m_lines_0 tp (nI (tN B n r)) (nI n) (nI (tF B n r)) (sI (tK B n r)) va wd wr fa lp told rd fh fs gd (nI o) post := by
  intro P hP
  have nb : narrow .boolean (.int (0 : Int32)) = .int 0 := rfl
  have nb1 : narrow .boolean (.int (1 : Int32)) = .int 1 := rfl
  have loop : ∀ m r (va wr fa pl lp fh fs gd : Int32) (wd : Int64) (td told rd : Nat → Int32), n + 1 ≤ m + r → r ≤ n → (tK B n r = 1 → wd = tW B n r) → (¬ fa = 0 → lp < nI (tF B n r)) → CB o told → (∀ j, j < 132 → told j = td j) → (¬ fa = 0 → lp = pl) → FP fa pl → R = go B n o m r fa pl td fh fs → P 1 (nI (tN B n r)) (nI (tF B n r)) (sI (tK B n r)) va wd wr fa lp told rd fh fs gd := by
    intro m
    induction m with
    | zero => intro r va wr fa pl lp fh fs gd wd td told rd h1 h2; omega
    | succ m ih =>
      intro r va wr fa pl lp fh fs gd wd td told rd h1 hr hw hlp hC ht hpl hFP hR
      have htk := tk_le (B := B) hr
      apply hP
      refine ⟨fun h9 => absurd h9 (by decide), fun _ => ?_⟩
      by_cases hK0 : tK B n r = 0
      · rw [go, if_pos hK0] at hR
        have e1 : tF B n r = n := htk.2.2.2.1 hK0
        rw [hK0, e1]
        refine ⟨fun _ => ⟨nb1, hE fa pl lp td told fh fs hC ht hpl hFP hR _ _ _ _ _ _⟩, fun h9 => absurd rfl h9⟩
      rw [go, if_neg hK0] at hR
      refine ⟨fun h9 => absurd ((sI_0 _ htk.2.2.2.2).mp h9) hK0, fun _ => ?_⟩
      -- a line
      have fail : ¬ lb B n r o = 9 → ∀ (re be so va : Int32) (wd : Int64) (lf lp : Int32) (td rd : Nat → Int32) (fh fs gd : Int32), P 0 re be so va wd (nI (tF B n (ps B n r (lb B n r o)))) lf lp td rd fh fs gd := by
        intro h9 re be so va wd lf lp td rd fh fs gd
        rw [if_neg h9] at hR
        apply hP
        exact ⟨fun _ => ⟨nb, hX _ _ hR _ _ _ _ _ _ _ _ _ _ _ _⟩, fun h8 => absurd rfl h8⟩
      have fl : ∀ j, j = lb B n r o → ¬ j = 9 → ∀ (re be so va : Int32) (wd : Int64) (lf lp : Int32) (td rd : Nat → Int32) (fh fs gd : Int32), P 0 re be so va wd (nI (tF B n (ps B n r j))) lf lp td rd fh fs gd := by
        intro j hj h9
        rw [hj]
        exact fail (by rw [← hj]; exact h9)
      have line : ∀ x : Int64, (tK B n r = 1 → x = tW B n r) → (¬ tK B n r = 1 → x = 0) → q_m_lines_41 P tp (nI (tN B n r)) (nI n) (nI (tF B n r)) (sI (tK B n r)) va wd wr fa lp told rd fh fs 1 (nI o) (nI (tF B n r)) (nI o) x post := by
        intro x hx1 hx0
        refine e_lineOf hn hr hB hb hlp hK0 ho hC hx1 hx0 (fun h20 re be so va wd lf lp td rd fh fs gd => ?_) (fun hlt j a b c d re be so va wd lf lp td rd fh fs gd => ?_) (fun hlt hk va2 wd2 rd2 gd2 hl => ?_)
        · refine iz (iz ?_)
          exact fl 0 (by unfold lb; rw [if_pos h20]) (by omega) _ _ _ _ _ _ _ _ _ _ _ _
        · have h3 := nW_tb _ hlt
          have e : lb B n r o = j := by
            unfold lb
            rw [if_neg (by omega)]
            exact lbr_f _ 0 (by omega) (by omega) c (fun i q1 q2 => d i (by omega) q2)
          exact iz (iz (fl j e.symm (by omega) _ _ _ _ _ _ _ _ _ _ _ _))
        · have h3 := nW_tb _ hlt
          have e : lb B n r o = if tK B n (ps B n r (0 + nW (wOf B n r o) + 1)) = 3 then 9 else 0 + nW (wOf B n r o) + 1 := by
            unfold lb
            rw [if_neg (by omega)]
            exact lbr_t _ 0 (fun j q1 q2 => hk j (by omega) (by omega))
          rw [Nat.zero_add] at e
          have hps := ps_le (B := B) hr
          have htk2 := tk_le (B := B) (hps (nW (wOf B n r o) + 1)).2
          refine oi ⟨fun h4 => ?_, fun h4 => ?_⟩
          · have hK3 := (sI_4 _ htk2.2.2.2.2).mp h4
            rw [if_pos hK3] at e
            rw [if_pos e] at hR
            have hP2 := (wd_cases (B := B) (n := n) (r := r) ho).resolve_left (fun h => by omega)
            refine oi ?_
            refine e_tok (r := ps B n r (nW (wOf B n r o) + 2)) hn (hps _).2 hB hb (fun v w2 _ hw2 => ?_)
            have hfu := fu_ext (w := wOf B n r o) ht
            rw [mkF_ext hfu] at hl ⊢
            refine ih _ _ _ _ _ _ _ _ _ _ _ _ _ (by have h9 : r + 1 ≤ ps B n r (nW (wOf B n r o) + 2) := ps_lt hr hK0 (nW (wOf B n r o) + 1); omega) (hps _).2 hw2 (LP_s hl ?_ ?_) (CB_ln ho ⟨hP2.2.1, hP2.2.2.1⟩ hC) (lD_ext ht) ?_ (FP_k hFP _) hR
            · have := tF_le (B := B) (hps (nW (wOf B n r o) + 2)).2
              have h9 : ps B n r (nW (wOf B n r o) + 2) = tN B n (ps B n r (nW (wOf B n r o) + 1)) := rfl
              omega
            · have := tF_le (B := B) (hps (nW (wOf B n r o) + 2)).2
              omega
            · intro hm
              rw [mkP_ext hfu]
              exact mkP_ir hpl _ hm
          · have hK3 : ¬ tK B n (ps B n r (nW (wOf B n r o) + 1)) = 3 := fun h => h4 ((sI_4 _ htk2.2.2.2.2).mpr h)
            rw [if_neg hK3] at e
            exact iz (fl _ e.symm (by omega) _ _ _ _ _ _ _ _ _ _ _ _)
      refine ⟨fun h2 => line 0 (fun h => absurd ((sI_2 _ htk.2.2.2.2).mpr h) h2) (fun _ => rfl), fun h2 => line wd hw (fun h => absurd ((sI_2 _ htk.2.2.2.2).mp h2) h)⟩
  exact loop (n + 1) r _ _ _ _ _ _ _ _ _ _ _ _ (by omega) hr hw hlp hC ht hpl hFP hR
/-- a text's row at its beginning -/
def ini (o j : Nat) : Int32 := if o = 0 then (if j = 5 then 2 else if j = 6 then 5 else 0) else 0
noncomputable def tx (B : Nat → Int32) (n o : Nat) : Int32 × Int32 × (Nat → Int32) := go B n o (n + 1) 0 0 (-1) (ini o) (-1) (-1)
theorem CB_ini {o : Nat} {t : Nat → Int32} (ho : o ≤ 3) (h : ∀ j, j < 132 → t j = ini o j) : CB o t := by
  unfold CB
  rw [h 0 (by omega), h 1 (by omega), h 4 (by omega)]
  have hoc : o = 0 ∨ o = 1 ∨ o = 2 ∨ o = 3 := by omega
  rcases hoc with rfl | rfl | rfl | rfl
  · exact ⟨iv_lit (by decide), fun _ => ⟨iv_lit (by decide), iv_lit (by decide)⟩⟩
  · exact ⟨iv_lit (by decide), fun h => absurd h (by decide)⟩
  · exact ⟨iv_lit (by decide), fun h => absurd h (by decide)⟩
  · exact ⟨iv_lit (by decide), fun h => absurd h (by decide)⟩
set_option maxRecDepth 20000 in
theorem e_readText {tp B fl fp : Nat → Int32} {n o : Nat} {re be so va wr lf lp fh fs gd : Int32} {wd : Int64} {told rd : Nat → Int32} {post : Int32 → (Nat → Int32) → (Nat → Int32) → Int32 → Int32 → Int32 → Int32 → Int64 → Int32 → Int32 → Int32 → (Nat → Int32) → (Nat → Int32) → Int32 → Int32 → Int32 → Prop} (hn : n ≤ 600) (hB : ∀ j, j < n → tp j = B j) (hb : ∀ j, iv (-128) 127 (B j)) (ho : o ≤ 3)
    (h0 : ¬ (tx B n o).1 = 0 → ∀ (re be so va : Int32) (wd : Int64) (wr lf lp : Int32) (td rd : Nat → Int32) (fh fs gd : Int32), post 0 (upd fl 0 (tx B n o).1) (upd fp 0 (tx B n o).2.1) re be so va wd wr lf lp td rd fh fs gd)
    (h1 : (tx B n o).1 = 0 → ∀ (re be so va : Int32) (wd : Int64) (wr lf lp : Int32) (td rd : Nat → Int32) (fh fs gd : Int32), (∀ j, j < 132 → td j = (tx B n o).2.2 j) → post 1 (upd fl 0 (tx B n o).1) (upd fp 0 (tx B n o).2.1) re be so va wd wr lf lp td rd fh fs gd) : q_m_readText_0 tp fl fp re (nI n) be so va wd wr lf lp told rd fh fs gd (nI o) post := by
  -- behind the row's clearing
  have mid : ∀ t : Nat → Int32, (∀ j, j < 132 → t j = ini o j) → q_m_readText_41 tp fl fp re (nI n) be so va wd wr lf lp t rd fh fs gd (nI o) post := by
    intro t ht
    refine e_tok (r := 0) hn (by omega) hB hb (fun v w _ hw => ?_)
    refine e_lines (R := tx B n o) (pl := -1) (td := ini o) hn hB hb ho (fun p td' hR re be so va wd lf lp td rd fh fs gd => ?_) (fun fa pl lp td told fh fs hC ht hpl hFP hR re va wd wr rd gd => ?_) (by omega) hw (fun h => absurd rfl h) (CB_ini ho ht) ht (fun h => absurd rfl h) ⟨fun _ => rfl, fun h => absurd rfl h⟩ rfl
    · have e1 : (tx B n o).1 = 1 := by rw [hR]
      have e2 : (tx B n o).2.1 = p := by rw [hR]
      have g := h0 (by rw [e1]; decide)
      rw [e1, e2] at g
      refine iz (iz ⟨vp_in_nI (n := 0) (by decide) (by decide), fun f1 ef => zi ⟨vp_in_nI (n := 0) (by decide) (by decide), fun f2 ef2 => ?_⟩⟩)
      rw [c_0] at ef ef2 ⊢
      rw [ef, ef2]
      exact ⟨fun _ => g _ _ _ _ _ _ _ _ _ _ _ _ _, fun h => absurd (by rw [← h]; exact up_s) (by decide : ¬ (0 : Int32) = 1)⟩
    · -- the end: the fault, the place
      have fin : ∀ lf' lp' : Int32, (tx B n o).1 = lf' → (¬ lf' = 0 → (tx B n o).2.1 = lp' ∧ 0 < lf'.toInt) → (lf' = 0 → (tx B n o).2.1 = -1 ∧ ∀ j, j < 132 → told j = (tx B n o).2.2 j) → q_m_readText_121 tp fl fp re (nI n) (nI n) 0 va wd wr lf' lp' told rd fh fs gd 1 post := by
        intro lf' lp' e1 e2 e3
        refine oi ⟨vp_in_nI (n := 0) (by decide) (by decide), fun f1 ef => io ?_⟩
        rw [c_0] at ef
        have e0 : (0 : Int32).toInt = 0 := rfl
        refine ⟨fun hle => ⟨vp_in_nI (n := 0) (by decide) (by decide), fun f2 ef2 => ?_⟩, fun hle => ⟨vp_in_nI (n := 0) (by decide) (by decide), fun f2 ef2 => ?_⟩⟩
        · have hz : lf' = 0 := by
            by_cases h : lf' = 0
            · exact h
            · have := (e2 h).2
              have := r_le hle
              omega
          rw [c_0] at ef2 ⊢
          have g := h1 (e1.trans hz)
          rw [(e3 hz).1, e1] at g
          rw [ef, ef2]
          exact ⟨fun h => absurd (by rw [up_s]; exact hz) h, fun _ => g _ _ _ _ _ _ _ _ _ _ _ _ _ (e3 hz).2⟩
        · have hz : ¬ lf' = 0 := fun h => hle (by rw [h]; decide)
          rw [c_0] at ef2 ⊢
          have g := h0 (by rw [e1]; exact hz)
          rw [(e2 hz).1, e1] at g
          rw [ef, ef2]
          exact ⟨fun _ => g _ _ _ _ _ _ _ _ _ _ _ _ _, fun h => absurd (by rw [up_s] at h; exact h) hz⟩
      have plain : ¬ (fa = 0 ∧ o = 0 ∧ (td 0 ≤ fh ∨ td 1 ≤ fs)) → q_m_readText_121 tp fl fp re (nI n) (nI n) 0 va wd wr fa lp told rd fh fs gd 1 post := by
        intro hc
        have e : tx B n o = (fa, pl, td) := by rw [hR]; unfold fin4; rw [if_neg hc]
        refine fin fa lp (by rw [e]) (fun hz => ⟨by rw [e]; exact (hpl hz).symm, hFP.2 hz⟩) (fun hz => ⟨by rw [e]; exact hFP.1 hz, fun j hj => by rw [e]; exact ht j hj⟩)
      have four : fa = 0 → (fa = 0 ∧ o = 0 ∧ (td 0 ≤ fh ∨ td 1 ≤ fs)) → q_m_readText_112 tp fl fp re (nI n) (nI n) 0 va wd wr fa lp told rd fh fs gd 1 post := by
        intro hz hc
        have e : tx B n o = (4, nI n, td) := by rw [hR]; unfold fin4; rw [if_pos hc]
        exact ⟨fun _ => fin 4 (nI n) (by rw [e]) (fun _ => ⟨by rw [e], by decide⟩) (fun h => absurd h (by decide)), fun h => absurd hz h⟩
      refine oi ⟨fun hx => plain (fun h => hx (by rw [h.2.1]; rfl)), fun hx => ?_⟩
      have ho0 : o = 0 := (nI_eq (a := o) (b := 0) (by omega) (by omega)).mp hx
      refine ⟨fun hz => plain (fun h => hz h.1), fun hz => ?_⟩
      rw [c_0, c_1, ht 0 (by omega), ht 1 (by omega)]
      refine ⟨fun h => four hz ⟨hz, ho0, Or.inl h⟩, fun h => ⟨fun h2 => plain (fun h3 => h3.2.2.elim h (fun h4 => absurd h2 (Int32.not_lt.mpr h4))), fun h2 => four hz ⟨hz, ho0, Or.inr (Int32.not_lt.mp h2)⟩⟩⟩
  intro P hP
  have loop : ∀ m k (t : Nat → Int32), m + k = 132 → (∀ j, j < k → t j = 0) → P (nI k) t := by
    intro m
    induction m with
    | zero =>
      intro k t hk ht
      apply hP
      refine pk_le 132 k (fun _ => ⟨fun hx => mid t (fun j hj => ?_), fun hx t1 e1 t2 e2 => mid t2 (fun j hj => ?_)⟩) (fun h => absurd h (by omega))
      · have ho0 : ¬ o = 0 := fun h => hx (by rw [h]; rfl)
        unfold ini
        rw [if_neg ho0]
        exact ht j (by omega)
      · have ho0 : o = 0 := (nI_eq (a := o) (b := 0) (by omega) (by omega)).mp hx
        unfold ini
        rw [if_pos ho0, e2, e1, show Int32.toNatClampNeg 6 = 6 from rfl, show Int32.toNatClampNeg 5 = 5 from rfl]
        by_cases h6 : j = 6
        · subst h6; rw [up_s]; rfl
        · rw [up_n h6]
          by_cases h5 : j = 5
          · subst h5; rw [up_s]; rfl
          · rw [up_n h5, if_neg h5, if_neg h6]
            exact ht j (by omega)
    | succ m ih =>
      intro k t hk ht
      apply hP
      refine pk_le 132 k (fun h => absurd h (by omega)) (fun _ => ⟨vp_in_nI (by omega) (by omega), fun t1 e1 v e2 => ?_⟩)
      rw [e2, nI_1, e1, nI_clamp (by omega)]
      refine ih (k + 1) _ (by omega) (fun j hj => ?_)
      by_cases hjk : j = k
      · subst hjk; exact up_s
      · rw [up_n hjk]; exact ht j (by omega)
  exact loop 132 0 told (by omega) (fun j hj => absurd hj (by omega))
end
section
theorem e_fill_3 {t : Nat → Int32} {v : Int32} {post : (Nat → Int32) → Prop} (h : ∀ t', (∀ j, j < 9 → t' j = v) → post t') : q_wr_J7_fill_53178_3_0 t v post := by
  intro P hP
  have loop : ∀ m k (t : Nat → Int32), m + k = 9 → (∀ j, j < k → t j = v) → P (nI k) t := by
    intro m
    induction m with
    | zero =>
      intro k t hk ht
      apply hP
      exact pk_le 9 k (fun _ => h t (fun j hj => ht j (by omega))) (fun h9 => absurd h9 (by omega))
    | succ m ih =>
      intro k t hk ht
      apply hP
      refine pk_le 9 k (fun h9 => absurd h9 (by omega)) (fun _ => ⟨vp_in_nI (by omega) (by omega), fun t1 e1 v2 e2 => ?_⟩)
      rw [e2, nI_1, e1, nI_clamp (by omega)]
      refine ih (k + 1) _ (by omega) (fun j hj => ?_)
      by_cases hjk : j = k
      · subst hjk; exact up_s
      · rw [up_n hjk]; exact ht j (by omega)
  exact loop 9 0 t (by omega) (fun j hj => absurd hj (by omega))
theorem e_fill_4 {t : Nat → Int32} {v : Int32} {post : (Nat → Int32) → Prop} (h : ∀ t', (∀ j, j < 81 → t' j = v) → post t') : q_wr_J7_fill_53178_4_0 t v post := by
  intro P hP
  have loop : ∀ m k (t : Nat → Int32), m + k = 81 → (∀ j, j < k → t j = v) → P (nI k) t := by
    intro m
    induction m with
    | zero =>
      intro k t hk ht
      apply hP
      exact pk_le 81 k (fun _ => h t (fun j hj => ht j (by omega))) (fun h9 => absurd h9 (by omega))
    | succ m ih =>
      intro k t hk ht
      apply hP
      refine pk_le 81 k (fun h9 => absurd h9 (by omega)) (fun _ => ⟨vp_in_nI (by omega) (by omega), fun t1 e1 v2 e2 => ?_⟩)
      rw [e2, nI_1, e1, nI_clamp (by omega)]
      refine ih (k + 1) _ (by omega) (fun j hj => ?_)
      by_cases hjk : j = k
      · subst hjk; exact up_s
      · rw [up_n hjk]; exact ht j (by omega)
  exact loop 81 0 t (by omega) (fun j hj => absurd hj (by omega))
theorem e_fill_9 {t : Nat → Int32} {v : Int32} {post : (Nat → Int32) → Prop} (h : ∀ t', (∀ j, j < 6 → t' j = v) → post t') : q_wr_J7_fill_53178_9_0 t v post := by
  intro P hP
  have loop : ∀ m k (t : Nat → Int32), m + k = 6 → (∀ j, j < k → t j = v) → P (nI k) t := by
    intro m
    induction m with
    | zero =>
      intro k t hk ht
      apply hP
      exact pk_le 6 k (fun _ => h t (fun j hj => ht j (by omega))) (fun h9 => absurd h9 (by omega))
    | succ m ih =>
      intro k t hk ht
      apply hP
      refine pk_le 6 k (fun h9 => absurd h9 (by omega)) (fun _ => ⟨vp_in_nI (by omega) (by omega), fun t1 e1 v2 e2 => ?_⟩)
      rw [e2, nI_1, e1, nI_clamp (by omega)]
      refine ih (k + 1) _ (by omega) (fun j hj => ?_)
      by_cases hjk : j = k
      · subst hjk; exact up_s
      · rw [up_n hjk]; exact ht j (by omega)
  exact loop 6 0 t (by omega) (fun j hj => absurd hj (by omega))
set_option maxRecDepth 20000 in
theorem e_clearDraft {lf_huts lf_singers lf_villages lf_dams lf_echoes lf_deep lf_slide vf_deeds sf_facts cf_voices cf_step : Int32} {la_heights la_ladders la_minutes la_echoFrom la_echoTo la_homes la_talls la_known va_kinds va_firsts va_seconds sa_heard sa_huts sa_minutes ca_parts ca_heights : Nat → Int32} {h s : Int32} {o : Nat} {post : (Int32) → (Int32) → (Int32) → (Int32) → (Int32) → (Int32) → (Int32) → (Nat → Int32) → (Nat → Int32) → (Nat → Int32) → (Int32) → (Int32) → (Int32) → (Int32) → Int32 → Int32 → Prop} (ho : o ≤ 3) (hp : ∀ (lf_huts' : Int32) (lf_singers' : Int32) (lf_villages' : Int32) (lf_dams' : Int32) (lf_echoes' : Int32) (lf_deep' : Int32) (lf_slide' : Int32) (la_ladders' : Nat → Int32) (la_minutes' : Nat → Int32) (la_known' : Nat → Int32) (vf_deeds' : Int32) (sf_facts' : Int32) (cf_voices' : Int32) (cf_step' : Int32) (h' s' : Int32), DR o lf_huts' lf_singers' lf_villages' lf_dams' lf_echoes' lf_deep' lf_slide' la_heights la_ladders' la_minutes' la_echoFrom la_echoTo la_homes la_talls la_known' vf_deeds' va_kinds va_firsts va_seconds sf_facts' sa_heard sa_huts sa_minutes cf_voices' cf_step' ca_parts ca_heights h' s' (ini o) (-1) (-1) → post lf_huts' lf_singers' lf_villages' lf_dams' lf_echoes' lf_deep' lf_slide' la_ladders' la_minutes' la_known' vf_deeds' sf_facts' cf_voices' cf_step' h' s') : q_wr_X4_clearDraft_0 lf_huts lf_singers lf_villages lf_dams lf_echoes lf_deep lf_slide la_ladders la_minutes la_known vf_deeds sf_facts cf_voices cf_step h s (nI o) post := by
  have hoc : o = 0 ∨ o = 1 ∨ o = 2 ∨ o = 3 := by omega
  have z0 : ¬ ∃ j, j < (ini 0 0).toNatClampNeg := fun ⟨j, hj⟩ => absurd hj (by decide +revert)
  rcases hoc with rfl | rfl | rfl | rfl
  · refine ⟨fun h9 => absurd rfl h9, fun _ => ?_⟩
    refine e_fill_3 (fun t1 h1 => e_fill_4 (fun t2 h2 => e_fill_9 (fun t3 h3 => ?_)))
    refine hp _ _ _ _ _ _ _ _ _ _ _ _ _ _ _ _ (DR0 ⟨rfl, rfl, rfl, rfl, rfl, rfl, rfl, fun j hj => absurd ⟨j, hj⟩ z0, fun j hj => ?_, fun j hj => ?_, fun j hj => absurd ⟨j, hj⟩ z0, fun j hj => absurd ⟨j, hj⟩ z0, fun j hj => ?_⟩ HB_0 HB_0)
    · rw [h1 j hj]
      show _ = ini 0 (16 + j)
      unfold ini
      rw [if_pos rfl, if_neg (by omega), if_neg (by omega)]
    · rw [h2 j hj]
      show _ = ini 0 (51 + j)
      unfold ini
      rw [if_pos rfl, if_neg (by omega), if_neg (by omega)]
    · rw [h3 j hj]
      show _ = ini 0 (37 + j)
      unfold ini
      rw [if_pos rfl, if_neg (by omega), if_neg (by omega)]
  · exact ⟨fun _ => ⟨fun h9 => absurd rfl h9, fun _ => hp _ _ _ _ _ _ _ _ _ _ _ _ _ _ _ _ (DR1 ⟨rfl, fun j hj => absurd ⟨j, hj⟩ z0⟩)⟩, fun h9 => absurd h9 (by decide)⟩
  · exact ⟨fun _ => ⟨fun _ => ⟨fun h9 => absurd rfl h9, fun _ => hp _ _ _ _ _ _ _ _ _ _ _ _ _ _ _ _ (DR2 ⟨rfl, fun j hj => absurd ⟨j, hj⟩ z0⟩)⟩, fun h9 => absurd h9 (by decide)⟩, fun h9 => absurd h9 (by decide)⟩
  · exact ⟨fun _ => ⟨fun _ => ⟨fun _ => hp _ _ _ _ _ _ _ _ _ _ _ _ _ _ _ _ (DR3 ⟨rfl, rfl, fun j hj => absurd ⟨j, hj⟩ z0⟩), fun h9 => absurd h9 (by decide)⟩, fun h9 => absurd h9 (by decide)⟩, fun h9 => absurd h9 (by decide)⟩
theorem FQ_m {c : Bool} {lf f : Int32} (h : ¬ lf = 1) (hf : ¬ f = 1) : ¬ mF c lf f = 1 := by
  unfold mF
  by_cases hc : c = true
  · rw [if_pos hc]; exact h
  · rw [if_neg hc]
    by_cases hl : lf = 0
    · rw [if_pos hl]; exact hf
    · rw [if_neg hl]; exact h
theorem FQ_k {B : Nat → Int32} {n r w : Nat} {td : Nat → Int32} {fa : Int32} (h : ¬ fa = 1) : ∀ k, ¬ mkF B n r w td fa k = 1
  | 0 => FQ_m h (by decide)
  | k + 1 => FQ_m (FQ_k h k) (by decide)
theorem gd_z {B : Nat → Int32} {n r w : Nat} {td : Nat → Int32} {fa : Int32} : ∀ k, mkF B n r w td fa k = 0 → gd B n r w k = true
  | 0 => fun _ => rfl
  | k + 1 => fun h => by
    have h1 := mF_0 (by decide) h
    show (gd B n r w k && cW w k _ _) = true
    rw [gd_z k h1.2, h1.1]
    rfl
/-- told of what is missing -/
theorem e_missing {huts singers h s : Int32} {td : Nat → Int32} {fh fs : Int32} {post : Int32 → Prop} (hC : CB 0 td) (e0 : huts = td 0) (e1 : singers = td 1) (hh : HB h fh) (hs : HB s fs) (h1 : (td 0 ≤ fh ∨ td 1 ≤ fs) → post 1) (h0 : ¬ (td 0 ≤ fh ∨ td 1 ≤ fs) → post 0) : q_wr_X4_tellsOfMissing_0 huts singers h s post := by
  obtain ⟨p, hp, -, hp2, -⟩ := iv_nI hC.1 (by decide)
  obtain ⟨q, hq, -, hq2, -⟩ := iv_nI (hC.2 rfl).1 (by decide)
  have hp9 : p ≤ 9 := by
    have : ((if 0 = 0 then 9 else if 0 = 1 then 40 else if 0 = 2 then 10 else 9 : Int)) = 9 := rfl
    omega
  have a := hh p hp9
  have b := hs q (by omega)
  rw [e0, e1]
  rw [hp] at h1 h0 ⊢
  rw [hq] at h1 h0 ⊢
  refine ⟨fun c => h1 (Or.inl (Int32.not_lt.mp (fun h9 => c (a.mpr h9)))), fun c => ⟨fun c2 => h0 (fun h9 => h9.elim (fun h8 => absurd (a.mp c) (Int32.not_lt.mpr h8)) (fun h8 => absurd (b.mp c2) (Int32.not_lt.mpr h8))), fun c2 => h1 (Or.inr (Int32.not_lt.mp (fun h9 => c2 (b.mpr h9))))⟩⟩
set_option maxRecDepth 20000 in
theorem e_read {zf B : Nat → Int32} {lf_huts lf_singers lf_villages lf_dams lf_echoes lf_deep lf_slide vf_deeds sf_facts cf_voices cf_step : Int32} {la_heights la_ladders la_minutes la_echoFrom la_echoTo la_homes la_talls la_known va_kinds va_firsts va_seconds sa_heard sa_huts sa_minutes ca_parts ca_heights : Nat → Int32} {fa0 pl0 : Int32} {nums tp0 : Nat → Int32} {ln bh ki fi va h s : Int32} {n o : Nat} {post : (Int32) → (Int32) → (Int32) → (Int32) → (Int32) → (Int32) → (Int32) → (Nat → Int32) → (Nat → Int32) → (Nat → Int32) → (Nat → Int32) → (Nat → Int32) → (Nat → Int32) → (Nat → Int32) → (Nat → Int32) → (Int32) → (Nat → Int32) → (Nat → Int32) → (Nat → Int32) → (Int32) → (Nat → Int32) → (Nat → Int32) → (Nat → Int32) → (Int32) → (Int32) → (Nat → Int32) → (Nat → Int32) → Int32 → Int32 → (Nat → Int32) → (Nat → Int32) → Int32 → Int32 → Int32 → Int32 → Int32 → Int32 → Int32 → Prop} (hn : n ≤ 600) (ho : o ≤ 3) (hz : ∀ j, iv (-128) 127 (zf j)) (hB : ∀ j, j < n → zf j = B j) (hp : ∀ (lf_huts' : Int32) (lf_singers' : Int32) (lf_villages' : Int32) (lf_dams' : Int32) (lf_echoes' : Int32) (lf_deep' : Int32) (lf_slide' : Int32) (la_heights' : Nat → Int32) (la_ladders' : Nat → Int32) (la_minutes' : Nat → Int32) (la_echoFrom' : Nat → Int32) (la_echoTo' : Nat → Int32) (la_homes' : Nat → Int32) (la_talls' : Nat → Int32) (la_known' : Nat → Int32) (vf_deeds' : Int32) (va_kinds' : Nat → Int32) (va_firsts' : Nat → Int32) (va_seconds' : Nat → Int32) (sf_facts' : Int32) (sa_heard' : Nat → Int32) (sa_huts' : Nat → Int32) (sa_minutes' : Nat → Int32) (cf_voices' : Int32) (cf_step' : Int32) (ca_parts' : Nat → Int32) (ca_heights' : Nat → Int32) (nums' tp' : Nat → Int32) (ln' bh' ki' fi' va' h' s' : Int32), ((tx B n o).1 = 0 → (∃ fh fs, DR o lf_huts' lf_singers' lf_villages' lf_dams' lf_echoes' lf_deep' lf_slide' la_heights' la_ladders' la_minutes' la_echoFrom' la_echoTo' la_homes' la_talls' la_known' vf_deeds' va_kinds' va_firsts' va_seconds' sf_facts' sa_heard' sa_huts' sa_minutes' cf_voices' cf_step' ca_parts' ca_heights' h' s' (tx B n o).2.2 fh fs) ∧ CB o (tx B n o).2.2) → post lf_huts' lf_singers' lf_villages' lf_dams' lf_echoes' lf_deep' lf_slide' la_heights' la_ladders' la_minutes' la_echoFrom' la_echoTo' la_homes' la_talls' la_known' vf_deeds' va_kinds' va_firsts' va_seconds' sf_facts' sa_heard' sa_huts' sa_minutes' cf_voices' cf_step' ca_parts' ca_heights' (tx B n o).1 (tx B n o).2.1 nums' tp' ln' bh' ki' fi' va' h' s') : q_wr_X4_read_23_0 lf_huts lf_singers lf_villages lf_dams lf_echoes lf_deep lf_slide la_heights la_ladders la_minutes la_echoFrom la_echoTo la_homes la_talls la_known vf_deeds va_kinds va_firsts va_seconds sf_facts sa_heard sa_huts sa_minutes cf_voices cf_step ca_parts ca_heights fa0 pl0 nums tp0 ln bh ki fi va h s zf (nI n) (nI o) post := by
  have c0 : Int32.toNatClampNeg (0 : Int32) + Int32.toNatClampNeg (nI n) ≤ 600 := by rw [c_0, nI_clamp (by omega)]; omega
  refine ⟨nI_pos (by omega), c0, c0, fun i _ => iv_fitB (hz _), fun tp et => ?_⟩
  have hT : ∀ j, j < n → tp j = B j := by
    intro j hj
    rw [et, c_0, nI_clamp (by omega), pk_cpy_in (by omega) (by omega), Nat.zero_add, Nat.sub_zero]
    exact hB j hj
  refine e_clearDraft (la_heights := la_heights) (la_echoFrom := la_echoFrom) (la_echoTo := la_echoTo) (la_homes := la_homes) (la_talls := la_talls) (va_kinds := va_kinds) (va_firsts := va_firsts) (va_seconds := va_seconds) (sa_heard := sa_heard) (sa_huts := sa_huts) (sa_minutes := sa_minutes) (ca_parts := ca_parts) (ca_heights := ca_heights) ho (fun lf_huts' lf_singers' lf_villages' lf_dams' lf_echoes' lf_deep' lf_slide' la_ladders' la_minutes' la_known' vf_deeds' sf_facts' cf_voices' cf_step' h1 s1 hD => ?_)
  refine e_adv (r := 0) hn (by omega) hT (fun v1 hv1 => ?_)
  -- the end
  have fin : ∀ (lf_huts' : Int32) (lf_singers' : Int32) (lf_villages' : Int32) (lf_dams' : Int32) (lf_echoes' : Int32) (lf_deep' : Int32) (lf_slide' : Int32) (la_heights' : Nat → Int32) (la_ladders' : Nat → Int32) (la_minutes' : Nat → Int32) (la_echoFrom' : Nat → Int32) (la_echoTo' : Nat → Int32) (la_homes' : Nat → Int32) (la_talls' : Nat → Int32) (la_known' : Nat → Int32) (vf_deeds' : Int32) (va_kinds' : Nat → Int32) (va_firsts' : Nat → Int32) (va_seconds' : Nat → Int32) (sf_facts' : Int32) (sa_heard' : Nat → Int32) (sa_huts' : Nat → Int32) (sa_minutes' : Nat → Int32) (cf_voices' : Int32) (cf_step' : Int32) (ca_parts' : Nat → Int32) (ca_heights' : Nat → Int32) (fa pl : Int32) (nums' : Nat → Int32) (bh' ki' fi' va' h' s' : Int32), ((tx B n o = (1, pl, (tx B n o).2.2) ∧ fa = 1) ∨ ∃ td fh fs, CB o td ∧ (fa = 0 → DR o lf_huts' lf_singers' lf_villages' lf_dams' lf_echoes' lf_deep' lf_slide' la_heights' la_ladders' la_minutes' la_echoFrom' la_echoTo' la_homes' la_talls' la_known' vf_deeds' va_kinds' va_firsts' va_seconds' sf_facts' sa_heard' sa_huts' sa_minutes' cf_voices' cf_step' ca_parts' ca_heights' h' s' td fh fs) ∧ tx B n o = fin4 o n fa pl td fh fs) → q_wr_X4_read_23_78 lf_huts' lf_singers' lf_villages' lf_dams' lf_echoes' lf_deep' lf_slide' la_heights' la_ladders' la_minutes' la_echoFrom' la_echoTo' la_homes' la_talls' la_known' vf_deeds' va_kinds' va_firsts' va_seconds' sf_facts' sa_heard' sa_huts' sa_minutes' cf_voices' cf_step' ca_parts' ca_heights' fa pl nums' tp (nI n) bh' ki' fi' va' h' s' zf (nI o) post := by
    intro lf_huts' lf_singers' lf_villages' lf_dams' lf_echoes' lf_deep' lf_slide' la_heights' la_ladders' la_minutes' la_echoFrom' la_echoTo' la_homes' la_talls' la_known' vf_deeds' va_kinds' va_firsts' va_seconds' sf_facts' sa_heard' sa_huts' sa_minutes' cf_voices' cf_step' ca_parts' ca_heights' fa pl nums' bh' ki' fi' va' h' s' hc
    rcases hc with ⟨hR, hf⟩ | ⟨td, fh, fs, hC, hD, hR⟩
    · subst hf
      have e1 : (tx B n o).1 = 1 := by rw [hR]
      have e2 : (tx B n o).2.1 = pl := by rw [hR]
      have g := hp lf_huts' lf_singers' lf_villages' lf_dams' lf_echoes' lf_deep' lf_slide' la_heights' la_ladders' la_minutes' la_echoFrom' la_echoTo' la_homes' la_talls' la_known' vf_deeds' va_kinds' va_firsts' va_seconds' sf_facts' sa_heard' sa_huts' sa_minutes' cf_voices' cf_step' ca_parts' ca_heights' nums' tp (nI n) bh' ki' fi' va' h' s' (fun h9 => absurd (e1.symm.trans h9) (by decide))
      rw [e1, e2] at g
      exact ⟨fun _ => g, fun h9 => absurd h9 (by decide)⟩
    · have plain : ¬ (fa = 0 ∧ o = 0 ∧ (td 0 ≤ fh ∨ td 1 ≤ fs)) → post lf_huts' lf_singers' lf_villages' lf_dams' lf_echoes' lf_deep' lf_slide' la_heights' la_ladders' la_minutes' la_echoFrom' la_echoTo' la_homes' la_talls' la_known' vf_deeds' va_kinds' va_firsts' va_seconds' sf_facts' sa_heard' sa_huts' sa_minutes' cf_voices' cf_step' ca_parts' ca_heights' fa pl nums' tp (nI n) bh' ki' fi' va' h' s' := by
        intro hcc
        have e : tx B n o = (fa, pl, td) := by rw [hR]; unfold fin4; rw [if_neg hcc]
        have g := hp lf_huts' lf_singers' lf_villages' lf_dams' lf_echoes' lf_deep' lf_slide' la_heights' la_ladders' la_minutes' la_echoFrom' la_echoTo' la_homes' la_talls' la_known' vf_deeds' va_kinds' va_firsts' va_seconds' sf_facts' sa_heard' sa_huts' sa_minutes' cf_voices' cf_step' ca_parts' ca_heights' nums' tp (nI n) bh' ki' fi' va' h' s' (fun h9 => by
          rw [e] at h9 ⊢
          exact ⟨⟨fh, fs, hD h9⟩, hC⟩)
        rw [e] at g
        exact g
      refine ⟨fun hz => plain (fun h9 => hz h9.1), fun hz => ⟨fun hx => plain (fun h9 => hx (by rw [h9.2.1]; rfl)), fun hx => ?_⟩⟩
      have ho0 : o = 0 := (nI_eq (a := o) (b := 0) (by omega) (by omega)).mp hx
      subst ho0
      obtain ⟨hL, hh, hs⟩ := (hD hz).1 rfl
      refine e_missing hC hL.1 hL.2.1 hh hs (fun hm => oi ?_) (fun hm => iz (plain (fun h9 => hm h9.2.2)))
      have e : tx B n 0 = (4, nI n, td) := by rw [hR]; unfold fin4; rw [if_pos ⟨hz, rfl, hm⟩]
      have g := hp lf_huts' lf_singers' lf_villages' lf_dams' lf_echoes' lf_deep' lf_slide' la_heights' la_ladders' la_minutes' la_echoFrom' la_echoTo' la_homes' la_talls' la_known' vf_deeds' va_kinds' va_firsts' va_seconds' sf_facts' sa_heard' sa_huts' sa_minutes' cf_voices' cf_step' ca_parts' ca_heights' nums' tp (nI n) bh' ki' fi' va' h' s' (fun h9 => by
        rw [e] at h9
        exact absurd h9 (show ¬ (4 : Int32) = 0 by decide))
      rw [e] at g
      exact ⟨fun h9 => absurd hz h9, fun _ => g⟩
  intro P hP
  have bad : ∀ i (lf_huts' : Int32) (lf_singers' : Int32) (lf_villages' : Int32) (lf_dams' : Int32) (lf_echoes' : Int32) (lf_deep' : Int32) (lf_slide' : Int32) (la_heights' : Nat → Int32) (la_ladders' : Nat → Int32) (la_minutes' : Nat → Int32) (la_echoFrom' : Nat → Int32) (la_echoTo' : Nat → Int32) (la_homes' : Nat → Int32) (la_talls' : Nat → Int32) (la_known' : Nat → Int32) (vf_deeds' : Int32) (va_kinds' : Nat → Int32) (va_firsts' : Nat → Int32) (va_seconds' : Nat → Int32) (sf_facts' : Int32) (sa_heard' : Nat → Int32) (sa_huts' : Nat → Int32) (sa_minutes' : Nat → Int32) (cf_voices' : Int32) (cf_step' : Int32) (ca_parts' : Nat → Int32) (ca_heights' : Nat → Int32) (pl : Int32) (nums' : Nat → Int32) (bh' ki' fi' va' h' s' : Int32), tx B n o = (1, pl, (tx B n o).2.2) → P i lf_huts' lf_singers' lf_villages' lf_dams' lf_echoes' lf_deep' lf_slide' la_heights' la_ladders' la_minutes' la_echoFrom' la_echoTo' la_homes' la_talls' la_known' vf_deeds' va_kinds' va_firsts' va_seconds' sf_facts' sa_heard' sa_huts' sa_minutes' cf_voices' cf_step' ca_parts' ca_heights' 1 pl nums' bh' ki' fi' va' h' s' := by
    intro i lf_huts' lf_singers' lf_villages' lf_dams' lf_echoes' lf_deep' lf_slide' la_heights' la_ladders' la_minutes' la_echoFrom' la_echoTo' la_homes' la_talls' la_known' vf_deeds' va_kinds' va_firsts' va_seconds' sf_facts' sa_heard' sa_huts' sa_minutes' cf_voices' cf_step' ca_parts' ca_heights' pl nums' bh' ki' fi' va' h' s' hR
    apply hP
    have f := fin lf_huts' lf_singers' lf_villages' lf_dams' lf_echoes' lf_deep' lf_slide' la_heights' la_ladders' la_minutes' la_echoFrom' la_echoTo' la_homes' la_talls' la_known' vf_deeds' va_kinds' va_firsts' va_seconds' sf_facts' sa_heard' sa_huts' sa_minutes' cf_voices' cf_step' ca_parts' ca_heights' 1 pl nums' bh' ki' fi' va' h' s' (Or.inl ⟨hR, rfl⟩)
    exact ⟨fun _ => f, fun _ => ⟨fun _ => f, fun _ => ⟨fun _ => f, fun h9 => absurd rfl h9⟩⟩⟩
  have loop : ∀ m r i (lf_huts' : Int32) (lf_singers' : Int32) (lf_villages' : Int32) (lf_dams' : Int32) (lf_echoes' : Int32) (lf_deep' : Int32) (lf_slide' : Int32) (la_heights' : Nat → Int32) (la_ladders' : Nat → Int32) (la_minutes' : Nat → Int32) (la_echoFrom' : Nat → Int32) (la_echoTo' : Nat → Int32) (la_homes' : Nat → Int32) (la_talls' : Nat → Int32) (la_known' : Nat → Int32) (vf_deeds' : Int32) (va_kinds' : Nat → Int32) (va_firsts' : Nat → Int32) (va_seconds' : Nat → Int32) (sf_facts' : Int32) (sa_heard' : Nat → Int32) (sa_huts' : Nat → Int32) (sa_minutes' : Nat → Int32) (cf_voices' : Int32) (cf_step' : Int32) (ca_parts' : Nat → Int32) (ca_heights' : Nat → Int32) (fa pl : Int32) (nums' : Nat → Int32) (va' h' s' : Int32) (td : Nat → Int32) (fh fs : Int32), n + 1 ≤ m + r → r ≤ n → i ≤ r → ¬ fa = 1 → CB o td → (tK B n r = 2 → va' = tV B n r) → (fa = 0 → DR o lf_huts' lf_singers' lf_villages' lf_dams' lf_echoes' lf_deep' lf_slide' la_heights' la_ladders' la_minutes' la_echoFrom' la_echoTo' la_homes' la_talls' la_known' vf_deeds' va_kinds' va_firsts' va_seconds' sf_facts' sa_heard' sa_huts' sa_minutes' cf_voices' cf_step' ca_parts' ca_heights' h' s' td fh fs) → tx B n o = go B n o m r fa pl td fh fs → P (nI i) lf_huts' lf_singers' lf_villages' lf_dams' lf_echoes' lf_deep' lf_slide' la_heights' la_ladders' la_minutes' la_echoFrom' la_echoTo' la_homes' la_talls' la_known' vf_deeds' va_kinds' va_firsts' va_seconds' sf_facts' sa_heard' sa_huts' sa_minutes' cf_voices' cf_step' ca_parts' ca_heights' fa pl nums' (nI (tN B n r)) (nI (tK B n r)) (nI (tF B n r)) va' h' s' := by
    intro m
    induction m with
    | zero => intro r i lf_huts' lf_singers' lf_villages' lf_dams' lf_echoes' lf_deep' lf_slide' la_heights' la_ladders' la_minutes' la_echoFrom' la_echoTo' la_homes' la_talls' la_known' vf_deeds' va_kinds' va_firsts' va_seconds' sf_facts' sa_heard' sa_huts' sa_minutes' cf_voices' cf_step' ca_parts' ca_heights' fa pl nums' va' h' s' td fh fs h1 h2; omega
    | succ m ih =>
      intro r i lf_huts' lf_singers' lf_villages' lf_dams' lf_echoes' lf_deep' lf_slide' la_heights' la_ladders' la_minutes' la_echoFrom' la_echoTo' la_homes' la_talls' la_known' vf_deeds' va_kinds' va_firsts' va_seconds' sf_facts' sa_heard' sa_huts' sa_minutes' cf_voices' cf_step' ca_parts' ca_heights' fa pl nums' va' h' s' td fh fs hm hr hi hf1 hC hv hD hR
      have htk := tk_le (B := B) hr
      have htF := tF_le (B := B) hr
      apply hP
      have endd : tK B n r = 0 → q_wr_X4_read_23_78 lf_huts' lf_singers' lf_villages' lf_dams' lf_echoes' lf_deep' lf_slide' la_heights' la_ladders' la_minutes' la_echoFrom' la_echoTo' la_homes' la_talls' la_known' vf_deeds' va_kinds' va_firsts' va_seconds' sf_facts' sa_heard' sa_huts' sa_minutes' cf_voices' cf_step' ca_parts' ca_heights' fa pl nums' tp (nI n) (nI (tN B n r)) (nI (tK B n r)) (nI (tF B n r)) va' h' s' zf (nI o) post := by
        intro hk
        rw [go, if_pos hk] at hR
        exact fin _ _ _ _ _ _ _ _ _ _ _ _ _ _ _ _ _ _ _ _ _ _ _ _ _ _ _ fa pl _ _ _ _ _ _ _ (Or.inr ⟨td, fh, fs, hC, hD, hR⟩)
      refine pk_le n i (fun h9 => endd ?_) (fun _ => pk_eq (tK B n r) 0 endd (fun hk => ⟨fun h9 => absurd h9 hf1, fun _ => ?_⟩))
      · by_cases hk : tK B n r = 0
        · exact hk
        · have := htk.2.2.1 hk
          omega
      · rw [go, if_neg hk] at hR
        refine e_readLine hn hr ho hT hv hC hD (fun hl lf_huts2 lf_singers2 lf_villages2 lf_dams2 lf_echoes2 lf_deep2 lf_slide2 la_heights2 la_ladders2 la_minutes2 la_echoFrom2 la_echoTo2 la_homes2 la_talls2 la_known2 vf_deeds2 va_kinds2 va_firsts2 va_seconds2 sf_facts2 sa_heard2 sa_huts2 sa_minutes2 cf_voices2 cf_step2 ca_parts2 ca_heights2 nums2 b2 k2 f2 va2 h2 s2 v e => ?_) (fun hl lf_huts2 lf_singers2 lf_villages2 lf_dams2 lf_echoes2 lf_deep2 lf_slide2 la_heights2 la_ladders2 la_minutes2 la_echoFrom2 la_echoTo2 la_homes2 la_talls2 la_known2 vf_deeds2 va_kinds2 va_firsts2 va_seconds2 sf_facts2 sa_heard2 sa_huts2 sa_minutes2 cf_voices2 cf_step2 ca_parts2 ca_heights2 nums2 va2 h2 s2 hD2 hv2 v e => ?_)
        · rw [if_neg hl] at hR
          exact bad _ _ _ _ _ _ _ _ _ _ _ _ _ _ _ _ _ _ _ _ _ _ _ _ _ _ _ _ _ _ _ _ _ _ _ _ (by rw [hR])
        · rw [if_pos hl] at hR
          have hlt : wOf B n r o < 20 := by
            rcases wd_cases (B := B) (n := n) (r := r) ho with h20 | h20
            · exfalso
              unfold lb at hl
              rw [if_pos h20.1] at hl
              omega
            · exact h20.1
          have hP2 := (wd_cases (B := B) (n := n) (r := r) ho).resolve_left (fun h => by omega)
          have hps := ps_le (B := B) hr (nW (wOf B n r o) + 2)
          have hpl : r + 1 ≤ ps B n r (nW (wOf B n r o) + 2) := ps_lt hr hk (nW (wOf B n r o) + 1)
          rw [e, nI_1]
          refine ih _ (i + 1) _ _ _ _ _ _ _ _ _ _ _ _ _ _ _ _ _ _ _ _ _ _ _ _ _ _ _ _ _ _ _ _ _ _ _ _ (by omega) hps.2 (by omega) (FQ_k hf1 _) (CB_ln ho ⟨hP2.2.1, hP2.2.2.1⟩ hC) hv2 (fun h9 => ?_) hR
          rw [gd_z _ h9]
          exact hD2 h9
  exact loop (n + 1) 0 0 _ _ _ _ _ _ _ _ _ _ _ _ _ _ _ _ _ _ _ _ _ _ _ _ _ _ _ 0 (-1) _ _ _ _ (ini o) (-1) (-1) (by omega) (by omega) (by omega) (by decide) (CB_ini ho (fun _ _ => rfl)) hv1 (fun _ => hD) rfl
end
section
def TL (k : Nat) (T : TT) (td : Nat → Int32) : Prop := if k = 0 then LDR (T.1 3) (T.1 4) (T.1 5) (T.1 6) (T.1 7) (T.1 8) (T.1 9) (T.2 2) (T.2 3) (T.2 4) (T.2 5) (T.2 6) (T.2 7) (T.2 8) (T.2 9) td else LDR (T.1 10) (T.1 11) (T.1 12) (T.1 13) (T.1 14) (T.1 15) (T.1 16) (T.2 10) (T.2 11) (T.2 12) (T.2 13) (T.2 14) (T.2 15) (T.2 16) (T.2 17) td
def TV (k : Nat) (T : TT) (td : Nat → Int32) : Prop := if k = 0 then R3 (T.1 17) (T.2 18) (T.2 19) (T.2 20) td else R3 (T.1 18) (T.2 21) (T.2 22) (T.2 23) td
def TSi (k : Nat) (T : TT) (td : Nat → Int32) : Prop := if k = 0 then R3 (T.1 19) (T.2 24) (T.2 25) (T.2 26) td else R3 (T.1 20) (T.2 27) (T.2 28) (T.2 29) td
def TC (k : Nat) (T : TT) (td : Nat → Int32) : Prop := if k = 0 then CDR (T.1 21) (T.1 22) (T.2 30) (T.2 31) td else CDR (T.1 23) (T.1 24) (T.2 32) (T.2 33) td
def SL (o k : Nat) (T : TT) (td : Nat → Int32) : Prop := if o = 0 then TL k T td else if o = 1 then TV k T td else if o = 2 then TSi k T td else TC k T td
def slS (o k i : Nat) : Bool := if o = 0 then (if k = 0 then i == 3 || i == 4 || i == 5 || i == 6 || i == 7 || i == 8 || i == 9 else i == 10 || i == 11 || i == 12 || i == 13 || i == 14 || i == 15 || i == 16) else if o = 1 then (if k = 0 then i == 17 else i == 18) else if o = 2 then (if k = 0 then i == 19 else i == 20) else (if k = 0 then i == 21 || i == 22 else i == 23 || i == 24)
def slA (o k i : Nat) : Bool := if o = 0 then (if k = 0 then i == 2 || i == 3 || i == 4 || i == 5 || i == 6 || i == 7 || i == 8 || i == 9 else i == 10 || i == 11 || i == 12 || i == 13 || i == 14 || i == 15 || i == 16 || i == 17) else if o = 1 then (if k = 0 then i == 18 || i == 19 || i == 20 else i == 21 || i == 22 || i == 23) else if o = 2 then (if k = 0 then i == 24 || i == 25 || i == 26 else i == 27 || i == 28 || i == 29) else (if k = 0 then i == 30 || i == 31 else i == 32 || i == 33)
def wD (o : Nat) : Nat := [132, 121, 31, 20].getD o 0
/-- a slot is the same where its comps are -/
theorem SL_same {o k : Nat} {T T' : TT} {td : Nat → Int32} (ho : o < 4) (hk : k < 2) (h1 : ∀ i, i < 25 → slS o k i = true → T'.1 i = T.1 i) (h2 : ∀ i, i < 34 → slA o k i = true → T'.2 i = T.2 i) (h : SL o k T td) : SL o k T' td := by
  have hoc : o = 0 ∨ o = 1 ∨ o = 2 ∨ o = 3 := by omega
  have hkc : k = 0 ∨ k = 1 := by omega
  rcases hoc with rfl | rfl | rfl | rfl <;> rcases hkc with rfl | rfl
  · show LDR (T'.1 3) (T'.1 4) (T'.1 5) (T'.1 6) (T'.1 7) (T'.1 8) (T'.1 9) (T'.2 2) (T'.2 3) (T'.2 4) (T'.2 5) (T'.2 6) (T'.2 7) (T'.2 8) (T'.2 9) td
    rw [h1 3 (by decide) (by decide), h1 4 (by decide) (by decide), h1 5 (by decide) (by decide), h1 6 (by decide) (by decide), h1 7 (by decide) (by decide), h1 8 (by decide) (by decide), h1 9 (by decide) (by decide), h2 2 (by decide) (by decide), h2 3 (by decide) (by decide), h2 4 (by decide) (by decide), h2 5 (by decide) (by decide), h2 6 (by decide) (by decide), h2 7 (by decide) (by decide), h2 8 (by decide) (by decide), h2 9 (by decide) (by decide)]
    exact h
  · show LDR (T'.1 10) (T'.1 11) (T'.1 12) (T'.1 13) (T'.1 14) (T'.1 15) (T'.1 16) (T'.2 10) (T'.2 11) (T'.2 12) (T'.2 13) (T'.2 14) (T'.2 15) (T'.2 16) (T'.2 17) td
    rw [h1 10 (by decide) (by decide), h1 11 (by decide) (by decide), h1 12 (by decide) (by decide), h1 13 (by decide) (by decide), h1 14 (by decide) (by decide), h1 15 (by decide) (by decide), h1 16 (by decide) (by decide), h2 10 (by decide) (by decide), h2 11 (by decide) (by decide), h2 12 (by decide) (by decide), h2 13 (by decide) (by decide), h2 14 (by decide) (by decide), h2 15 (by decide) (by decide), h2 16 (by decide) (by decide), h2 17 (by decide) (by decide)]
    exact h
  · show R3 (T'.1 17) (T'.2 18) (T'.2 19) (T'.2 20) td
    rw [h1 17 (by decide) (by decide), h2 18 (by decide) (by decide), h2 19 (by decide) (by decide), h2 20 (by decide) (by decide)]
    exact h
  · show R3 (T'.1 18) (T'.2 21) (T'.2 22) (T'.2 23) td
    rw [h1 18 (by decide) (by decide), h2 21 (by decide) (by decide), h2 22 (by decide) (by decide), h2 23 (by decide) (by decide)]
    exact h
  · show R3 (T'.1 19) (T'.2 24) (T'.2 25) (T'.2 26) td
    rw [h1 19 (by decide) (by decide), h2 24 (by decide) (by decide), h2 25 (by decide) (by decide), h2 26 (by decide) (by decide)]
    exact h
  · show R3 (T'.1 20) (T'.2 27) (T'.2 28) (T'.2 29) td
    rw [h1 20 (by decide) (by decide), h2 27 (by decide) (by decide), h2 28 (by decide) (by decide), h2 29 (by decide) (by decide)]
    exact h
  · show CDR (T'.1 21) (T'.1 22) (T'.2 30) (T'.2 31) td
    rw [h1 21 (by decide) (by decide), h1 22 (by decide) (by decide), h2 30 (by decide) (by decide), h2 31 (by decide) (by decide)]
    exact h
  · show CDR (T'.1 23) (T'.1 24) (T'.2 32) (T'.2 33) td
    rw [h1 23 (by decide) (by decide), h1 24 (by decide) (by decide), h2 32 (by decide) (by decide), h2 33 (by decide) (by decide)]
    exact h
theorem cl_le {x : Int32} {h : Int} {m : Nat} (hx : iv 0 h x) (hm : h ≤ m) : x.toNatClampNeg ≤ m := by
  have e : x.toNatClampNeg = x.toInt.toNat := rfl
  have := hx.2
  omega
theorem LDR_cp {huts singers villages dams echoes deep slide : Int32} {heights ladders minutes echoFrom echoTo homes talls known heights2 ladders2 minutes2 echoFrom2 echoTo2 homes2 talls2 known2 td : Nat → Int32} (h : LDR huts singers villages dams echoes deep slide heights ladders minutes echoFrom echoTo homes talls known td) (b0 : (td 0).toNatClampNeg ≤ 9) (b1 : (td 1).toNatClampNeg ≤ 6) (b4 : (td 4).toNatClampNeg ≤ 4) (c_heights : ∀ j, j < 9 → heights2 j = heights j) (c_ladders : ∀ j, j < 9 → ladders2 j = ladders j) (c_minutes : ∀ j, j < 81 → minutes2 j = minutes j) (c_echoFrom : ∀ j, j < 4 → echoFrom2 j = echoFrom j) (c_echoTo : ∀ j, j < 4 → echoTo2 j = echoTo j) (c_homes : ∀ j, j < 6 → homes2 j = homes j) (c_talls : ∀ j, j < 6 → talls2 j = talls j) (c_known : ∀ j, j < 6 → known2 j = known j) : LDR huts singers villages dams echoes deep slide heights2 ladders2 minutes2 echoFrom2 echoTo2 homes2 talls2 known2 td := by
  obtain ⟨e0, e1, e2, e3, e4, e5, e6, f1, f2, f3, f4, f5, f6⟩ := h
  exact ⟨e0, e1, e2, e3, e4, e5, e6, fun j hj => (c_heights j (by omega)).trans (f1 j hj), fun j hj => (c_ladders j hj).trans (f2 j hj), fun j hj => (c_minutes j hj).trans (f3 j hj), fun j hj => ⟨(c_echoFrom j (by omega)).trans (f4 j hj).1, (c_echoTo j (by omega)).trans (f4 j hj).2⟩, fun j hj => ⟨(c_homes j (by omega)).trans (f5 j hj).1, (c_talls j (by omega)).trans (f5 j hj).2⟩, fun j hj => (c_known j hj).trans (f6 j hj)⟩
theorem R3_cp {c : Int32} {a b d a2 b2 d2 td : Nat → Int32} (h : R3 c a b d td) (ha : ∀ j, j < c.toNatClampNeg → a2 j = a j) (hb : ∀ j, j < c.toNatClampNeg → b2 j = b j) (hd : ∀ j, j < c.toNatClampNeg → d2 j = d j) : R3 c a2 b2 d2 td := by
  refine ⟨h.1, fun j hj => ?_⟩
  have hj2 : j < c.toNatClampNeg := by rw [h.1]; exact hj
  exact ⟨(ha j hj2).trans (h.2 j hj).1, (hb j hj2).trans (h.2 j hj).2.1, (hd j hj2).trans (h.2 j hj).2.2⟩
theorem CDR_cp {c st : Int32} {a b a2 b2 td : Nat → Int32} (h : CDR c st a b td) (ha : ∀ j, j < c.toNatClampNeg → a2 j = a j) (hb : ∀ j, j < c.toNatClampNeg → b2 j = b j) : CDR c st a2 b2 td := by
  refine ⟨h.1, h.2.1, fun j hj => ?_⟩
  have hj2 : j < c.toNatClampNeg := by rw [h.1]; exact hj
  exact ⟨(ha j hj2).trans (h.2.2 j hj).1, (hb j hj2).trans (h.2.2 j hj).2⟩
theorem cpy0 {f g t : Nat → Int32} {n : Nat} {x : Int32} (e : t = va_cpy f g (Int32.toNatClampNeg 0) (Int32.toNatClampNeg 0) (Int32.toNatClampNeg x)) (hx : Int32.toNatClampNeg x = n) : ∀ j, j < n → t j = f j := by
  intro j hj
  rw [e, c_0, hx, pk_cpy_in (by omega) (by omega), Nat.zero_add, Nat.sub_zero]
theorem e_ll {f_huts f_singers f_villages f_dams f_echoes f_deep f_slide : Int32} {a_heights a_ladders a_minutes a_echoFrom a_echoTo a_homes a_talls a_known : Nat → Int32} {of_huts of_singers of_villages of_dams of_echoes of_deep of_slide : Int32} {oa_heights oa_ladders oa_minutes oa_echoFrom oa_echoTo oa_homes oa_talls oa_known : Nat → Int32} {post : (Int32) → (Int32) → (Int32) → (Int32) → (Int32) → (Int32) → (Int32) → (Nat → Int32) → (Nat → Int32) → (Nat → Int32) → (Nat → Int32) → (Nat → Int32) → (Nat → Int32) → (Nat → Int32) → (Nat → Int32) → Prop} (hp : ∀ (na_heights : Nat → Int32) (na_ladders : Nat → Int32) (na_minutes : Nat → Int32) (na_echoFrom : Nat → Int32) (na_echoTo : Nat → Int32) (na_homes : Nat → Int32) (na_talls : Nat → Int32) (na_known : Nat → Int32), (∀ j, j < 9 → na_heights j = oa_heights j) → (∀ j, j < 9 → na_ladders j = oa_ladders j) → (∀ j, j < 81 → na_minutes j = oa_minutes j) → (∀ j, j < 4 → na_echoFrom j = oa_echoFrom j) → (∀ j, j < 4 → na_echoTo j = oa_echoTo j) → (∀ j, j < 6 → na_homes j = oa_homes j) → (∀ j, j < 6 → na_talls j = oa_talls j) → (∀ j, j < 6 → na_known j = oa_known j) → post of_huts of_singers of_villages of_dams of_echoes of_deep of_slide na_heights na_ladders na_minutes na_echoFrom na_echoTo na_homes na_talls na_known) : q_wll_X2_copyFrom_9_0 f_huts f_singers f_villages f_dams f_echoes f_deep f_slide a_heights a_ladders a_minutes a_echoFrom a_echoTo a_homes a_talls a_known of_huts of_singers of_villages of_dams of_echoes of_deep of_slide oa_heights oa_ladders oa_minutes oa_echoFrom oa_echoTo oa_homes oa_talls oa_known post := by
  intro t_heights e_heights t_ladders e_ladders t_minutes e_minutes t_echoFrom e_echoFrom t_echoTo e_echoTo t_homes e_homes t_talls e_talls t_known e_known
  exact hp t_heights t_ladders t_minutes t_echoFrom t_echoTo t_homes t_talls t_known (cpy0 e_heights rfl) (cpy0 e_ladders rfl) (cpy0 e_minutes rfl) (cpy0 e_echoFrom rfl) (cpy0 e_echoTo rfl) (cpy0 e_homes rfl) (cpy0 e_talls rfl) (cpy0 e_known rfl)
theorem e_vv {f_deeds : Int32} {a_kinds a_firsts a_seconds : Nat → Int32} {of_deeds : Int32} {oa_kinds oa_firsts oa_seconds : Nat → Int32} {post : (Int32) → (Nat → Int32) → (Nat → Int32) → (Nat → Int32) → Prop} (hc : iv 0 40 of_deeds) (hp : ∀ (na_kinds : Nat → Int32) (na_firsts : Nat → Int32) (na_seconds : Nat → Int32), (∀ j, j < of_deeds.toNatClampNeg → na_kinds j = oa_kinds j) → (∀ j, j < of_deeds.toNatClampNeg → na_firsts j = oa_firsts j) → (∀ j, j < of_deeds.toNatClampNeg → na_seconds j = oa_seconds j) → post of_deeds na_kinds na_firsts na_seconds) : q_wvv_X1_copyFrom_4_0 f_deeds a_kinds a_firsts a_seconds of_deeds oa_kinds oa_firsts oa_seconds post := by
  have h0 : ¬ of_deeds < 0 := iv_nn hc (by decide)
  have h1 : Int32.toNatClampNeg (0 : Int32) + Int32.toNatClampNeg of_deeds ≤ 40 := by rw [c_0, Nat.zero_add]; exact cl_le hc (by decide)
  exact ⟨h0, h1, h1, fun t0 e0 => ⟨h0, h1, h1, fun t1 e1 => ⟨h0, h1, h1, fun t2 e2 => hp t0 t1 t2 (cpy0 e0 rfl) (cpy0 e1 rfl) (cpy0 e2 rfl)⟩⟩⟩
theorem e_ss {f_facts : Int32} {a_heard a_huts a_minutes : Nat → Int32} {of_facts : Int32} {oa_heard oa_huts oa_minutes : Nat → Int32} {post : (Int32) → (Nat → Int32) → (Nat → Int32) → (Nat → Int32) → Prop} (hc : iv 0 10 of_facts) (hp : ∀ (na_heard : Nat → Int32) (na_huts : Nat → Int32) (na_minutes : Nat → Int32), (∀ j, j < of_facts.toNatClampNeg → na_heard j = oa_heard j) → (∀ j, j < of_facts.toNatClampNeg → na_huts j = oa_huts j) → (∀ j, j < of_facts.toNatClampNeg → na_minutes j = oa_minutes j) → post of_facts na_heard na_huts na_minutes) : q_wss_X6_copyFrom_4_0 f_facts a_heard a_huts a_minutes of_facts oa_heard oa_huts oa_minutes post := by
  have h0 : ¬ of_facts < 0 := iv_nn hc (by decide)
  have h1 : Int32.toNatClampNeg (0 : Int32) + Int32.toNatClampNeg of_facts ≤ 10 := by rw [c_0, Nat.zero_add]; exact cl_le hc (by decide)
  exact ⟨h0, h1, h1, fun t0 e0 => ⟨h0, h1, h1, fun t1 e1 => ⟨h0, h1, h1, fun t2 e2 => hp t0 t1 t2 (cpy0 e0 rfl) (cpy0 e1 rfl) (cpy0 e2 rfl)⟩⟩⟩
theorem e_cc {f_voices f_step : Int32} {a_parts a_heights : Nat → Int32} {of_voices of_step : Int32} {oa_parts oa_heights : Nat → Int32} {post : (Int32) → (Int32) → (Nat → Int32) → (Nat → Int32) → Prop} (hc : iv 0 9 of_voices) (hp : ∀ (na_parts : Nat → Int32) (na_heights : Nat → Int32), (∀ j, j < of_voices.toNatClampNeg → na_parts j = oa_parts j) → (∀ j, j < of_voices.toNatClampNeg → na_heights j = oa_heights j) → post of_voices of_step na_parts na_heights) : q_wcc_X0_copyFrom_3_0 f_voices f_step a_parts a_heights of_voices of_step oa_parts oa_heights post := by
  have h0 : ¬ of_voices < 0 := iv_nn hc (by decide)
  have h1 : Int32.toNatClampNeg (0 : Int32) + Int32.toNatClampNeg of_voices ≤ 9 := by rw [c_0, Nat.zero_add]; exact cl_le hc (by decide)
  exact ⟨h0, h1, h1, fun t0 e0 => ⟨h0, h1, h1, fun t1 e1 => hp t0 t1 (cpy0 e0 rfl) (cpy0 e1 rfl)⟩⟩
end
section
/-- which number a text gets -/
def NUM (cnt a : Int32) (k : Nat) : Prop := (a = -1 ∧ cnt = nI k) ∨ (¬ a = -1 ∧ a = nI k ∧ nI k < cnt)
def nB (B : Nat → Int32) (n j : Nat) : Int32 := if j < n then B j else 0
def cmx (c : Int32) (k : Nat) : Int32 := if c < nI k + 1 then nI k + 1 else c
noncomputable def TXr (T : TT) (o : Nat) : Int32 × Int32 × (Nat → Int32) := tx (nB (T.2 0) (T.1 0).toNatClampNeg) (T.1 0).toNatClampNeg o
def sameT (T T' : TT) : Prop := (∀ i, 3 ≤ i → i < 25 → T'.1 i = T.1 i) ∧ (∀ i, 2 ≤ i → i < 34 → T'.2 i = T.2 i)
def sameB (o k : Nat) (T T' : TT) : Prop := (∀ i, 3 ≤ i → i < 25 → ¬ slS o k i = true → T'.1 i = T.1 i) ∧ (∀ i, 2 ≤ i → i < 34 → ¬ slA o k i = true → T'.2 i = T.2 i)
def xTX (T T' : TT) (a1 a2 r : Int32) : Prop := T'.1 0 = 0 ∧ T'.2 0 = T.2 0 ∧
  ((¬ ∃ o k, o < 4 ∧ k < 2 ∧ a1 = nI o ∧ NUM (T.2 1 o) a2 k) → r = -2 ∧ T'.1 1 = 0 ∧ T'.1 2 = -1 ∧ T'.2 1 = T.2 1 ∧ sameT T T') ∧
  (∀ o k, o < 4 → k < 2 → a1 = nI o → NUM (T.2 1 o) a2 k → T'.1 1 = (TXr T o).1 ∧ T'.1 2 = (TXr T o).2.1 ∧ (¬ (TXr T o).1 = 0 → r = -1 ∧ T'.2 1 = T.2 1 ∧ sameT T T') ∧ ((TXr T o).1 = 0 → r = nI k ∧ T'.2 1 = upd (T.2 1) o (cmx (T.2 1 o) k) ∧ SL o k T' (TXr T o).2.2 ∧ sameB o k T T'))
theorem NUM_un {c a : Int32} {k k' : Nat} (hk : k < 2) (hk' : k' < 2) (h : NUM c a k) (h' : NUM c a k') : k = k' := by
  rcases h with ⟨h1, h2⟩ | ⟨h1, h2, h3⟩ <;> rcases h' with ⟨g1, g2⟩ | ⟨g1, g2, g3⟩
  · exact (nI_eq (by omega) (by omega)).mp (h2.symm.trans g2)
  · exact absurd h1 g1
  · exact absurd g1 h1
  · exact (nI_eq (by omega) (by omega)).mp (h2.symm.trans g2)
theorem e_numberFor {cn : Nat → Int32} {x1 x2 : Int32} {post : Int32 → Prop} (hc : ∀ j, iv 0 2 (cn j)) (h0 : (¬ ∃ o k, o < 4 ∧ k < 2 ∧ x1 = nI o ∧ NUM (cn o) x2 k) → post (-2)) (h1 : ∀ o k, o < 4 → k < 2 → x1 = nI o → NUM (cn o) x2 k → post (nI k)) : q_wx_X10_numberFor_0 cn x1 x2 post := by
  refine ⟨fun h => h0 ?_, fun h => ⟨fun h4 => ?_, fun h4 => h0 ?_⟩⟩
  · rintro ⟨o, k, ho, _, e, _⟩
    rw [e] at h
    exact absurd h (nI_pos (by omega))
  · obtain ⟨o, ho, e⟩ := nI_of2 (M := 3) (n := 3) (by decide) h (by rw [Int32.le_iff_toInt_le]; have := r_lt h4; have e3 : (3 : Int32).toInt = 3 := rfl; have e4 : (4 : Int32).toInt = 4 := rfl; omega)
    subst e
    refine ⟨vp_in_nI (by omega) (by omega), fun v ev => ?_⟩
    rw [nI_clamp (by omega)] at ev
    obtain ⟨c, hcv, -, hc2, -⟩ := iv_nI (hc o) (by decide)
    rw [hcv] at ev
    subst ev
    have no : ∀ {q : Prop}, (∀ k, k < 2 → ¬ NUM (cn o) x2 k) → (¬ ∃ o' k, o' < 4 ∧ k < 2 ∧ nI o = nI o' ∧ NUM (cn o') x2 k) := by
      rintro - hno ⟨o', k, ho', hk, e, hN⟩
      have : o = o' := (nI_eq (by omega) (by omega)).mp e
      subst this
      exact hno k hk hN
    refine ⟨fun hx => ⟨fun hn => h0 (no (q := True) ?_), fun hn => ⟨fun hl => h0 (no (q := True) ?_), fun hl => ?_⟩⟩, fun hx => ⟨fun h2 => h0 (no (q := True) ?_), fun h2 => ?_⟩⟩
    · rintro k hk (⟨q1, _⟩ | ⟨_, q2, _⟩)
      · exact hx q1
      · rw [q2] at hn; exact absurd hn (nI_pos (by omega))
    · rintro k hk (⟨q1, _⟩ | ⟨_, q2, q3⟩)
      · exact hx q1
      · rw [q2] at hl
        rw [hcv] at q3
        exact absurd q3 (Int32.not_lt.mpr hl)
    · obtain ⟨k, hk, ek⟩ := nI_of2 (M := 1) (n := 1) (x := x2) (by decide) hn (by
        rw [Int32.le_iff_toInt_le]
        have := r_nle hl
        rw [nI_toInt (by omega)] at this
        have e1 : (1 : Int32).toInt = 1 := rfl
        omega)
      have g := h1 o k (by omega) (by omega) rfl (Or.inr ⟨hx, ek, by rw [hcv, ← ek]; exact Int32.not_le.mp hl⟩)
      rw [← ek] at g
      exact g
    · rintro k hk (⟨_, q2⟩ | ⟨q1, _, _⟩)
      · rw [hcv] at q2
        rw [q2] at h2
        have := (nI_leI (a := 2) (b := k) (by omega) (by omega)).mp h2
        omega
      · exact q1 hx
    · have hlt : c < 2 := by
        by_cases h9 : c < 2
        · exact h9
        · exact absurd (nI_le (a := 2) (b := c) (by omega) (by omega)) h2
      exact h1 o c (by omega) hlt rfl (Or.inl ⟨hx, hcv⟩)
  · rintro ⟨o, k, ho, _, e, _⟩
    rw [e] at h4
    exact absurd (nI_lt (a := o) (b := 4) ho (by omega)) h4
theorem cs_S {i : Nat} (h1 : 3 ≤ i) (h2 : i < 25) : i = 3 ∨ i = 4 ∨ i = 5 ∨ i = 6 ∨ i = 7 ∨ i = 8 ∨ i = 9 ∨ i = 10 ∨ i = 11 ∨ i = 12 ∨ i = 13 ∨ i = 14 ∨ i = 15 ∨ i = 16 ∨ i = 17 ∨ i = 18 ∨ i = 19 ∨ i = 20 ∨ i = 21 ∨ i = 22 ∨ i = 23 ∨ i = 24 := by omega
theorem cs_A {i : Nat} (h1 : 2 ≤ i) (h2 : i < 34) : i = 2 ∨ i = 3 ∨ i = 4 ∨ i = 5 ∨ i = 6 ∨ i = 7 ∨ i = 8 ∨ i = 9 ∨ i = 10 ∨ i = 11 ∨ i = 12 ∨ i = 13 ∨ i = 14 ∨ i = 15 ∨ i = 16 ∨ i = 17 ∨ i = 18 ∨ i = 19 ∨ i = 20 ∨ i = 21 ∨ i = 22 ∨ i = 23 ∨ i = 24 ∨ i = 25 ∨ i = 26 ∨ i = 27 ∨ i = 28 ∨ i = 29 ∨ i = 30 ∨ i = 31 ∨ i = 32 ∨ i = 33 := by omega
set_option maxRecDepth 40000 in
set_option maxHeartbeats 4000000 in
theorem same_all {T : TT} {len fault place : Int32} {cnt : Nat → Int32} : sameT T (tmk (T.2 0) len fault place cnt (T.1 3) (T.1 4) (T.1 5) (T.1 6) (T.1 7) (T.1 8) (T.1 9) (T.2 2) (T.2 3) (T.2 4) (T.2 5) (T.2 6) (T.2 7) (T.2 8) (T.2 9) (T.1 10) (T.1 11) (T.1 12) (T.1 13) (T.1 14) (T.1 15) (T.1 16) (T.2 10) (T.2 11) (T.2 12) (T.2 13) (T.2 14) (T.2 15) (T.2 16) (T.2 17) (T.1 17) (T.2 18) (T.2 19) (T.2 20) (T.1 18) (T.2 21) (T.2 22) (T.2 23) (T.1 19) (T.2 24) (T.2 25) (T.2 26) (T.1 20) (T.2 27) (T.2 28) (T.2 29) (T.1 21) (T.1 22) (T.2 30) (T.2 31) (T.1 23) (T.1 24) (T.2 32) (T.2 33)) := by
  refine ⟨fun i h1 h2 => ?_, fun i h1 h2 => ?_⟩
  · rcases cs_S h1 h2 with rfl | rfl | rfl | rfl | rfl | rfl | rfl | rfl | rfl | rfl | rfl | rfl | rfl | rfl | rfl | rfl | rfl | rfl | rfl | rfl | rfl | rfl <;> rfl
  · rcases cs_A h1 h2 with rfl | rfl | rfl | rfl | rfl | rfl | rfl | rfl | rfl | rfl | rfl | rfl | rfl | rfl | rfl | rfl | rfl | rfl | rfl | rfl | rfl | rfl | rfl | rfl | rfl | rfl | rfl | rfl | rfl | rfl | rfl | rfl <;> rfl
set_option maxRecDepth 40000 in
set_option maxHeartbeats 4000000 in
theorem same_00 {T : TT} {len fault place : Int32} {cnt : Nat → Int32} {nl0f_huts nl0f_singers nl0f_villages nl0f_dams nl0f_echoes nl0f_deep nl0f_slide : Int32} {nl0a_heights nl0a_ladders nl0a_minutes nl0a_echoFrom nl0a_echoTo nl0a_homes nl0a_talls nl0a_known : Nat → Int32} : sameB 0 0 T (tmk (T.2 0) len fault place cnt nl0f_huts nl0f_singers nl0f_villages nl0f_dams nl0f_echoes nl0f_deep nl0f_slide nl0a_heights nl0a_ladders nl0a_minutes nl0a_echoFrom nl0a_echoTo nl0a_homes nl0a_talls nl0a_known (T.1 10) (T.1 11) (T.1 12) (T.1 13) (T.1 14) (T.1 15) (T.1 16) (T.2 10) (T.2 11) (T.2 12) (T.2 13) (T.2 14) (T.2 15) (T.2 16) (T.2 17) (T.1 17) (T.2 18) (T.2 19) (T.2 20) (T.1 18) (T.2 21) (T.2 22) (T.2 23) (T.1 19) (T.2 24) (T.2 25) (T.2 26) (T.1 20) (T.2 27) (T.2 28) (T.2 29) (T.1 21) (T.1 22) (T.2 30) (T.2 31) (T.1 23) (T.1 24) (T.2 32) (T.2 33)) := by
  refine ⟨fun i h1 h2 h3 => ?_, fun i h1 h2 h3 => ?_⟩
  · rcases cs_S h1 h2 with rfl | rfl | rfl | rfl | rfl | rfl | rfl | rfl | rfl | rfl | rfl | rfl | rfl | rfl | rfl | rfl | rfl | rfl | rfl | rfl | rfl | rfl <;> first | rfl | exact absurd rfl h3
  · rcases cs_A h1 h2 with rfl | rfl | rfl | rfl | rfl | rfl | rfl | rfl | rfl | rfl | rfl | rfl | rfl | rfl | rfl | rfl | rfl | rfl | rfl | rfl | rfl | rfl | rfl | rfl | rfl | rfl | rfl | rfl | rfl | rfl | rfl | rfl <;> first | rfl | exact absurd rfl h3
set_option maxRecDepth 40000 in
set_option maxHeartbeats 4000000 in
theorem same_01 {T : TT} {len fault place : Int32} {cnt : Nat → Int32} {nl1f_huts nl1f_singers nl1f_villages nl1f_dams nl1f_echoes nl1f_deep nl1f_slide : Int32} {nl1a_heights nl1a_ladders nl1a_minutes nl1a_echoFrom nl1a_echoTo nl1a_homes nl1a_talls nl1a_known : Nat → Int32} : sameB 0 1 T (tmk (T.2 0) len fault place cnt (T.1 3) (T.1 4) (T.1 5) (T.1 6) (T.1 7) (T.1 8) (T.1 9) (T.2 2) (T.2 3) (T.2 4) (T.2 5) (T.2 6) (T.2 7) (T.2 8) (T.2 9) nl1f_huts nl1f_singers nl1f_villages nl1f_dams nl1f_echoes nl1f_deep nl1f_slide nl1a_heights nl1a_ladders nl1a_minutes nl1a_echoFrom nl1a_echoTo nl1a_homes nl1a_talls nl1a_known (T.1 17) (T.2 18) (T.2 19) (T.2 20) (T.1 18) (T.2 21) (T.2 22) (T.2 23) (T.1 19) (T.2 24) (T.2 25) (T.2 26) (T.1 20) (T.2 27) (T.2 28) (T.2 29) (T.1 21) (T.1 22) (T.2 30) (T.2 31) (T.1 23) (T.1 24) (T.2 32) (T.2 33)) := by
  refine ⟨fun i h1 h2 h3 => ?_, fun i h1 h2 h3 => ?_⟩
  · rcases cs_S h1 h2 with rfl | rfl | rfl | rfl | rfl | rfl | rfl | rfl | rfl | rfl | rfl | rfl | rfl | rfl | rfl | rfl | rfl | rfl | rfl | rfl | rfl | rfl <;> first | rfl | exact absurd rfl h3
  · rcases cs_A h1 h2 with rfl | rfl | rfl | rfl | rfl | rfl | rfl | rfl | rfl | rfl | rfl | rfl | rfl | rfl | rfl | rfl | rfl | rfl | rfl | rfl | rfl | rfl | rfl | rfl | rfl | rfl | rfl | rfl | rfl | rfl | rfl | rfl <;> first | rfl | exact absurd rfl h3
set_option maxRecDepth 40000 in
set_option maxHeartbeats 4000000 in
theorem same_10 {T : TT} {len fault place : Int32} {cnt : Nat → Int32} {nv0f_deeds : Int32} {nv0a_kinds nv0a_firsts nv0a_seconds : Nat → Int32} : sameB 1 0 T (tmk (T.2 0) len fault place cnt (T.1 3) (T.1 4) (T.1 5) (T.1 6) (T.1 7) (T.1 8) (T.1 9) (T.2 2) (T.2 3) (T.2 4) (T.2 5) (T.2 6) (T.2 7) (T.2 8) (T.2 9) (T.1 10) (T.1 11) (T.1 12) (T.1 13) (T.1 14) (T.1 15) (T.1 16) (T.2 10) (T.2 11) (T.2 12) (T.2 13) (T.2 14) (T.2 15) (T.2 16) (T.2 17) nv0f_deeds nv0a_kinds nv0a_firsts nv0a_seconds (T.1 18) (T.2 21) (T.2 22) (T.2 23) (T.1 19) (T.2 24) (T.2 25) (T.2 26) (T.1 20) (T.2 27) (T.2 28) (T.2 29) (T.1 21) (T.1 22) (T.2 30) (T.2 31) (T.1 23) (T.1 24) (T.2 32) (T.2 33)) := by
  refine ⟨fun i h1 h2 h3 => ?_, fun i h1 h2 h3 => ?_⟩
  · rcases cs_S h1 h2 with rfl | rfl | rfl | rfl | rfl | rfl | rfl | rfl | rfl | rfl | rfl | rfl | rfl | rfl | rfl | rfl | rfl | rfl | rfl | rfl | rfl | rfl <;> first | rfl | exact absurd rfl h3
  · rcases cs_A h1 h2 with rfl | rfl | rfl | rfl | rfl | rfl | rfl | rfl | rfl | rfl | rfl | rfl | rfl | rfl | rfl | rfl | rfl | rfl | rfl | rfl | rfl | rfl | rfl | rfl | rfl | rfl | rfl | rfl | rfl | rfl | rfl | rfl <;> first | rfl | exact absurd rfl h3
set_option maxRecDepth 40000 in
set_option maxHeartbeats 4000000 in
theorem same_11 {T : TT} {len fault place : Int32} {cnt : Nat → Int32} {nv1f_deeds : Int32} {nv1a_kinds nv1a_firsts nv1a_seconds : Nat → Int32} : sameB 1 1 T (tmk (T.2 0) len fault place cnt (T.1 3) (T.1 4) (T.1 5) (T.1 6) (T.1 7) (T.1 8) (T.1 9) (T.2 2) (T.2 3) (T.2 4) (T.2 5) (T.2 6) (T.2 7) (T.2 8) (T.2 9) (T.1 10) (T.1 11) (T.1 12) (T.1 13) (T.1 14) (T.1 15) (T.1 16) (T.2 10) (T.2 11) (T.2 12) (T.2 13) (T.2 14) (T.2 15) (T.2 16) (T.2 17) (T.1 17) (T.2 18) (T.2 19) (T.2 20) nv1f_deeds nv1a_kinds nv1a_firsts nv1a_seconds (T.1 19) (T.2 24) (T.2 25) (T.2 26) (T.1 20) (T.2 27) (T.2 28) (T.2 29) (T.1 21) (T.1 22) (T.2 30) (T.2 31) (T.1 23) (T.1 24) (T.2 32) (T.2 33)) := by
  refine ⟨fun i h1 h2 h3 => ?_, fun i h1 h2 h3 => ?_⟩
  · rcases cs_S h1 h2 with rfl | rfl | rfl | rfl | rfl | rfl | rfl | rfl | rfl | rfl | rfl | rfl | rfl | rfl | rfl | rfl | rfl | rfl | rfl | rfl | rfl | rfl <;> first | rfl | exact absurd rfl h3
  · rcases cs_A h1 h2 with rfl | rfl | rfl | rfl | rfl | rfl | rfl | rfl | rfl | rfl | rfl | rfl | rfl | rfl | rfl | rfl | rfl | rfl | rfl | rfl | rfl | rfl | rfl | rfl | rfl | rfl | rfl | rfl | rfl | rfl | rfl | rfl <;> first | rfl | exact absurd rfl h3
set_option maxRecDepth 40000 in
set_option maxHeartbeats 4000000 in
theorem same_20 {T : TT} {len fault place : Int32} {cnt : Nat → Int32} {ns0f_facts : Int32} {ns0a_heard ns0a_huts ns0a_minutes : Nat → Int32} : sameB 2 0 T (tmk (T.2 0) len fault place cnt (T.1 3) (T.1 4) (T.1 5) (T.1 6) (T.1 7) (T.1 8) (T.1 9) (T.2 2) (T.2 3) (T.2 4) (T.2 5) (T.2 6) (T.2 7) (T.2 8) (T.2 9) (T.1 10) (T.1 11) (T.1 12) (T.1 13) (T.1 14) (T.1 15) (T.1 16) (T.2 10) (T.2 11) (T.2 12) (T.2 13) (T.2 14) (T.2 15) (T.2 16) (T.2 17) (T.1 17) (T.2 18) (T.2 19) (T.2 20) (T.1 18) (T.2 21) (T.2 22) (T.2 23) ns0f_facts ns0a_heard ns0a_huts ns0a_minutes (T.1 20) (T.2 27) (T.2 28) (T.2 29) (T.1 21) (T.1 22) (T.2 30) (T.2 31) (T.1 23) (T.1 24) (T.2 32) (T.2 33)) := by
  refine ⟨fun i h1 h2 h3 => ?_, fun i h1 h2 h3 => ?_⟩
  · rcases cs_S h1 h2 with rfl | rfl | rfl | rfl | rfl | rfl | rfl | rfl | rfl | rfl | rfl | rfl | rfl | rfl | rfl | rfl | rfl | rfl | rfl | rfl | rfl | rfl <;> first | rfl | exact absurd rfl h3
  · rcases cs_A h1 h2 with rfl | rfl | rfl | rfl | rfl | rfl | rfl | rfl | rfl | rfl | rfl | rfl | rfl | rfl | rfl | rfl | rfl | rfl | rfl | rfl | rfl | rfl | rfl | rfl | rfl | rfl | rfl | rfl | rfl | rfl | rfl | rfl <;> first | rfl | exact absurd rfl h3
set_option maxRecDepth 40000 in
set_option maxHeartbeats 4000000 in
theorem same_21 {T : TT} {len fault place : Int32} {cnt : Nat → Int32} {ns1f_facts : Int32} {ns1a_heard ns1a_huts ns1a_minutes : Nat → Int32} : sameB 2 1 T (tmk (T.2 0) len fault place cnt (T.1 3) (T.1 4) (T.1 5) (T.1 6) (T.1 7) (T.1 8) (T.1 9) (T.2 2) (T.2 3) (T.2 4) (T.2 5) (T.2 6) (T.2 7) (T.2 8) (T.2 9) (T.1 10) (T.1 11) (T.1 12) (T.1 13) (T.1 14) (T.1 15) (T.1 16) (T.2 10) (T.2 11) (T.2 12) (T.2 13) (T.2 14) (T.2 15) (T.2 16) (T.2 17) (T.1 17) (T.2 18) (T.2 19) (T.2 20) (T.1 18) (T.2 21) (T.2 22) (T.2 23) (T.1 19) (T.2 24) (T.2 25) (T.2 26) ns1f_facts ns1a_heard ns1a_huts ns1a_minutes (T.1 21) (T.1 22) (T.2 30) (T.2 31) (T.1 23) (T.1 24) (T.2 32) (T.2 33)) := by
  refine ⟨fun i h1 h2 h3 => ?_, fun i h1 h2 h3 => ?_⟩
  · rcases cs_S h1 h2 with rfl | rfl | rfl | rfl | rfl | rfl | rfl | rfl | rfl | rfl | rfl | rfl | rfl | rfl | rfl | rfl | rfl | rfl | rfl | rfl | rfl | rfl <;> first | rfl | exact absurd rfl h3
  · rcases cs_A h1 h2 with rfl | rfl | rfl | rfl | rfl | rfl | rfl | rfl | rfl | rfl | rfl | rfl | rfl | rfl | rfl | rfl | rfl | rfl | rfl | rfl | rfl | rfl | rfl | rfl | rfl | rfl | rfl | rfl | rfl | rfl | rfl | rfl <;> first | rfl | exact absurd rfl h3
set_option maxRecDepth 40000 in
set_option maxHeartbeats 4000000 in
theorem same_30 {T : TT} {len fault place : Int32} {cnt : Nat → Int32} {nc0f_voices nc0f_step : Int32} {nc0a_parts nc0a_heights : Nat → Int32} : sameB 3 0 T (tmk (T.2 0) len fault place cnt (T.1 3) (T.1 4) (T.1 5) (T.1 6) (T.1 7) (T.1 8) (T.1 9) (T.2 2) (T.2 3) (T.2 4) (T.2 5) (T.2 6) (T.2 7) (T.2 8) (T.2 9) (T.1 10) (T.1 11) (T.1 12) (T.1 13) (T.1 14) (T.1 15) (T.1 16) (T.2 10) (T.2 11) (T.2 12) (T.2 13) (T.2 14) (T.2 15) (T.2 16) (T.2 17) (T.1 17) (T.2 18) (T.2 19) (T.2 20) (T.1 18) (T.2 21) (T.2 22) (T.2 23) (T.1 19) (T.2 24) (T.2 25) (T.2 26) (T.1 20) (T.2 27) (T.2 28) (T.2 29) nc0f_voices nc0f_step nc0a_parts nc0a_heights (T.1 23) (T.1 24) (T.2 32) (T.2 33)) := by
  refine ⟨fun i h1 h2 h3 => ?_, fun i h1 h2 h3 => ?_⟩
  · rcases cs_S h1 h2 with rfl | rfl | rfl | rfl | rfl | rfl | rfl | rfl | rfl | rfl | rfl | rfl | rfl | rfl | rfl | rfl | rfl | rfl | rfl | rfl | rfl | rfl <;> first | rfl | exact absurd rfl h3
  · rcases cs_A h1 h2 with rfl | rfl | rfl | rfl | rfl | rfl | rfl | rfl | rfl | rfl | rfl | rfl | rfl | rfl | rfl | rfl | rfl | rfl | rfl | rfl | rfl | rfl | rfl | rfl | rfl | rfl | rfl | rfl | rfl | rfl | rfl | rfl <;> first | rfl | exact absurd rfl h3
set_option maxRecDepth 40000 in
set_option maxHeartbeats 4000000 in
theorem same_31 {T : TT} {len fault place : Int32} {cnt : Nat → Int32} {nc1f_voices nc1f_step : Int32} {nc1a_parts nc1a_heights : Nat → Int32} : sameB 3 1 T (tmk (T.2 0) len fault place cnt (T.1 3) (T.1 4) (T.1 5) (T.1 6) (T.1 7) (T.1 8) (T.1 9) (T.2 2) (T.2 3) (T.2 4) (T.2 5) (T.2 6) (T.2 7) (T.2 8) (T.2 9) (T.1 10) (T.1 11) (T.1 12) (T.1 13) (T.1 14) (T.1 15) (T.1 16) (T.2 10) (T.2 11) (T.2 12) (T.2 13) (T.2 14) (T.2 15) (T.2 16) (T.2 17) (T.1 17) (T.2 18) (T.2 19) (T.2 20) (T.1 18) (T.2 21) (T.2 22) (T.2 23) (T.1 19) (T.2 24) (T.2 25) (T.2 26) (T.1 20) (T.2 27) (T.2 28) (T.2 29) (T.1 21) (T.1 22) (T.2 30) (T.2 31) nc1f_voices nc1f_step nc1a_parts nc1a_heights) := by
  refine ⟨fun i h1 h2 h3 => ?_, fun i h1 h2 h3 => ?_⟩
  · rcases cs_S h1 h2 with rfl | rfl | rfl | rfl | rfl | rfl | rfl | rfl | rfl | rfl | rfl | rfl | rfl | rfl | rfl | rfl | rfl | rfl | rfl | rfl | rfl | rfl <;> first | rfl | exact absurd rfl h3
  · rcases cs_A h1 h2 with rfl | rfl | rfl | rfl | rfl | rfl | rfl | rfl | rfl | rfl | rfl | rfl | rfl | rfl | rfl | rfl | rfl | rfl | rfl | rfl | rfl | rfl | rfl | rfl | rfl | rfl | rfl | rfl | rfl | rfl | rfl | rfl <;> first | rfl | exact absurd rfl h3
set_option maxRecDepth 40000 in
set_option maxHeartbeats 4000000 in
theorem e_keep_00 {T : TT} {rlf_huts rlf_singers rlf_villages rlf_dams rlf_echoes rlf_deep rlf_slide rvf_deeds rsf_facts rcf_voices rcf_step : Int32} {rla_heights rla_ladders rla_minutes rla_echoFrom rla_echoTo rla_homes rla_talls rla_known rva_kinds rva_firsts rva_seconds rsa_heard rsa_huts rsa_minutes rca_parts rca_heights : Nat → Int32} {td : Nat → Int32} {len fault place : Int32} {post : (Nat → Int32) → (Int32) → (Int32) → (Int32) → (Int32) → (Int32) → (Int32) → (Int32) → (Nat → Int32) → (Nat → Int32) → (Nat → Int32) → (Nat → Int32) → (Nat → Int32) → (Nat → Int32) → (Nat → Int32) → (Nat → Int32) → (Int32) → (Int32) → (Int32) → (Int32) → (Int32) → (Int32) → (Int32) → (Nat → Int32) → (Nat → Int32) → (Nat → Int32) → (Nat → Int32) → (Nat → Int32) → (Nat → Int32) → (Nat → Int32) → (Nat → Int32) → (Int32) → (Nat → Int32) → (Nat → Int32) → (Nat → Int32) → (Int32) → (Nat → Int32) → (Nat → Int32) → (Nat → Int32) → (Int32) → (Nat → Int32) → (Nat → Int32) → (Nat → Int32) → (Int32) → (Nat → Int32) → (Nat → Int32) → (Nat → Int32) → (Int32) → (Int32) → (Nat → Int32) → (Nat → Int32) → (Int32) → (Int32) → (Nat → Int32) → (Nat → Int32) → Prop} (hC : CB 0 td) (hR : LDR rlf_huts rlf_singers rlf_villages rlf_dams rlf_echoes rlf_deep rlf_slide rla_heights rla_ladders rla_minutes rla_echoFrom rla_echoTo rla_homes rla_talls rla_known td) (hp : ∀ (nl0f_huts : Int32) (nl0f_singers : Int32) (nl0f_villages : Int32) (nl0f_dams : Int32) (nl0f_echoes : Int32) (nl0f_deep : Int32) (nl0f_slide : Int32) (nl0a_heights : Nat → Int32) (nl0a_ladders : Nat → Int32) (nl0a_minutes : Nat → Int32) (nl0a_echoFrom : Nat → Int32) (nl0a_echoTo : Nat → Int32) (nl0a_homes : Nat → Int32) (nl0a_talls : Nat → Int32) (nl0a_known : Nat → Int32), SL 0 0 (tmk (T.2 0) len fault place (upd (T.2 1) 0 (cmx (T.2 1 0) 0)) nl0f_huts nl0f_singers nl0f_villages nl0f_dams nl0f_echoes nl0f_deep nl0f_slide nl0a_heights nl0a_ladders nl0a_minutes nl0a_echoFrom nl0a_echoTo nl0a_homes nl0a_talls nl0a_known (T.1 10) (T.1 11) (T.1 12) (T.1 13) (T.1 14) (T.1 15) (T.1 16) (T.2 10) (T.2 11) (T.2 12) (T.2 13) (T.2 14) (T.2 15) (T.2 16) (T.2 17) (T.1 17) (T.2 18) (T.2 19) (T.2 20) (T.1 18) (T.2 21) (T.2 22) (T.2 23) (T.1 19) (T.2 24) (T.2 25) (T.2 26) (T.1 20) (T.2 27) (T.2 28) (T.2 29) (T.1 21) (T.1 22) (T.2 30) (T.2 31) (T.1 23) (T.1 24) (T.2 32) (T.2 33)) td → sameB 0 0 T (tmk (T.2 0) len fault place (upd (T.2 1) 0 (cmx (T.2 1 0) 0)) nl0f_huts nl0f_singers nl0f_villages nl0f_dams nl0f_echoes nl0f_deep nl0f_slide nl0a_heights nl0a_ladders nl0a_minutes nl0a_echoFrom nl0a_echoTo nl0a_homes nl0a_talls nl0a_known (T.1 10) (T.1 11) (T.1 12) (T.1 13) (T.1 14) (T.1 15) (T.1 16) (T.2 10) (T.2 11) (T.2 12) (T.2 13) (T.2 14) (T.2 15) (T.2 16) (T.2 17) (T.1 17) (T.2 18) (T.2 19) (T.2 20) (T.1 18) (T.2 21) (T.2 22) (T.2 23) (T.1 19) (T.2 24) (T.2 25) (T.2 26) (T.1 20) (T.2 27) (T.2 28) (T.2 29) (T.1 21) (T.1 22) (T.2 30) (T.2 31) (T.1 23) (T.1 24) (T.2 32) (T.2 33)) → post (upd (T.2 1) 0 (cmx (T.2 1 0) 0)) nl0f_huts nl0f_singers nl0f_villages nl0f_dams nl0f_echoes nl0f_deep nl0f_slide nl0a_heights nl0a_ladders nl0a_minutes nl0a_echoFrom nl0a_echoTo nl0a_homes nl0a_talls nl0a_known (T.1 10) (T.1 11) (T.1 12) (T.1 13) (T.1 14) (T.1 15) (T.1 16) (T.2 10) (T.2 11) (T.2 12) (T.2 13) (T.2 14) (T.2 15) (T.2 16) (T.2 17) (T.1 17) (T.2 18) (T.2 19) (T.2 20) (T.1 18) (T.2 21) (T.2 22) (T.2 23) (T.1 19) (T.2 24) (T.2 25) (T.2 26) (T.1 20) (T.2 27) (T.2 28) (T.2 29) (T.1 21) (T.1 22) (T.2 30) (T.2 31) (T.1 23) (T.1 24) (T.2 32) (T.2 33)) : q_wx_X10_keep_0 (T.2 1) (T.1 3) (T.1 4) (T.1 5) (T.1 6) (T.1 7) (T.1 8) (T.1 9) (T.2 2) (T.2 3) (T.2 4) (T.2 5) (T.2 6) (T.2 7) (T.2 8) (T.2 9) (T.1 10) (T.1 11) (T.1 12) (T.1 13) (T.1 14) (T.1 15) (T.1 16) (T.2 10) (T.2 11) (T.2 12) (T.2 13) (T.2 14) (T.2 15) (T.2 16) (T.2 17) (T.1 17) (T.2 18) (T.2 19) (T.2 20) (T.1 18) (T.2 21) (T.2 22) (T.2 23) (T.1 19) (T.2 24) (T.2 25) (T.2 26) (T.1 20) (T.2 27) (T.2 28) (T.2 29) (T.1 21) (T.1 22) (T.2 30) (T.2 31) (T.1 23) (T.1 24) (T.2 32) (T.2 33) rlf_huts rlf_singers rlf_villages rlf_dams rlf_echoes rlf_deep rlf_slide rla_heights rla_ladders rla_minutes rla_echoFrom rla_echoTo rla_homes rla_talls rla_known rvf_deeds rva_kinds rva_firsts rva_seconds rsf_facts rsa_heard rsa_huts rsa_minutes rcf_voices rcf_step rca_parts rca_heights (nI 0) (nI 0) post := by
  refine ⟨fun h9 => absurd h9 (by decide +kernel), fun _ => ⟨vp_in_nI (by decide) (by decide), fun _ => ?_, fun h9 => absurd h9 (by decide +kernel)⟩⟩
  refine e_ll (fun t_a_heights t_a_ladders t_a_minutes t_a_echoFrom t_a_echoTo t_a_homes t_a_talls t_a_known c_a_heights c_a_ladders c_a_minutes c_a_echoFrom c_a_echoTo c_a_homes c_a_talls c_a_known => ?_)
  refine ⟨vp_in_nI (by decide) (by decide), fun v ev => ⟨vp_in_nI (by decide) (by decide), fun cn en => ?_⟩⟩
  have e9 : Int32.toNatClampNeg (nI 0) = 0 := rfl
  rw [e9] at ev en
  rw [en, ev]
  exact hp rlf_huts rlf_singers rlf_villages rlf_dams rlf_echoes rlf_deep rlf_slide t_a_heights t_a_ladders t_a_minutes t_a_echoFrom t_a_echoTo t_a_homes t_a_talls t_a_known (LDR_cp hR (CB_n hC).1 (CB_n hC).2.1 (CB_n hC).2.2 c_a_heights c_a_ladders c_a_minutes c_a_echoFrom c_a_echoTo c_a_homes c_a_talls c_a_known) same_00
set_option maxRecDepth 40000 in
set_option maxHeartbeats 4000000 in
theorem e_keep_01 {T : TT} {rlf_huts rlf_singers rlf_villages rlf_dams rlf_echoes rlf_deep rlf_slide rvf_deeds rsf_facts rcf_voices rcf_step : Int32} {rla_heights rla_ladders rla_minutes rla_echoFrom rla_echoTo rla_homes rla_talls rla_known rva_kinds rva_firsts rva_seconds rsa_heard rsa_huts rsa_minutes rca_parts rca_heights : Nat → Int32} {td : Nat → Int32} {len fault place : Int32} {post : (Nat → Int32) → (Int32) → (Int32) → (Int32) → (Int32) → (Int32) → (Int32) → (Int32) → (Nat → Int32) → (Nat → Int32) → (Nat → Int32) → (Nat → Int32) → (Nat → Int32) → (Nat → Int32) → (Nat → Int32) → (Nat → Int32) → (Int32) → (Int32) → (Int32) → (Int32) → (Int32) → (Int32) → (Int32) → (Nat → Int32) → (Nat → Int32) → (Nat → Int32) → (Nat → Int32) → (Nat → Int32) → (Nat → Int32) → (Nat → Int32) → (Nat → Int32) → (Int32) → (Nat → Int32) → (Nat → Int32) → (Nat → Int32) → (Int32) → (Nat → Int32) → (Nat → Int32) → (Nat → Int32) → (Int32) → (Nat → Int32) → (Nat → Int32) → (Nat → Int32) → (Int32) → (Nat → Int32) → (Nat → Int32) → (Nat → Int32) → (Int32) → (Int32) → (Nat → Int32) → (Nat → Int32) → (Int32) → (Int32) → (Nat → Int32) → (Nat → Int32) → Prop} (hC : CB 0 td) (hR : LDR rlf_huts rlf_singers rlf_villages rlf_dams rlf_echoes rlf_deep rlf_slide rla_heights rla_ladders rla_minutes rla_echoFrom rla_echoTo rla_homes rla_talls rla_known td) (hp : ∀ (nl1f_huts : Int32) (nl1f_singers : Int32) (nl1f_villages : Int32) (nl1f_dams : Int32) (nl1f_echoes : Int32) (nl1f_deep : Int32) (nl1f_slide : Int32) (nl1a_heights : Nat → Int32) (nl1a_ladders : Nat → Int32) (nl1a_minutes : Nat → Int32) (nl1a_echoFrom : Nat → Int32) (nl1a_echoTo : Nat → Int32) (nl1a_homes : Nat → Int32) (nl1a_talls : Nat → Int32) (nl1a_known : Nat → Int32), SL 0 1 (tmk (T.2 0) len fault place (upd (T.2 1) 0 (cmx (T.2 1 0) 1)) (T.1 3) (T.1 4) (T.1 5) (T.1 6) (T.1 7) (T.1 8) (T.1 9) (T.2 2) (T.2 3) (T.2 4) (T.2 5) (T.2 6) (T.2 7) (T.2 8) (T.2 9) nl1f_huts nl1f_singers nl1f_villages nl1f_dams nl1f_echoes nl1f_deep nl1f_slide nl1a_heights nl1a_ladders nl1a_minutes nl1a_echoFrom nl1a_echoTo nl1a_homes nl1a_talls nl1a_known (T.1 17) (T.2 18) (T.2 19) (T.2 20) (T.1 18) (T.2 21) (T.2 22) (T.2 23) (T.1 19) (T.2 24) (T.2 25) (T.2 26) (T.1 20) (T.2 27) (T.2 28) (T.2 29) (T.1 21) (T.1 22) (T.2 30) (T.2 31) (T.1 23) (T.1 24) (T.2 32) (T.2 33)) td → sameB 0 1 T (tmk (T.2 0) len fault place (upd (T.2 1) 0 (cmx (T.2 1 0) 1)) (T.1 3) (T.1 4) (T.1 5) (T.1 6) (T.1 7) (T.1 8) (T.1 9) (T.2 2) (T.2 3) (T.2 4) (T.2 5) (T.2 6) (T.2 7) (T.2 8) (T.2 9) nl1f_huts nl1f_singers nl1f_villages nl1f_dams nl1f_echoes nl1f_deep nl1f_slide nl1a_heights nl1a_ladders nl1a_minutes nl1a_echoFrom nl1a_echoTo nl1a_homes nl1a_talls nl1a_known (T.1 17) (T.2 18) (T.2 19) (T.2 20) (T.1 18) (T.2 21) (T.2 22) (T.2 23) (T.1 19) (T.2 24) (T.2 25) (T.2 26) (T.1 20) (T.2 27) (T.2 28) (T.2 29) (T.1 21) (T.1 22) (T.2 30) (T.2 31) (T.1 23) (T.1 24) (T.2 32) (T.2 33)) → post (upd (T.2 1) 0 (cmx (T.2 1 0) 1)) (T.1 3) (T.1 4) (T.1 5) (T.1 6) (T.1 7) (T.1 8) (T.1 9) (T.2 2) (T.2 3) (T.2 4) (T.2 5) (T.2 6) (T.2 7) (T.2 8) (T.2 9) nl1f_huts nl1f_singers nl1f_villages nl1f_dams nl1f_echoes nl1f_deep nl1f_slide nl1a_heights nl1a_ladders nl1a_minutes nl1a_echoFrom nl1a_echoTo nl1a_homes nl1a_talls nl1a_known (T.1 17) (T.2 18) (T.2 19) (T.2 20) (T.1 18) (T.2 21) (T.2 22) (T.2 23) (T.1 19) (T.2 24) (T.2 25) (T.2 26) (T.1 20) (T.2 27) (T.2 28) (T.2 29) (T.1 21) (T.1 22) (T.2 30) (T.2 31) (T.1 23) (T.1 24) (T.2 32) (T.2 33)) : q_wx_X10_keep_0 (T.2 1) (T.1 3) (T.1 4) (T.1 5) (T.1 6) (T.1 7) (T.1 8) (T.1 9) (T.2 2) (T.2 3) (T.2 4) (T.2 5) (T.2 6) (T.2 7) (T.2 8) (T.2 9) (T.1 10) (T.1 11) (T.1 12) (T.1 13) (T.1 14) (T.1 15) (T.1 16) (T.2 10) (T.2 11) (T.2 12) (T.2 13) (T.2 14) (T.2 15) (T.2 16) (T.2 17) (T.1 17) (T.2 18) (T.2 19) (T.2 20) (T.1 18) (T.2 21) (T.2 22) (T.2 23) (T.1 19) (T.2 24) (T.2 25) (T.2 26) (T.1 20) (T.2 27) (T.2 28) (T.2 29) (T.1 21) (T.1 22) (T.2 30) (T.2 31) (T.1 23) (T.1 24) (T.2 32) (T.2 33) rlf_huts rlf_singers rlf_villages rlf_dams rlf_echoes rlf_deep rlf_slide rla_heights rla_ladders rla_minutes rla_echoFrom rla_echoTo rla_homes rla_talls rla_known rvf_deeds rva_kinds rva_firsts rva_seconds rsf_facts rsa_heard rsa_huts rsa_minutes rcf_voices rcf_step rca_parts rca_heights (nI 0) (nI 1) post := by
  refine ⟨fun h9 => absurd h9 (by decide +kernel), fun _ => ⟨vp_in_nI (by decide) (by decide), fun h9 => absurd h9 (by decide +kernel), fun _ => ?_⟩⟩
  refine e_ll (fun t_a_heights t_a_ladders t_a_minutes t_a_echoFrom t_a_echoTo t_a_homes t_a_talls t_a_known c_a_heights c_a_ladders c_a_minutes c_a_echoFrom c_a_echoTo c_a_homes c_a_talls c_a_known => ?_)
  refine ⟨vp_in_nI (by decide) (by decide), fun v ev => ⟨vp_in_nI (by decide) (by decide), fun cn en => ?_⟩⟩
  have e9 : Int32.toNatClampNeg (nI 0) = 0 := rfl
  rw [e9] at ev en
  rw [en, ev]
  exact hp rlf_huts rlf_singers rlf_villages rlf_dams rlf_echoes rlf_deep rlf_slide t_a_heights t_a_ladders t_a_minutes t_a_echoFrom t_a_echoTo t_a_homes t_a_talls t_a_known (LDR_cp hR (CB_n hC).1 (CB_n hC).2.1 (CB_n hC).2.2 c_a_heights c_a_ladders c_a_minutes c_a_echoFrom c_a_echoTo c_a_homes c_a_talls c_a_known) same_01
set_option maxRecDepth 40000 in
set_option maxHeartbeats 4000000 in
theorem e_keep_10 {T : TT} {rlf_huts rlf_singers rlf_villages rlf_dams rlf_echoes rlf_deep rlf_slide rvf_deeds rsf_facts rcf_voices rcf_step : Int32} {rla_heights rla_ladders rla_minutes rla_echoFrom rla_echoTo rla_homes rla_talls rla_known rva_kinds rva_firsts rva_seconds rsa_heard rsa_huts rsa_minutes rca_parts rca_heights : Nat → Int32} {td : Nat → Int32} {len fault place : Int32} {post : (Nat → Int32) → (Int32) → (Int32) → (Int32) → (Int32) → (Int32) → (Int32) → (Int32) → (Nat → Int32) → (Nat → Int32) → (Nat → Int32) → (Nat → Int32) → (Nat → Int32) → (Nat → Int32) → (Nat → Int32) → (Nat → Int32) → (Int32) → (Int32) → (Int32) → (Int32) → (Int32) → (Int32) → (Int32) → (Nat → Int32) → (Nat → Int32) → (Nat → Int32) → (Nat → Int32) → (Nat → Int32) → (Nat → Int32) → (Nat → Int32) → (Nat → Int32) → (Int32) → (Nat → Int32) → (Nat → Int32) → (Nat → Int32) → (Int32) → (Nat → Int32) → (Nat → Int32) → (Nat → Int32) → (Int32) → (Nat → Int32) → (Nat → Int32) → (Nat → Int32) → (Int32) → (Nat → Int32) → (Nat → Int32) → (Nat → Int32) → (Int32) → (Int32) → (Nat → Int32) → (Nat → Int32) → (Int32) → (Int32) → (Nat → Int32) → (Nat → Int32) → Prop} (hC : CB 1 td) (hR : R3 rvf_deeds rva_kinds rva_firsts rva_seconds td) (hc : iv 0 40 rvf_deeds) (hp : ∀ (nv0f_deeds : Int32) (nv0a_kinds : Nat → Int32) (nv0a_firsts : Nat → Int32) (nv0a_seconds : Nat → Int32), SL 1 0 (tmk (T.2 0) len fault place (upd (T.2 1) 1 (cmx (T.2 1 1) 0)) (T.1 3) (T.1 4) (T.1 5) (T.1 6) (T.1 7) (T.1 8) (T.1 9) (T.2 2) (T.2 3) (T.2 4) (T.2 5) (T.2 6) (T.2 7) (T.2 8) (T.2 9) (T.1 10) (T.1 11) (T.1 12) (T.1 13) (T.1 14) (T.1 15) (T.1 16) (T.2 10) (T.2 11) (T.2 12) (T.2 13) (T.2 14) (T.2 15) (T.2 16) (T.2 17) nv0f_deeds nv0a_kinds nv0a_firsts nv0a_seconds (T.1 18) (T.2 21) (T.2 22) (T.2 23) (T.1 19) (T.2 24) (T.2 25) (T.2 26) (T.1 20) (T.2 27) (T.2 28) (T.2 29) (T.1 21) (T.1 22) (T.2 30) (T.2 31) (T.1 23) (T.1 24) (T.2 32) (T.2 33)) td → sameB 1 0 T (tmk (T.2 0) len fault place (upd (T.2 1) 1 (cmx (T.2 1 1) 0)) (T.1 3) (T.1 4) (T.1 5) (T.1 6) (T.1 7) (T.1 8) (T.1 9) (T.2 2) (T.2 3) (T.2 4) (T.2 5) (T.2 6) (T.2 7) (T.2 8) (T.2 9) (T.1 10) (T.1 11) (T.1 12) (T.1 13) (T.1 14) (T.1 15) (T.1 16) (T.2 10) (T.2 11) (T.2 12) (T.2 13) (T.2 14) (T.2 15) (T.2 16) (T.2 17) nv0f_deeds nv0a_kinds nv0a_firsts nv0a_seconds (T.1 18) (T.2 21) (T.2 22) (T.2 23) (T.1 19) (T.2 24) (T.2 25) (T.2 26) (T.1 20) (T.2 27) (T.2 28) (T.2 29) (T.1 21) (T.1 22) (T.2 30) (T.2 31) (T.1 23) (T.1 24) (T.2 32) (T.2 33)) → post (upd (T.2 1) 1 (cmx (T.2 1 1) 0)) (T.1 3) (T.1 4) (T.1 5) (T.1 6) (T.1 7) (T.1 8) (T.1 9) (T.2 2) (T.2 3) (T.2 4) (T.2 5) (T.2 6) (T.2 7) (T.2 8) (T.2 9) (T.1 10) (T.1 11) (T.1 12) (T.1 13) (T.1 14) (T.1 15) (T.1 16) (T.2 10) (T.2 11) (T.2 12) (T.2 13) (T.2 14) (T.2 15) (T.2 16) (T.2 17) nv0f_deeds nv0a_kinds nv0a_firsts nv0a_seconds (T.1 18) (T.2 21) (T.2 22) (T.2 23) (T.1 19) (T.2 24) (T.2 25) (T.2 26) (T.1 20) (T.2 27) (T.2 28) (T.2 29) (T.1 21) (T.1 22) (T.2 30) (T.2 31) (T.1 23) (T.1 24) (T.2 32) (T.2 33)) : q_wx_X10_keep_0 (T.2 1) (T.1 3) (T.1 4) (T.1 5) (T.1 6) (T.1 7) (T.1 8) (T.1 9) (T.2 2) (T.2 3) (T.2 4) (T.2 5) (T.2 6) (T.2 7) (T.2 8) (T.2 9) (T.1 10) (T.1 11) (T.1 12) (T.1 13) (T.1 14) (T.1 15) (T.1 16) (T.2 10) (T.2 11) (T.2 12) (T.2 13) (T.2 14) (T.2 15) (T.2 16) (T.2 17) (T.1 17) (T.2 18) (T.2 19) (T.2 20) (T.1 18) (T.2 21) (T.2 22) (T.2 23) (T.1 19) (T.2 24) (T.2 25) (T.2 26) (T.1 20) (T.2 27) (T.2 28) (T.2 29) (T.1 21) (T.1 22) (T.2 30) (T.2 31) (T.1 23) (T.1 24) (T.2 32) (T.2 33) rlf_huts rlf_singers rlf_villages rlf_dams rlf_echoes rlf_deep rlf_slide rla_heights rla_ladders rla_minutes rla_echoFrom rla_echoTo rla_homes rla_talls rla_known rvf_deeds rva_kinds rva_firsts rva_seconds rsf_facts rsa_heard rsa_huts rsa_minutes rcf_voices rcf_step rca_parts rca_heights (nI 1) (nI 0) post := by
  refine ⟨fun _ => ⟨fun h9 => absurd h9 (by decide +kernel), fun _ => ⟨vp_in_nI (by decide) (by decide), fun _ => ?_, fun h9 => absurd h9 (by decide +kernel)⟩⟩, fun h9 => absurd h9 (by decide +kernel)⟩
  refine e_vv hc (fun t_a_kinds t_a_firsts t_a_seconds c_a_kinds c_a_firsts c_a_seconds => ?_)
  refine ⟨vp_in_nI (by decide) (by decide), fun v ev => ⟨vp_in_nI (by decide) (by decide), fun cn en => ?_⟩⟩
  have e9 : Int32.toNatClampNeg (nI 1) = 1 := rfl
  rw [e9] at ev en
  rw [en, ev]
  exact hp rvf_deeds t_a_kinds t_a_firsts t_a_seconds (R3_cp hR c_a_kinds c_a_firsts c_a_seconds) same_10
set_option maxRecDepth 40000 in
set_option maxHeartbeats 4000000 in
theorem e_keep_11 {T : TT} {rlf_huts rlf_singers rlf_villages rlf_dams rlf_echoes rlf_deep rlf_slide rvf_deeds rsf_facts rcf_voices rcf_step : Int32} {rla_heights rla_ladders rla_minutes rla_echoFrom rla_echoTo rla_homes rla_talls rla_known rva_kinds rva_firsts rva_seconds rsa_heard rsa_huts rsa_minutes rca_parts rca_heights : Nat → Int32} {td : Nat → Int32} {len fault place : Int32} {post : (Nat → Int32) → (Int32) → (Int32) → (Int32) → (Int32) → (Int32) → (Int32) → (Int32) → (Nat → Int32) → (Nat → Int32) → (Nat → Int32) → (Nat → Int32) → (Nat → Int32) → (Nat → Int32) → (Nat → Int32) → (Nat → Int32) → (Int32) → (Int32) → (Int32) → (Int32) → (Int32) → (Int32) → (Int32) → (Nat → Int32) → (Nat → Int32) → (Nat → Int32) → (Nat → Int32) → (Nat → Int32) → (Nat → Int32) → (Nat → Int32) → (Nat → Int32) → (Int32) → (Nat → Int32) → (Nat → Int32) → (Nat → Int32) → (Int32) → (Nat → Int32) → (Nat → Int32) → (Nat → Int32) → (Int32) → (Nat → Int32) → (Nat → Int32) → (Nat → Int32) → (Int32) → (Nat → Int32) → (Nat → Int32) → (Nat → Int32) → (Int32) → (Int32) → (Nat → Int32) → (Nat → Int32) → (Int32) → (Int32) → (Nat → Int32) → (Nat → Int32) → Prop} (hC : CB 1 td) (hR : R3 rvf_deeds rva_kinds rva_firsts rva_seconds td) (hc : iv 0 40 rvf_deeds) (hp : ∀ (nv1f_deeds : Int32) (nv1a_kinds : Nat → Int32) (nv1a_firsts : Nat → Int32) (nv1a_seconds : Nat → Int32), SL 1 1 (tmk (T.2 0) len fault place (upd (T.2 1) 1 (cmx (T.2 1 1) 1)) (T.1 3) (T.1 4) (T.1 5) (T.1 6) (T.1 7) (T.1 8) (T.1 9) (T.2 2) (T.2 3) (T.2 4) (T.2 5) (T.2 6) (T.2 7) (T.2 8) (T.2 9) (T.1 10) (T.1 11) (T.1 12) (T.1 13) (T.1 14) (T.1 15) (T.1 16) (T.2 10) (T.2 11) (T.2 12) (T.2 13) (T.2 14) (T.2 15) (T.2 16) (T.2 17) (T.1 17) (T.2 18) (T.2 19) (T.2 20) nv1f_deeds nv1a_kinds nv1a_firsts nv1a_seconds (T.1 19) (T.2 24) (T.2 25) (T.2 26) (T.1 20) (T.2 27) (T.2 28) (T.2 29) (T.1 21) (T.1 22) (T.2 30) (T.2 31) (T.1 23) (T.1 24) (T.2 32) (T.2 33)) td → sameB 1 1 T (tmk (T.2 0) len fault place (upd (T.2 1) 1 (cmx (T.2 1 1) 1)) (T.1 3) (T.1 4) (T.1 5) (T.1 6) (T.1 7) (T.1 8) (T.1 9) (T.2 2) (T.2 3) (T.2 4) (T.2 5) (T.2 6) (T.2 7) (T.2 8) (T.2 9) (T.1 10) (T.1 11) (T.1 12) (T.1 13) (T.1 14) (T.1 15) (T.1 16) (T.2 10) (T.2 11) (T.2 12) (T.2 13) (T.2 14) (T.2 15) (T.2 16) (T.2 17) (T.1 17) (T.2 18) (T.2 19) (T.2 20) nv1f_deeds nv1a_kinds nv1a_firsts nv1a_seconds (T.1 19) (T.2 24) (T.2 25) (T.2 26) (T.1 20) (T.2 27) (T.2 28) (T.2 29) (T.1 21) (T.1 22) (T.2 30) (T.2 31) (T.1 23) (T.1 24) (T.2 32) (T.2 33)) → post (upd (T.2 1) 1 (cmx (T.2 1 1) 1)) (T.1 3) (T.1 4) (T.1 5) (T.1 6) (T.1 7) (T.1 8) (T.1 9) (T.2 2) (T.2 3) (T.2 4) (T.2 5) (T.2 6) (T.2 7) (T.2 8) (T.2 9) (T.1 10) (T.1 11) (T.1 12) (T.1 13) (T.1 14) (T.1 15) (T.1 16) (T.2 10) (T.2 11) (T.2 12) (T.2 13) (T.2 14) (T.2 15) (T.2 16) (T.2 17) (T.1 17) (T.2 18) (T.2 19) (T.2 20) nv1f_deeds nv1a_kinds nv1a_firsts nv1a_seconds (T.1 19) (T.2 24) (T.2 25) (T.2 26) (T.1 20) (T.2 27) (T.2 28) (T.2 29) (T.1 21) (T.1 22) (T.2 30) (T.2 31) (T.1 23) (T.1 24) (T.2 32) (T.2 33)) : q_wx_X10_keep_0 (T.2 1) (T.1 3) (T.1 4) (T.1 5) (T.1 6) (T.1 7) (T.1 8) (T.1 9) (T.2 2) (T.2 3) (T.2 4) (T.2 5) (T.2 6) (T.2 7) (T.2 8) (T.2 9) (T.1 10) (T.1 11) (T.1 12) (T.1 13) (T.1 14) (T.1 15) (T.1 16) (T.2 10) (T.2 11) (T.2 12) (T.2 13) (T.2 14) (T.2 15) (T.2 16) (T.2 17) (T.1 17) (T.2 18) (T.2 19) (T.2 20) (T.1 18) (T.2 21) (T.2 22) (T.2 23) (T.1 19) (T.2 24) (T.2 25) (T.2 26) (T.1 20) (T.2 27) (T.2 28) (T.2 29) (T.1 21) (T.1 22) (T.2 30) (T.2 31) (T.1 23) (T.1 24) (T.2 32) (T.2 33) rlf_huts rlf_singers rlf_villages rlf_dams rlf_echoes rlf_deep rlf_slide rla_heights rla_ladders rla_minutes rla_echoFrom rla_echoTo rla_homes rla_talls rla_known rvf_deeds rva_kinds rva_firsts rva_seconds rsf_facts rsa_heard rsa_huts rsa_minutes rcf_voices rcf_step rca_parts rca_heights (nI 1) (nI 1) post := by
  refine ⟨fun _ => ⟨fun h9 => absurd h9 (by decide +kernel), fun _ => ⟨vp_in_nI (by decide) (by decide), fun h9 => absurd h9 (by decide +kernel), fun _ => ?_⟩⟩, fun h9 => absurd h9 (by decide +kernel)⟩
  refine e_vv hc (fun t_a_kinds t_a_firsts t_a_seconds c_a_kinds c_a_firsts c_a_seconds => ?_)
  refine ⟨vp_in_nI (by decide) (by decide), fun v ev => ⟨vp_in_nI (by decide) (by decide), fun cn en => ?_⟩⟩
  have e9 : Int32.toNatClampNeg (nI 1) = 1 := rfl
  rw [e9] at ev en
  rw [en, ev]
  exact hp rvf_deeds t_a_kinds t_a_firsts t_a_seconds (R3_cp hR c_a_kinds c_a_firsts c_a_seconds) same_11
set_option maxRecDepth 40000 in
set_option maxHeartbeats 4000000 in
theorem e_keep_20 {T : TT} {rlf_huts rlf_singers rlf_villages rlf_dams rlf_echoes rlf_deep rlf_slide rvf_deeds rsf_facts rcf_voices rcf_step : Int32} {rla_heights rla_ladders rla_minutes rla_echoFrom rla_echoTo rla_homes rla_talls rla_known rva_kinds rva_firsts rva_seconds rsa_heard rsa_huts rsa_minutes rca_parts rca_heights : Nat → Int32} {td : Nat → Int32} {len fault place : Int32} {post : (Nat → Int32) → (Int32) → (Int32) → (Int32) → (Int32) → (Int32) → (Int32) → (Int32) → (Nat → Int32) → (Nat → Int32) → (Nat → Int32) → (Nat → Int32) → (Nat → Int32) → (Nat → Int32) → (Nat → Int32) → (Nat → Int32) → (Int32) → (Int32) → (Int32) → (Int32) → (Int32) → (Int32) → (Int32) → (Nat → Int32) → (Nat → Int32) → (Nat → Int32) → (Nat → Int32) → (Nat → Int32) → (Nat → Int32) → (Nat → Int32) → (Nat → Int32) → (Int32) → (Nat → Int32) → (Nat → Int32) → (Nat → Int32) → (Int32) → (Nat → Int32) → (Nat → Int32) → (Nat → Int32) → (Int32) → (Nat → Int32) → (Nat → Int32) → (Nat → Int32) → (Int32) → (Nat → Int32) → (Nat → Int32) → (Nat → Int32) → (Int32) → (Int32) → (Nat → Int32) → (Nat → Int32) → (Int32) → (Int32) → (Nat → Int32) → (Nat → Int32) → Prop} (hC : CB 2 td) (hR : R3 rsf_facts rsa_heard rsa_huts rsa_minutes td) (hc : iv 0 10 rsf_facts) (hp : ∀ (ns0f_facts : Int32) (ns0a_heard : Nat → Int32) (ns0a_huts : Nat → Int32) (ns0a_minutes : Nat → Int32), SL 2 0 (tmk (T.2 0) len fault place (upd (T.2 1) 2 (cmx (T.2 1 2) 0)) (T.1 3) (T.1 4) (T.1 5) (T.1 6) (T.1 7) (T.1 8) (T.1 9) (T.2 2) (T.2 3) (T.2 4) (T.2 5) (T.2 6) (T.2 7) (T.2 8) (T.2 9) (T.1 10) (T.1 11) (T.1 12) (T.1 13) (T.1 14) (T.1 15) (T.1 16) (T.2 10) (T.2 11) (T.2 12) (T.2 13) (T.2 14) (T.2 15) (T.2 16) (T.2 17) (T.1 17) (T.2 18) (T.2 19) (T.2 20) (T.1 18) (T.2 21) (T.2 22) (T.2 23) ns0f_facts ns0a_heard ns0a_huts ns0a_minutes (T.1 20) (T.2 27) (T.2 28) (T.2 29) (T.1 21) (T.1 22) (T.2 30) (T.2 31) (T.1 23) (T.1 24) (T.2 32) (T.2 33)) td → sameB 2 0 T (tmk (T.2 0) len fault place (upd (T.2 1) 2 (cmx (T.2 1 2) 0)) (T.1 3) (T.1 4) (T.1 5) (T.1 6) (T.1 7) (T.1 8) (T.1 9) (T.2 2) (T.2 3) (T.2 4) (T.2 5) (T.2 6) (T.2 7) (T.2 8) (T.2 9) (T.1 10) (T.1 11) (T.1 12) (T.1 13) (T.1 14) (T.1 15) (T.1 16) (T.2 10) (T.2 11) (T.2 12) (T.2 13) (T.2 14) (T.2 15) (T.2 16) (T.2 17) (T.1 17) (T.2 18) (T.2 19) (T.2 20) (T.1 18) (T.2 21) (T.2 22) (T.2 23) ns0f_facts ns0a_heard ns0a_huts ns0a_minutes (T.1 20) (T.2 27) (T.2 28) (T.2 29) (T.1 21) (T.1 22) (T.2 30) (T.2 31) (T.1 23) (T.1 24) (T.2 32) (T.2 33)) → post (upd (T.2 1) 2 (cmx (T.2 1 2) 0)) (T.1 3) (T.1 4) (T.1 5) (T.1 6) (T.1 7) (T.1 8) (T.1 9) (T.2 2) (T.2 3) (T.2 4) (T.2 5) (T.2 6) (T.2 7) (T.2 8) (T.2 9) (T.1 10) (T.1 11) (T.1 12) (T.1 13) (T.1 14) (T.1 15) (T.1 16) (T.2 10) (T.2 11) (T.2 12) (T.2 13) (T.2 14) (T.2 15) (T.2 16) (T.2 17) (T.1 17) (T.2 18) (T.2 19) (T.2 20) (T.1 18) (T.2 21) (T.2 22) (T.2 23) ns0f_facts ns0a_heard ns0a_huts ns0a_minutes (T.1 20) (T.2 27) (T.2 28) (T.2 29) (T.1 21) (T.1 22) (T.2 30) (T.2 31) (T.1 23) (T.1 24) (T.2 32) (T.2 33)) : q_wx_X10_keep_0 (T.2 1) (T.1 3) (T.1 4) (T.1 5) (T.1 6) (T.1 7) (T.1 8) (T.1 9) (T.2 2) (T.2 3) (T.2 4) (T.2 5) (T.2 6) (T.2 7) (T.2 8) (T.2 9) (T.1 10) (T.1 11) (T.1 12) (T.1 13) (T.1 14) (T.1 15) (T.1 16) (T.2 10) (T.2 11) (T.2 12) (T.2 13) (T.2 14) (T.2 15) (T.2 16) (T.2 17) (T.1 17) (T.2 18) (T.2 19) (T.2 20) (T.1 18) (T.2 21) (T.2 22) (T.2 23) (T.1 19) (T.2 24) (T.2 25) (T.2 26) (T.1 20) (T.2 27) (T.2 28) (T.2 29) (T.1 21) (T.1 22) (T.2 30) (T.2 31) (T.1 23) (T.1 24) (T.2 32) (T.2 33) rlf_huts rlf_singers rlf_villages rlf_dams rlf_echoes rlf_deep rlf_slide rla_heights rla_ladders rla_minutes rla_echoFrom rla_echoTo rla_homes rla_talls rla_known rvf_deeds rva_kinds rva_firsts rva_seconds rsf_facts rsa_heard rsa_huts rsa_minutes rcf_voices rcf_step rca_parts rca_heights (nI 2) (nI 0) post := by
  refine ⟨fun _ => ⟨fun _ => ⟨fun h9 => absurd h9 (by decide +kernel), fun _ => ⟨vp_in_nI (by decide) (by decide), fun _ => ?_, fun h9 => absurd h9 (by decide +kernel)⟩⟩, fun h9 => absurd h9 (by decide +kernel)⟩, fun h9 => absurd h9 (by decide +kernel)⟩
  refine e_ss hc (fun t_a_heard t_a_huts t_a_minutes c_a_heard c_a_huts c_a_minutes => ?_)
  refine ⟨vp_in_nI (by decide) (by decide), fun v ev => ⟨vp_in_nI (by decide) (by decide), fun cn en => ?_⟩⟩
  have e9 : Int32.toNatClampNeg (nI 2) = 2 := rfl
  rw [e9] at ev en
  rw [en, ev]
  exact hp rsf_facts t_a_heard t_a_huts t_a_minutes (R3_cp hR c_a_heard c_a_huts c_a_minutes) same_20
set_option maxRecDepth 40000 in
set_option maxHeartbeats 4000000 in
theorem e_keep_21 {T : TT} {rlf_huts rlf_singers rlf_villages rlf_dams rlf_echoes rlf_deep rlf_slide rvf_deeds rsf_facts rcf_voices rcf_step : Int32} {rla_heights rla_ladders rla_minutes rla_echoFrom rla_echoTo rla_homes rla_talls rla_known rva_kinds rva_firsts rva_seconds rsa_heard rsa_huts rsa_minutes rca_parts rca_heights : Nat → Int32} {td : Nat → Int32} {len fault place : Int32} {post : (Nat → Int32) → (Int32) → (Int32) → (Int32) → (Int32) → (Int32) → (Int32) → (Int32) → (Nat → Int32) → (Nat → Int32) → (Nat → Int32) → (Nat → Int32) → (Nat → Int32) → (Nat → Int32) → (Nat → Int32) → (Nat → Int32) → (Int32) → (Int32) → (Int32) → (Int32) → (Int32) → (Int32) → (Int32) → (Nat → Int32) → (Nat → Int32) → (Nat → Int32) → (Nat → Int32) → (Nat → Int32) → (Nat → Int32) → (Nat → Int32) → (Nat → Int32) → (Int32) → (Nat → Int32) → (Nat → Int32) → (Nat → Int32) → (Int32) → (Nat → Int32) → (Nat → Int32) → (Nat → Int32) → (Int32) → (Nat → Int32) → (Nat → Int32) → (Nat → Int32) → (Int32) → (Nat → Int32) → (Nat → Int32) → (Nat → Int32) → (Int32) → (Int32) → (Nat → Int32) → (Nat → Int32) → (Int32) → (Int32) → (Nat → Int32) → (Nat → Int32) → Prop} (hC : CB 2 td) (hR : R3 rsf_facts rsa_heard rsa_huts rsa_minutes td) (hc : iv 0 10 rsf_facts) (hp : ∀ (ns1f_facts : Int32) (ns1a_heard : Nat → Int32) (ns1a_huts : Nat → Int32) (ns1a_minutes : Nat → Int32), SL 2 1 (tmk (T.2 0) len fault place (upd (T.2 1) 2 (cmx (T.2 1 2) 1)) (T.1 3) (T.1 4) (T.1 5) (T.1 6) (T.1 7) (T.1 8) (T.1 9) (T.2 2) (T.2 3) (T.2 4) (T.2 5) (T.2 6) (T.2 7) (T.2 8) (T.2 9) (T.1 10) (T.1 11) (T.1 12) (T.1 13) (T.1 14) (T.1 15) (T.1 16) (T.2 10) (T.2 11) (T.2 12) (T.2 13) (T.2 14) (T.2 15) (T.2 16) (T.2 17) (T.1 17) (T.2 18) (T.2 19) (T.2 20) (T.1 18) (T.2 21) (T.2 22) (T.2 23) (T.1 19) (T.2 24) (T.2 25) (T.2 26) ns1f_facts ns1a_heard ns1a_huts ns1a_minutes (T.1 21) (T.1 22) (T.2 30) (T.2 31) (T.1 23) (T.1 24) (T.2 32) (T.2 33)) td → sameB 2 1 T (tmk (T.2 0) len fault place (upd (T.2 1) 2 (cmx (T.2 1 2) 1)) (T.1 3) (T.1 4) (T.1 5) (T.1 6) (T.1 7) (T.1 8) (T.1 9) (T.2 2) (T.2 3) (T.2 4) (T.2 5) (T.2 6) (T.2 7) (T.2 8) (T.2 9) (T.1 10) (T.1 11) (T.1 12) (T.1 13) (T.1 14) (T.1 15) (T.1 16) (T.2 10) (T.2 11) (T.2 12) (T.2 13) (T.2 14) (T.2 15) (T.2 16) (T.2 17) (T.1 17) (T.2 18) (T.2 19) (T.2 20) (T.1 18) (T.2 21) (T.2 22) (T.2 23) (T.1 19) (T.2 24) (T.2 25) (T.2 26) ns1f_facts ns1a_heard ns1a_huts ns1a_minutes (T.1 21) (T.1 22) (T.2 30) (T.2 31) (T.1 23) (T.1 24) (T.2 32) (T.2 33)) → post (upd (T.2 1) 2 (cmx (T.2 1 2) 1)) (T.1 3) (T.1 4) (T.1 5) (T.1 6) (T.1 7) (T.1 8) (T.1 9) (T.2 2) (T.2 3) (T.2 4) (T.2 5) (T.2 6) (T.2 7) (T.2 8) (T.2 9) (T.1 10) (T.1 11) (T.1 12) (T.1 13) (T.1 14) (T.1 15) (T.1 16) (T.2 10) (T.2 11) (T.2 12) (T.2 13) (T.2 14) (T.2 15) (T.2 16) (T.2 17) (T.1 17) (T.2 18) (T.2 19) (T.2 20) (T.1 18) (T.2 21) (T.2 22) (T.2 23) (T.1 19) (T.2 24) (T.2 25) (T.2 26) ns1f_facts ns1a_heard ns1a_huts ns1a_minutes (T.1 21) (T.1 22) (T.2 30) (T.2 31) (T.1 23) (T.1 24) (T.2 32) (T.2 33)) : q_wx_X10_keep_0 (T.2 1) (T.1 3) (T.1 4) (T.1 5) (T.1 6) (T.1 7) (T.1 8) (T.1 9) (T.2 2) (T.2 3) (T.2 4) (T.2 5) (T.2 6) (T.2 7) (T.2 8) (T.2 9) (T.1 10) (T.1 11) (T.1 12) (T.1 13) (T.1 14) (T.1 15) (T.1 16) (T.2 10) (T.2 11) (T.2 12) (T.2 13) (T.2 14) (T.2 15) (T.2 16) (T.2 17) (T.1 17) (T.2 18) (T.2 19) (T.2 20) (T.1 18) (T.2 21) (T.2 22) (T.2 23) (T.1 19) (T.2 24) (T.2 25) (T.2 26) (T.1 20) (T.2 27) (T.2 28) (T.2 29) (T.1 21) (T.1 22) (T.2 30) (T.2 31) (T.1 23) (T.1 24) (T.2 32) (T.2 33) rlf_huts rlf_singers rlf_villages rlf_dams rlf_echoes rlf_deep rlf_slide rla_heights rla_ladders rla_minutes rla_echoFrom rla_echoTo rla_homes rla_talls rla_known rvf_deeds rva_kinds rva_firsts rva_seconds rsf_facts rsa_heard rsa_huts rsa_minutes rcf_voices rcf_step rca_parts rca_heights (nI 2) (nI 1) post := by
  refine ⟨fun _ => ⟨fun _ => ⟨fun h9 => absurd h9 (by decide +kernel), fun _ => ⟨vp_in_nI (by decide) (by decide), fun h9 => absurd h9 (by decide +kernel), fun _ => ?_⟩⟩, fun h9 => absurd h9 (by decide +kernel)⟩, fun h9 => absurd h9 (by decide +kernel)⟩
  refine e_ss hc (fun t_a_heard t_a_huts t_a_minutes c_a_heard c_a_huts c_a_minutes => ?_)
  refine ⟨vp_in_nI (by decide) (by decide), fun v ev => ⟨vp_in_nI (by decide) (by decide), fun cn en => ?_⟩⟩
  have e9 : Int32.toNatClampNeg (nI 2) = 2 := rfl
  rw [e9] at ev en
  rw [en, ev]
  exact hp rsf_facts t_a_heard t_a_huts t_a_minutes (R3_cp hR c_a_heard c_a_huts c_a_minutes) same_21
set_option maxRecDepth 40000 in
set_option maxHeartbeats 4000000 in
theorem e_keep_30 {T : TT} {rlf_huts rlf_singers rlf_villages rlf_dams rlf_echoes rlf_deep rlf_slide rvf_deeds rsf_facts rcf_voices rcf_step : Int32} {rla_heights rla_ladders rla_minutes rla_echoFrom rla_echoTo rla_homes rla_talls rla_known rva_kinds rva_firsts rva_seconds rsa_heard rsa_huts rsa_minutes rca_parts rca_heights : Nat → Int32} {td : Nat → Int32} {len fault place : Int32} {post : (Nat → Int32) → (Int32) → (Int32) → (Int32) → (Int32) → (Int32) → (Int32) → (Int32) → (Nat → Int32) → (Nat → Int32) → (Nat → Int32) → (Nat → Int32) → (Nat → Int32) → (Nat → Int32) → (Nat → Int32) → (Nat → Int32) → (Int32) → (Int32) → (Int32) → (Int32) → (Int32) → (Int32) → (Int32) → (Nat → Int32) → (Nat → Int32) → (Nat → Int32) → (Nat → Int32) → (Nat → Int32) → (Nat → Int32) → (Nat → Int32) → (Nat → Int32) → (Int32) → (Nat → Int32) → (Nat → Int32) → (Nat → Int32) → (Int32) → (Nat → Int32) → (Nat → Int32) → (Nat → Int32) → (Int32) → (Nat → Int32) → (Nat → Int32) → (Nat → Int32) → (Int32) → (Nat → Int32) → (Nat → Int32) → (Nat → Int32) → (Int32) → (Int32) → (Nat → Int32) → (Nat → Int32) → (Int32) → (Int32) → (Nat → Int32) → (Nat → Int32) → Prop} (hC : CB 3 td) (hR : CDR rcf_voices rcf_step rca_parts rca_heights td) (hc : iv 0 9 rcf_voices) (hp : ∀ (nc0f_voices : Int32) (nc0f_step : Int32) (nc0a_parts : Nat → Int32) (nc0a_heights : Nat → Int32), SL 3 0 (tmk (T.2 0) len fault place (upd (T.2 1) 3 (cmx (T.2 1 3) 0)) (T.1 3) (T.1 4) (T.1 5) (T.1 6) (T.1 7) (T.1 8) (T.1 9) (T.2 2) (T.2 3) (T.2 4) (T.2 5) (T.2 6) (T.2 7) (T.2 8) (T.2 9) (T.1 10) (T.1 11) (T.1 12) (T.1 13) (T.1 14) (T.1 15) (T.1 16) (T.2 10) (T.2 11) (T.2 12) (T.2 13) (T.2 14) (T.2 15) (T.2 16) (T.2 17) (T.1 17) (T.2 18) (T.2 19) (T.2 20) (T.1 18) (T.2 21) (T.2 22) (T.2 23) (T.1 19) (T.2 24) (T.2 25) (T.2 26) (T.1 20) (T.2 27) (T.2 28) (T.2 29) nc0f_voices nc0f_step nc0a_parts nc0a_heights (T.1 23) (T.1 24) (T.2 32) (T.2 33)) td → sameB 3 0 T (tmk (T.2 0) len fault place (upd (T.2 1) 3 (cmx (T.2 1 3) 0)) (T.1 3) (T.1 4) (T.1 5) (T.1 6) (T.1 7) (T.1 8) (T.1 9) (T.2 2) (T.2 3) (T.2 4) (T.2 5) (T.2 6) (T.2 7) (T.2 8) (T.2 9) (T.1 10) (T.1 11) (T.1 12) (T.1 13) (T.1 14) (T.1 15) (T.1 16) (T.2 10) (T.2 11) (T.2 12) (T.2 13) (T.2 14) (T.2 15) (T.2 16) (T.2 17) (T.1 17) (T.2 18) (T.2 19) (T.2 20) (T.1 18) (T.2 21) (T.2 22) (T.2 23) (T.1 19) (T.2 24) (T.2 25) (T.2 26) (T.1 20) (T.2 27) (T.2 28) (T.2 29) nc0f_voices nc0f_step nc0a_parts nc0a_heights (T.1 23) (T.1 24) (T.2 32) (T.2 33)) → post (upd (T.2 1) 3 (cmx (T.2 1 3) 0)) (T.1 3) (T.1 4) (T.1 5) (T.1 6) (T.1 7) (T.1 8) (T.1 9) (T.2 2) (T.2 3) (T.2 4) (T.2 5) (T.2 6) (T.2 7) (T.2 8) (T.2 9) (T.1 10) (T.1 11) (T.1 12) (T.1 13) (T.1 14) (T.1 15) (T.1 16) (T.2 10) (T.2 11) (T.2 12) (T.2 13) (T.2 14) (T.2 15) (T.2 16) (T.2 17) (T.1 17) (T.2 18) (T.2 19) (T.2 20) (T.1 18) (T.2 21) (T.2 22) (T.2 23) (T.1 19) (T.2 24) (T.2 25) (T.2 26) (T.1 20) (T.2 27) (T.2 28) (T.2 29) nc0f_voices nc0f_step nc0a_parts nc0a_heights (T.1 23) (T.1 24) (T.2 32) (T.2 33)) : q_wx_X10_keep_0 (T.2 1) (T.1 3) (T.1 4) (T.1 5) (T.1 6) (T.1 7) (T.1 8) (T.1 9) (T.2 2) (T.2 3) (T.2 4) (T.2 5) (T.2 6) (T.2 7) (T.2 8) (T.2 9) (T.1 10) (T.1 11) (T.1 12) (T.1 13) (T.1 14) (T.1 15) (T.1 16) (T.2 10) (T.2 11) (T.2 12) (T.2 13) (T.2 14) (T.2 15) (T.2 16) (T.2 17) (T.1 17) (T.2 18) (T.2 19) (T.2 20) (T.1 18) (T.2 21) (T.2 22) (T.2 23) (T.1 19) (T.2 24) (T.2 25) (T.2 26) (T.1 20) (T.2 27) (T.2 28) (T.2 29) (T.1 21) (T.1 22) (T.2 30) (T.2 31) (T.1 23) (T.1 24) (T.2 32) (T.2 33) rlf_huts rlf_singers rlf_villages rlf_dams rlf_echoes rlf_deep rlf_slide rla_heights rla_ladders rla_minutes rla_echoFrom rla_echoTo rla_homes rla_talls rla_known rvf_deeds rva_kinds rva_firsts rva_seconds rsf_facts rsa_heard rsa_huts rsa_minutes rcf_voices rcf_step rca_parts rca_heights (nI 3) (nI 0) post := by
  refine ⟨fun _ => ⟨fun _ => ⟨fun _ => ⟨vp_in_nI (by decide) (by decide), fun _ => ?_, fun h9 => absurd h9 (by decide +kernel)⟩, fun h9 => absurd h9 (by decide +kernel)⟩, fun h9 => absurd h9 (by decide +kernel)⟩, fun h9 => absurd h9 (by decide +kernel)⟩
  refine e_cc hc (fun t_a_parts t_a_heights c_a_parts c_a_heights => ?_)
  refine ⟨vp_in_nI (by decide) (by decide), fun v ev => ⟨vp_in_nI (by decide) (by decide), fun cn en => ?_⟩⟩
  have e9 : Int32.toNatClampNeg (nI 3) = 3 := rfl
  rw [e9] at ev en
  rw [en, ev]
  exact hp rcf_voices rcf_step t_a_parts t_a_heights (CDR_cp hR c_a_parts c_a_heights) same_30
set_option maxRecDepth 40000 in
set_option maxHeartbeats 4000000 in
theorem e_keep_31 {T : TT} {rlf_huts rlf_singers rlf_villages rlf_dams rlf_echoes rlf_deep rlf_slide rvf_deeds rsf_facts rcf_voices rcf_step : Int32} {rla_heights rla_ladders rla_minutes rla_echoFrom rla_echoTo rla_homes rla_talls rla_known rva_kinds rva_firsts rva_seconds rsa_heard rsa_huts rsa_minutes rca_parts rca_heights : Nat → Int32} {td : Nat → Int32} {len fault place : Int32} {post : (Nat → Int32) → (Int32) → (Int32) → (Int32) → (Int32) → (Int32) → (Int32) → (Int32) → (Nat → Int32) → (Nat → Int32) → (Nat → Int32) → (Nat → Int32) → (Nat → Int32) → (Nat → Int32) → (Nat → Int32) → (Nat → Int32) → (Int32) → (Int32) → (Int32) → (Int32) → (Int32) → (Int32) → (Int32) → (Nat → Int32) → (Nat → Int32) → (Nat → Int32) → (Nat → Int32) → (Nat → Int32) → (Nat → Int32) → (Nat → Int32) → (Nat → Int32) → (Int32) → (Nat → Int32) → (Nat → Int32) → (Nat → Int32) → (Int32) → (Nat → Int32) → (Nat → Int32) → (Nat → Int32) → (Int32) → (Nat → Int32) → (Nat → Int32) → (Nat → Int32) → (Int32) → (Nat → Int32) → (Nat → Int32) → (Nat → Int32) → (Int32) → (Int32) → (Nat → Int32) → (Nat → Int32) → (Int32) → (Int32) → (Nat → Int32) → (Nat → Int32) → Prop} (hC : CB 3 td) (hR : CDR rcf_voices rcf_step rca_parts rca_heights td) (hc : iv 0 9 rcf_voices) (hp : ∀ (nc1f_voices : Int32) (nc1f_step : Int32) (nc1a_parts : Nat → Int32) (nc1a_heights : Nat → Int32), SL 3 1 (tmk (T.2 0) len fault place (upd (T.2 1) 3 (cmx (T.2 1 3) 1)) (T.1 3) (T.1 4) (T.1 5) (T.1 6) (T.1 7) (T.1 8) (T.1 9) (T.2 2) (T.2 3) (T.2 4) (T.2 5) (T.2 6) (T.2 7) (T.2 8) (T.2 9) (T.1 10) (T.1 11) (T.1 12) (T.1 13) (T.1 14) (T.1 15) (T.1 16) (T.2 10) (T.2 11) (T.2 12) (T.2 13) (T.2 14) (T.2 15) (T.2 16) (T.2 17) (T.1 17) (T.2 18) (T.2 19) (T.2 20) (T.1 18) (T.2 21) (T.2 22) (T.2 23) (T.1 19) (T.2 24) (T.2 25) (T.2 26) (T.1 20) (T.2 27) (T.2 28) (T.2 29) (T.1 21) (T.1 22) (T.2 30) (T.2 31) nc1f_voices nc1f_step nc1a_parts nc1a_heights) td → sameB 3 1 T (tmk (T.2 0) len fault place (upd (T.2 1) 3 (cmx (T.2 1 3) 1)) (T.1 3) (T.1 4) (T.1 5) (T.1 6) (T.1 7) (T.1 8) (T.1 9) (T.2 2) (T.2 3) (T.2 4) (T.2 5) (T.2 6) (T.2 7) (T.2 8) (T.2 9) (T.1 10) (T.1 11) (T.1 12) (T.1 13) (T.1 14) (T.1 15) (T.1 16) (T.2 10) (T.2 11) (T.2 12) (T.2 13) (T.2 14) (T.2 15) (T.2 16) (T.2 17) (T.1 17) (T.2 18) (T.2 19) (T.2 20) (T.1 18) (T.2 21) (T.2 22) (T.2 23) (T.1 19) (T.2 24) (T.2 25) (T.2 26) (T.1 20) (T.2 27) (T.2 28) (T.2 29) (T.1 21) (T.1 22) (T.2 30) (T.2 31) nc1f_voices nc1f_step nc1a_parts nc1a_heights) → post (upd (T.2 1) 3 (cmx (T.2 1 3) 1)) (T.1 3) (T.1 4) (T.1 5) (T.1 6) (T.1 7) (T.1 8) (T.1 9) (T.2 2) (T.2 3) (T.2 4) (T.2 5) (T.2 6) (T.2 7) (T.2 8) (T.2 9) (T.1 10) (T.1 11) (T.1 12) (T.1 13) (T.1 14) (T.1 15) (T.1 16) (T.2 10) (T.2 11) (T.2 12) (T.2 13) (T.2 14) (T.2 15) (T.2 16) (T.2 17) (T.1 17) (T.2 18) (T.2 19) (T.2 20) (T.1 18) (T.2 21) (T.2 22) (T.2 23) (T.1 19) (T.2 24) (T.2 25) (T.2 26) (T.1 20) (T.2 27) (T.2 28) (T.2 29) (T.1 21) (T.1 22) (T.2 30) (T.2 31) nc1f_voices nc1f_step nc1a_parts nc1a_heights) : q_wx_X10_keep_0 (T.2 1) (T.1 3) (T.1 4) (T.1 5) (T.1 6) (T.1 7) (T.1 8) (T.1 9) (T.2 2) (T.2 3) (T.2 4) (T.2 5) (T.2 6) (T.2 7) (T.2 8) (T.2 9) (T.1 10) (T.1 11) (T.1 12) (T.1 13) (T.1 14) (T.1 15) (T.1 16) (T.2 10) (T.2 11) (T.2 12) (T.2 13) (T.2 14) (T.2 15) (T.2 16) (T.2 17) (T.1 17) (T.2 18) (T.2 19) (T.2 20) (T.1 18) (T.2 21) (T.2 22) (T.2 23) (T.1 19) (T.2 24) (T.2 25) (T.2 26) (T.1 20) (T.2 27) (T.2 28) (T.2 29) (T.1 21) (T.1 22) (T.2 30) (T.2 31) (T.1 23) (T.1 24) (T.2 32) (T.2 33) rlf_huts rlf_singers rlf_villages rlf_dams rlf_echoes rlf_deep rlf_slide rla_heights rla_ladders rla_minutes rla_echoFrom rla_echoTo rla_homes rla_talls rla_known rvf_deeds rva_kinds rva_firsts rva_seconds rsf_facts rsa_heard rsa_huts rsa_minutes rcf_voices rcf_step rca_parts rca_heights (nI 3) (nI 1) post := by
  refine ⟨fun _ => ⟨fun _ => ⟨fun _ => ⟨vp_in_nI (by decide) (by decide), fun h9 => absurd h9 (by decide +kernel), fun _ => ?_⟩, fun h9 => absurd h9 (by decide +kernel)⟩, fun h9 => absurd h9 (by decide +kernel)⟩, fun h9 => absurd h9 (by decide +kernel)⟩
  refine e_cc hc (fun t_a_parts t_a_heights c_a_parts c_a_heights => ?_)
  refine ⟨vp_in_nI (by decide) (by decide), fun v ev => ⟨vp_in_nI (by decide) (by decide), fun cn en => ?_⟩⟩
  have e9 : Int32.toNatClampNeg (nI 3) = 3 := rfl
  rw [e9] at ev en
  rw [en, ev]
  exact hp rcf_voices rcf_step t_a_parts t_a_heights (CDR_cp hR c_a_parts c_a_heights) same_31
end
section
theorem xTX_mk {T T' : TT} {a1 a2 r : Int32} {o k : Nat} (ho : o < 4) (hk : k < 2) (e : a1 = nI o) (hN : NUM (T.2 1 o) a2 k) (h0 : T'.1 0 = 0) (ht : T'.2 0 = T.2 0) (h1 : T'.1 1 = (TXr T o).1) (h2 : T'.1 2 = (TXr T o).2.1) (h3 : ¬ (TXr T o).1 = 0 → r = -1 ∧ T'.2 1 = T.2 1 ∧ sameT T T') (h4 : (TXr T o).1 = 0 → r = nI k ∧ T'.2 1 = upd (T.2 1) o (cmx (T.2 1 o) k) ∧ SL o k T' (TXr T o).2.2 ∧ sameB o k T T') : xTX T T' a1 a2 r := by
  refine ⟨h0, ht, fun hno => absurd ⟨o, k, ho, hk, e, hN⟩ hno, fun o' k' ho' hk' e' hN' => ?_⟩
  have eo : o = o' := (nI_eq (by omega) (by omega)).mp (e.symm.trans e')
  subst eo
  have ek := NUM_un hk hk' hN hN'
  subst ek
  exact ⟨h1, h2, h3, h4⟩
theorem nI_nm2 {k : Nat} (hk : k < 2 ^ 31) : ¬ nI k = -2 := fun h => by
  have h1 := congrArg Int32.toInt h
  rw [nI_toInt hk] at h1
  have : (-2 : Int32).toInt = -2 := rfl
  omega
set_option maxRecDepth 40000 in
set_option maxHeartbeats 4000000 in
theorem e_x_text {T : TT} {rlf_huts rlf_singers rlf_villages rlf_dams rlf_echoes rlf_deep rlf_slide rvf_deeds rsf_facts rcf_voices rcf_step rf_fault rf_faultPlace rf_length rf_behind rf_kind rf_first rf_value rf_hutsToldOf rf_singersToldOf : Int32} {rla_heights rla_ladders rla_minutes rla_echoFrom rla_echoTo rla_homes rla_talls rla_known rva_kinds rva_firsts rva_seconds rsa_heard rsa_huts rsa_minutes rca_parts rca_heights ra_numbers ra_tape : Nat → Int32} {x1 x2 : Int32} {post : Int32 → (Int32) → (Int32) → (Int32) → (Nat → Int32) → (Int32) → (Int32) → (Int32) → (Int32) → (Int32) → (Int32) → (Int32) → (Nat → Int32) → (Nat → Int32) → (Nat → Int32) → (Nat → Int32) → (Nat → Int32) → (Nat → Int32) → (Nat → Int32) → (Nat → Int32) → (Int32) → (Int32) → (Int32) → (Int32) → (Int32) → (Int32) → (Int32) → (Nat → Int32) → (Nat → Int32) → (Nat → Int32) → (Nat → Int32) → (Nat → Int32) → (Nat → Int32) → (Nat → Int32) → (Nat → Int32) → (Int32) → (Nat → Int32) → (Nat → Int32) → (Nat → Int32) → (Int32) → (Nat → Int32) → (Nat → Int32) → (Nat → Int32) → (Int32) → (Nat → Int32) → (Nat → Int32) → (Nat → Int32) → (Int32) → (Nat → Int32) → (Nat → Int32) → (Nat → Int32) → (Int32) → (Int32) → (Nat → Int32) → (Nat → Int32) → (Int32) → (Int32) → (Nat → Int32) → (Nat → Int32) → (Int32) → (Int32) → (Int32) → (Int32) → (Int32) → (Int32) → (Int32) → (Nat → Int32) → (Nat → Int32) → (Nat → Int32) → (Nat → Int32) → (Nat → Int32) → (Nat → Int32) → (Nat → Int32) → (Nat → Int32) → (Int32) → (Nat → Int32) → (Nat → Int32) → (Nat → Int32) → (Int32) → (Nat → Int32) → (Nat → Int32) → (Nat → Int32) → (Int32) → (Int32) → (Nat → Int32) → (Nat → Int32) → (Int32) → (Int32) → (Nat → Int32) → (Nat → Int32) → (Int32) → (Int32) → (Int32) → (Int32) → (Int32) → (Int32) → (Int32) → Prop} (hlen : iv 0 600 (T.1 0)) (htape : ∀ j, iv (-128) 127 (T.2 0 j)) (hcnt : ∀ j, iv 0 2 (T.2 1 j)) (hp : ∀ (r : Int32) (nf_length : Int32) (nf_fault : Int32) (nf_place : Int32) (na_counts : Nat → Int32) (nl0f_huts : Int32) (nl0f_singers : Int32) (nl0f_villages : Int32) (nl0f_dams : Int32) (nl0f_echoes : Int32) (nl0f_deep : Int32) (nl0f_slide : Int32) (nl0a_heights : Nat → Int32) (nl0a_ladders : Nat → Int32) (nl0a_minutes : Nat → Int32) (nl0a_echoFrom : Nat → Int32) (nl0a_echoTo : Nat → Int32) (nl0a_homes : Nat → Int32) (nl0a_talls : Nat → Int32) (nl0a_known : Nat → Int32) (nl1f_huts : Int32) (nl1f_singers : Int32) (nl1f_villages : Int32) (nl1f_dams : Int32) (nl1f_echoes : Int32) (nl1f_deep : Int32) (nl1f_slide : Int32) (nl1a_heights : Nat → Int32) (nl1a_ladders : Nat → Int32) (nl1a_minutes : Nat → Int32) (nl1a_echoFrom : Nat → Int32) (nl1a_echoTo : Nat → Int32) (nl1a_homes : Nat → Int32) (nl1a_talls : Nat → Int32) (nl1a_known : Nat → Int32) (nv0f_deeds : Int32) (nv0a_kinds : Nat → Int32) (nv0a_firsts : Nat → Int32) (nv0a_seconds : Nat → Int32) (nv1f_deeds : Int32) (nv1a_kinds : Nat → Int32) (nv1a_firsts : Nat → Int32) (nv1a_seconds : Nat → Int32) (ns0f_facts : Int32) (ns0a_heard : Nat → Int32) (ns0a_huts : Nat → Int32) (ns0a_minutes : Nat → Int32) (ns1f_facts : Int32) (ns1a_heard : Nat → Int32) (ns1a_huts : Nat → Int32) (ns1a_minutes : Nat → Int32) (nc0f_voices : Int32) (nc0f_step : Int32) (nc0a_parts : Nat → Int32) (nc0a_heights : Nat → Int32) (nc1f_voices : Int32) (nc1f_step : Int32) (nc1a_parts : Nat → Int32) (nc1a_heights : Nat → Int32) (rlf_huts' : Int32) (rlf_singers' : Int32) (rlf_villages' : Int32) (rlf_dams' : Int32) (rlf_echoes' : Int32) (rlf_deep' : Int32) (rlf_slide' : Int32) (rla_heights' : Nat → Int32) (rla_ladders' : Nat → Int32) (rla_minutes' : Nat → Int32) (rla_echoFrom' : Nat → Int32) (rla_echoTo' : Nat → Int32) (rla_homes' : Nat → Int32) (rla_talls' : Nat → Int32) (rla_known' : Nat → Int32) (rvf_deeds' : Int32) (rva_kinds' : Nat → Int32) (rva_firsts' : Nat → Int32) (rva_seconds' : Nat → Int32) (rsf_facts' : Int32) (rsa_heard' : Nat → Int32) (rsa_huts' : Nat → Int32) (rsa_minutes' : Nat → Int32) (rcf_voices' : Int32) (rcf_step' : Int32) (rca_parts' : Nat → Int32) (rca_heights' : Nat → Int32) (rf_fault' : Int32) (rf_faultPlace' : Int32) (ra_numbers' : Nat → Int32) (ra_tape' : Nat → Int32) (rf_length' : Int32) (rf_behind' : Int32) (rf_kind' : Int32) (rf_first' : Int32) (rf_value' : Int32) (rf_hutsToldOf' : Int32) (rf_singersToldOf' : Int32), xTX T (tmk (T.2 0) nf_length nf_fault nf_place na_counts nl0f_huts nl0f_singers nl0f_villages nl0f_dams nl0f_echoes nl0f_deep nl0f_slide nl0a_heights nl0a_ladders nl0a_minutes nl0a_echoFrom nl0a_echoTo nl0a_homes nl0a_talls nl0a_known nl1f_huts nl1f_singers nl1f_villages nl1f_dams nl1f_echoes nl1f_deep nl1f_slide nl1a_heights nl1a_ladders nl1a_minutes nl1a_echoFrom nl1a_echoTo nl1a_homes nl1a_talls nl1a_known nv0f_deeds nv0a_kinds nv0a_firsts nv0a_seconds nv1f_deeds nv1a_kinds nv1a_firsts nv1a_seconds ns0f_facts ns0a_heard ns0a_huts ns0a_minutes ns1f_facts ns1a_heard ns1a_huts ns1a_minutes nc0f_voices nc0f_step nc0a_parts nc0a_heights nc1f_voices nc1f_step nc1a_parts nc1a_heights) x1 x2 r → post r nf_length nf_fault nf_place na_counts nl0f_huts nl0f_singers nl0f_villages nl0f_dams nl0f_echoes nl0f_deep nl0f_slide nl0a_heights nl0a_ladders nl0a_minutes nl0a_echoFrom nl0a_echoTo nl0a_homes nl0a_talls nl0a_known nl1f_huts nl1f_singers nl1f_villages nl1f_dams nl1f_echoes nl1f_deep nl1f_slide nl1a_heights nl1a_ladders nl1a_minutes nl1a_echoFrom nl1a_echoTo nl1a_homes nl1a_talls nl1a_known nv0f_deeds nv0a_kinds nv0a_firsts nv0a_seconds nv1f_deeds nv1a_kinds nv1a_firsts nv1a_seconds ns0f_facts ns0a_heard ns0a_huts ns0a_minutes ns1f_facts ns1a_heard ns1a_huts ns1a_minutes nc0f_voices nc0f_step nc0a_parts nc0a_heights nc1f_voices nc1f_step nc1a_parts nc1a_heights rlf_huts' rlf_singers' rlf_villages' rlf_dams' rlf_echoes' rlf_deep' rlf_slide' rla_heights' rla_ladders' rla_minutes' rla_echoFrom' rla_echoTo' rla_homes' rla_talls' rla_known' rvf_deeds' rva_kinds' rva_firsts' rva_seconds' rsf_facts' rsa_heard' rsa_huts' rsa_minutes' rcf_voices' rcf_step' rca_parts' rca_heights' rf_fault' rf_faultPlace' ra_numbers' ra_tape' rf_length' rf_behind' rf_kind' rf_first' rf_value' rf_hutsToldOf' rf_singersToldOf') : q_wx_X10_text_0 (T.2 0) (T.1 0) (T.1 1) (T.1 2) (T.2 1) (T.1 3) (T.1 4) (T.1 5) (T.1 6) (T.1 7) (T.1 8) (T.1 9) (T.2 2) (T.2 3) (T.2 4) (T.2 5) (T.2 6) (T.2 7) (T.2 8) (T.2 9) (T.1 10) (T.1 11) (T.1 12) (T.1 13) (T.1 14) (T.1 15) (T.1 16) (T.2 10) (T.2 11) (T.2 12) (T.2 13) (T.2 14) (T.2 15) (T.2 16) (T.2 17) (T.1 17) (T.2 18) (T.2 19) (T.2 20) (T.1 18) (T.2 21) (T.2 22) (T.2 23) (T.1 19) (T.2 24) (T.2 25) (T.2 26) (T.1 20) (T.2 27) (T.2 28) (T.2 29) (T.1 21) (T.1 22) (T.2 30) (T.2 31) (T.1 23) (T.1 24) (T.2 32) (T.2 33) rlf_huts rlf_singers rlf_villages rlf_dams rlf_echoes rlf_deep rlf_slide rla_heights rla_ladders rla_minutes rla_echoFrom rla_echoTo rla_homes rla_talls rla_known rvf_deeds rva_kinds rva_firsts rva_seconds rsf_facts rsa_heard rsa_huts rsa_minutes rcf_voices rcf_step rca_parts rca_heights rf_fault rf_faultPlace ra_numbers ra_tape rf_length rf_behind rf_kind rf_first rf_value rf_hutsToldOf rf_singersToldOf x1 x2 post := by
  obtain ⟨n, hn, -, hn6, -⟩ := iv_nI hlen (by decide)
  have hcl : (T.1 0).toNatClampNeg = n := by rw [hn]; exact nI_clamp (by omega)
  refine e_numberFor hcnt (fun hno => ⟨fun h => absurd rfl h, fun _ => ?_⟩) (fun o k ho hk e1 hN => ⟨fun _ => ?_, fun h => absurd h (nI_nm2 (by omega))⟩)
  · exact hp (-2) 0 0 (-1) (T.2 1) (T.1 3) (T.1 4) (T.1 5) (T.1 6) (T.1 7) (T.1 8) (T.1 9) (T.2 2) (T.2 3) (T.2 4) (T.2 5) (T.2 6) (T.2 7) (T.2 8) (T.2 9) (T.1 10) (T.1 11) (T.1 12) (T.1 13) (T.1 14) (T.1 15) (T.1 16) (T.2 10) (T.2 11) (T.2 12) (T.2 13) (T.2 14) (T.2 15) (T.2 16) (T.2 17) (T.1 17) (T.2 18) (T.2 19) (T.2 20) (T.1 18) (T.2 21) (T.2 22) (T.2 23) (T.1 19) (T.2 24) (T.2 25) (T.2 26) (T.1 20) (T.2 27) (T.2 28) (T.2 29) (T.1 21) (T.1 22) (T.2 30) (T.2 31) (T.1 23) (T.1 24) (T.2 32) (T.2 33) rlf_huts rlf_singers rlf_villages rlf_dams rlf_echoes rlf_deep rlf_slide rla_heights rla_ladders rla_minutes rla_echoFrom rla_echoTo rla_homes rla_talls rla_known rvf_deeds rva_kinds rva_firsts rva_seconds rsf_facts rsa_heard rsa_huts rsa_minutes rcf_voices rcf_step rca_parts rca_heights rf_fault rf_faultPlace ra_numbers ra_tape rf_length rf_behind rf_kind rf_first rf_value rf_hutsToldOf rf_singersToldOf ⟨rfl, rfl, fun _ => ⟨rfl, rfl, rfl, rfl, same_all⟩, fun o k a b c d => absurd ⟨o, k, a, b, c, d⟩ hno⟩
  · have hTX : TXr T o = tx (nB (T.2 0) n) n o := by unfold TXr; rw [hcl]
    rw [hn, e1]
    refine e_read (B := nB (T.2 0) n) (by omega) (by omega) htape (fun j hj => (if_pos hj).symm) (fun rlf_huts' rlf_singers' rlf_villages' rlf_dams' rlf_echoes' rlf_deep' rlf_slide' rla_heights' rla_ladders' rla_minutes' rla_echoFrom' rla_echoTo' rla_homes' rla_talls' rla_known' rvf_deeds' rva_kinds' rva_firsts' rva_seconds' rsf_facts' rsa_heard' rsa_huts' rsa_minutes' rcf_voices' rcf_step' rca_parts' rca_heights' nums' tp' ln' bh' ki' fi' va' h' s' hD => ?_)
    rw [← hTX] at hD ⊢
    refine ⟨fun hz => ?_, fun hz => ?_⟩
    · obtain ⟨⟨fh, fs, hDR⟩, hCB⟩ := hD hz
      have hoc : o = 0 ∨ o = 1 ∨ o = 2 ∨ o = 3 := by omega
      have hkc : k = 0 ∨ k = 1 := by omega
      rcases hoc with rfl | rfl | rfl | rfl <;> rcases hkc with rfl | rfl
      · refine e_keep_00 (len := 0) (fault := (TXr T 0).1) (place := (TXr T 0).2.1) hCB (hDR.1 rfl).1 (fun nl0f_huts nl0f_singers nl0f_villages nl0f_dams nl0f_echoes nl0f_deep nl0f_slide nl0a_heights nl0a_ladders nl0a_minutes nl0a_echoFrom nl0a_echoTo nl0a_homes nl0a_talls nl0a_known hSL hsm => ?_)
        exact hp (nI 0) 0 (TXr T 0).1 (TXr T 0).2.1 _ nl0f_huts nl0f_singers nl0f_villages nl0f_dams nl0f_echoes nl0f_deep nl0f_slide nl0a_heights nl0a_ladders nl0a_minutes nl0a_echoFrom nl0a_echoTo nl0a_homes nl0a_talls nl0a_known (T.1 10) (T.1 11) (T.1 12) (T.1 13) (T.1 14) (T.1 15) (T.1 16) (T.2 10) (T.2 11) (T.2 12) (T.2 13) (T.2 14) (T.2 15) (T.2 16) (T.2 17) (T.1 17) (T.2 18) (T.2 19) (T.2 20) (T.1 18) (T.2 21) (T.2 22) (T.2 23) (T.1 19) (T.2 24) (T.2 25) (T.2 26) (T.1 20) (T.2 27) (T.2 28) (T.2 29) (T.1 21) (T.1 22) (T.2 30) (T.2 31) (T.1 23) (T.1 24) (T.2 32) (T.2 33) rlf_huts' rlf_singers' rlf_villages' rlf_dams' rlf_echoes' rlf_deep' rlf_slide' rla_heights' rla_ladders' rla_minutes' rla_echoFrom' rla_echoTo' rla_homes' rla_talls' rla_known' rvf_deeds' rva_kinds' rva_firsts' rva_seconds' rsf_facts' rsa_heard' rsa_huts' rsa_minutes' rcf_voices' rcf_step' rca_parts' rca_heights' (TXr T 0).1 (TXr T 0).2.1 nums' tp' ln' bh' ki' fi' va' h' s' (xTX_mk ho hk e1 hN rfl rfl rfl rfl (fun h9 => absurd hz h9) (fun _ => ⟨rfl, rfl, hSL, hsm⟩))
      · refine e_keep_01 (len := 0) (fault := (TXr T 0).1) (place := (TXr T 0).2.1) hCB (hDR.1 rfl).1 (fun nl1f_huts nl1f_singers nl1f_villages nl1f_dams nl1f_echoes nl1f_deep nl1f_slide nl1a_heights nl1a_ladders nl1a_minutes nl1a_echoFrom nl1a_echoTo nl1a_homes nl1a_talls nl1a_known hSL hsm => ?_)
        exact hp (nI 1) 0 (TXr T 0).1 (TXr T 0).2.1 _ (T.1 3) (T.1 4) (T.1 5) (T.1 6) (T.1 7) (T.1 8) (T.1 9) (T.2 2) (T.2 3) (T.2 4) (T.2 5) (T.2 6) (T.2 7) (T.2 8) (T.2 9) nl1f_huts nl1f_singers nl1f_villages nl1f_dams nl1f_echoes nl1f_deep nl1f_slide nl1a_heights nl1a_ladders nl1a_minutes nl1a_echoFrom nl1a_echoTo nl1a_homes nl1a_talls nl1a_known (T.1 17) (T.2 18) (T.2 19) (T.2 20) (T.1 18) (T.2 21) (T.2 22) (T.2 23) (T.1 19) (T.2 24) (T.2 25) (T.2 26) (T.1 20) (T.2 27) (T.2 28) (T.2 29) (T.1 21) (T.1 22) (T.2 30) (T.2 31) (T.1 23) (T.1 24) (T.2 32) (T.2 33) rlf_huts' rlf_singers' rlf_villages' rlf_dams' rlf_echoes' rlf_deep' rlf_slide' rla_heights' rla_ladders' rla_minutes' rla_echoFrom' rla_echoTo' rla_homes' rla_talls' rla_known' rvf_deeds' rva_kinds' rva_firsts' rva_seconds' rsf_facts' rsa_heard' rsa_huts' rsa_minutes' rcf_voices' rcf_step' rca_parts' rca_heights' (TXr T 0).1 (TXr T 0).2.1 nums' tp' ln' bh' ki' fi' va' h' s' (xTX_mk ho hk e1 hN rfl rfl rfl rfl (fun h9 => absurd hz h9) (fun _ => ⟨rfl, rfl, hSL, hsm⟩))
      · refine e_keep_10 (len := 0) (fault := (TXr T 1).1) (place := (TXr T 1).2.1) hCB (hDR.2.1 rfl) (by rw [(hDR.2.1 rfl).1]; exact hCB.1) (fun nv0f_deeds nv0a_kinds nv0a_firsts nv0a_seconds hSL hsm => ?_)
        exact hp (nI 0) 0 (TXr T 1).1 (TXr T 1).2.1 _ (T.1 3) (T.1 4) (T.1 5) (T.1 6) (T.1 7) (T.1 8) (T.1 9) (T.2 2) (T.2 3) (T.2 4) (T.2 5) (T.2 6) (T.2 7) (T.2 8) (T.2 9) (T.1 10) (T.1 11) (T.1 12) (T.1 13) (T.1 14) (T.1 15) (T.1 16) (T.2 10) (T.2 11) (T.2 12) (T.2 13) (T.2 14) (T.2 15) (T.2 16) (T.2 17) nv0f_deeds nv0a_kinds nv0a_firsts nv0a_seconds (T.1 18) (T.2 21) (T.2 22) (T.2 23) (T.1 19) (T.2 24) (T.2 25) (T.2 26) (T.1 20) (T.2 27) (T.2 28) (T.2 29) (T.1 21) (T.1 22) (T.2 30) (T.2 31) (T.1 23) (T.1 24) (T.2 32) (T.2 33) rlf_huts' rlf_singers' rlf_villages' rlf_dams' rlf_echoes' rlf_deep' rlf_slide' rla_heights' rla_ladders' rla_minutes' rla_echoFrom' rla_echoTo' rla_homes' rla_talls' rla_known' rvf_deeds' rva_kinds' rva_firsts' rva_seconds' rsf_facts' rsa_heard' rsa_huts' rsa_minutes' rcf_voices' rcf_step' rca_parts' rca_heights' (TXr T 1).1 (TXr T 1).2.1 nums' tp' ln' bh' ki' fi' va' h' s' (xTX_mk ho hk e1 hN rfl rfl rfl rfl (fun h9 => absurd hz h9) (fun _ => ⟨rfl, rfl, hSL, hsm⟩))
      · refine e_keep_11 (len := 0) (fault := (TXr T 1).1) (place := (TXr T 1).2.1) hCB (hDR.2.1 rfl) (by rw [(hDR.2.1 rfl).1]; exact hCB.1) (fun nv1f_deeds nv1a_kinds nv1a_firsts nv1a_seconds hSL hsm => ?_)
        exact hp (nI 1) 0 (TXr T 1).1 (TXr T 1).2.1 _ (T.1 3) (T.1 4) (T.1 5) (T.1 6) (T.1 7) (T.1 8) (T.1 9) (T.2 2) (T.2 3) (T.2 4) (T.2 5) (T.2 6) (T.2 7) (T.2 8) (T.2 9) (T.1 10) (T.1 11) (T.1 12) (T.1 13) (T.1 14) (T.1 15) (T.1 16) (T.2 10) (T.2 11) (T.2 12) (T.2 13) (T.2 14) (T.2 15) (T.2 16) (T.2 17) (T.1 17) (T.2 18) (T.2 19) (T.2 20) nv1f_deeds nv1a_kinds nv1a_firsts nv1a_seconds (T.1 19) (T.2 24) (T.2 25) (T.2 26) (T.1 20) (T.2 27) (T.2 28) (T.2 29) (T.1 21) (T.1 22) (T.2 30) (T.2 31) (T.1 23) (T.1 24) (T.2 32) (T.2 33) rlf_huts' rlf_singers' rlf_villages' rlf_dams' rlf_echoes' rlf_deep' rlf_slide' rla_heights' rla_ladders' rla_minutes' rla_echoFrom' rla_echoTo' rla_homes' rla_talls' rla_known' rvf_deeds' rva_kinds' rva_firsts' rva_seconds' rsf_facts' rsa_heard' rsa_huts' rsa_minutes' rcf_voices' rcf_step' rca_parts' rca_heights' (TXr T 1).1 (TXr T 1).2.1 nums' tp' ln' bh' ki' fi' va' h' s' (xTX_mk ho hk e1 hN rfl rfl rfl rfl (fun h9 => absurd hz h9) (fun _ => ⟨rfl, rfl, hSL, hsm⟩))
      · refine e_keep_20 (len := 0) (fault := (TXr T 2).1) (place := (TXr T 2).2.1) hCB (hDR.2.2.1 rfl) (by rw [(hDR.2.2.1 rfl).1]; exact hCB.1) (fun ns0f_facts ns0a_heard ns0a_huts ns0a_minutes hSL hsm => ?_)
        exact hp (nI 0) 0 (TXr T 2).1 (TXr T 2).2.1 _ (T.1 3) (T.1 4) (T.1 5) (T.1 6) (T.1 7) (T.1 8) (T.1 9) (T.2 2) (T.2 3) (T.2 4) (T.2 5) (T.2 6) (T.2 7) (T.2 8) (T.2 9) (T.1 10) (T.1 11) (T.1 12) (T.1 13) (T.1 14) (T.1 15) (T.1 16) (T.2 10) (T.2 11) (T.2 12) (T.2 13) (T.2 14) (T.2 15) (T.2 16) (T.2 17) (T.1 17) (T.2 18) (T.2 19) (T.2 20) (T.1 18) (T.2 21) (T.2 22) (T.2 23) ns0f_facts ns0a_heard ns0a_huts ns0a_minutes (T.1 20) (T.2 27) (T.2 28) (T.2 29) (T.1 21) (T.1 22) (T.2 30) (T.2 31) (T.1 23) (T.1 24) (T.2 32) (T.2 33) rlf_huts' rlf_singers' rlf_villages' rlf_dams' rlf_echoes' rlf_deep' rlf_slide' rla_heights' rla_ladders' rla_minutes' rla_echoFrom' rla_echoTo' rla_homes' rla_talls' rla_known' rvf_deeds' rva_kinds' rva_firsts' rva_seconds' rsf_facts' rsa_heard' rsa_huts' rsa_minutes' rcf_voices' rcf_step' rca_parts' rca_heights' (TXr T 2).1 (TXr T 2).2.1 nums' tp' ln' bh' ki' fi' va' h' s' (xTX_mk ho hk e1 hN rfl rfl rfl rfl (fun h9 => absurd hz h9) (fun _ => ⟨rfl, rfl, hSL, hsm⟩))
      · refine e_keep_21 (len := 0) (fault := (TXr T 2).1) (place := (TXr T 2).2.1) hCB (hDR.2.2.1 rfl) (by rw [(hDR.2.2.1 rfl).1]; exact hCB.1) (fun ns1f_facts ns1a_heard ns1a_huts ns1a_minutes hSL hsm => ?_)
        exact hp (nI 1) 0 (TXr T 2).1 (TXr T 2).2.1 _ (T.1 3) (T.1 4) (T.1 5) (T.1 6) (T.1 7) (T.1 8) (T.1 9) (T.2 2) (T.2 3) (T.2 4) (T.2 5) (T.2 6) (T.2 7) (T.2 8) (T.2 9) (T.1 10) (T.1 11) (T.1 12) (T.1 13) (T.1 14) (T.1 15) (T.1 16) (T.2 10) (T.2 11) (T.2 12) (T.2 13) (T.2 14) (T.2 15) (T.2 16) (T.2 17) (T.1 17) (T.2 18) (T.2 19) (T.2 20) (T.1 18) (T.2 21) (T.2 22) (T.2 23) (T.1 19) (T.2 24) (T.2 25) (T.2 26) ns1f_facts ns1a_heard ns1a_huts ns1a_minutes (T.1 21) (T.1 22) (T.2 30) (T.2 31) (T.1 23) (T.1 24) (T.2 32) (T.2 33) rlf_huts' rlf_singers' rlf_villages' rlf_dams' rlf_echoes' rlf_deep' rlf_slide' rla_heights' rla_ladders' rla_minutes' rla_echoFrom' rla_echoTo' rla_homes' rla_talls' rla_known' rvf_deeds' rva_kinds' rva_firsts' rva_seconds' rsf_facts' rsa_heard' rsa_huts' rsa_minutes' rcf_voices' rcf_step' rca_parts' rca_heights' (TXr T 2).1 (TXr T 2).2.1 nums' tp' ln' bh' ki' fi' va' h' s' (xTX_mk ho hk e1 hN rfl rfl rfl rfl (fun h9 => absurd hz h9) (fun _ => ⟨rfl, rfl, hSL, hsm⟩))
      · refine e_keep_30 (len := 0) (fault := (TXr T 3).1) (place := (TXr T 3).2.1) hCB (hDR.2.2.2 rfl) (by rw [(hDR.2.2.2 rfl).1]; exact hCB.1) (fun nc0f_voices nc0f_step nc0a_parts nc0a_heights hSL hsm => ?_)
        exact hp (nI 0) 0 (TXr T 3).1 (TXr T 3).2.1 _ (T.1 3) (T.1 4) (T.1 5) (T.1 6) (T.1 7) (T.1 8) (T.1 9) (T.2 2) (T.2 3) (T.2 4) (T.2 5) (T.2 6) (T.2 7) (T.2 8) (T.2 9) (T.1 10) (T.1 11) (T.1 12) (T.1 13) (T.1 14) (T.1 15) (T.1 16) (T.2 10) (T.2 11) (T.2 12) (T.2 13) (T.2 14) (T.2 15) (T.2 16) (T.2 17) (T.1 17) (T.2 18) (T.2 19) (T.2 20) (T.1 18) (T.2 21) (T.2 22) (T.2 23) (T.1 19) (T.2 24) (T.2 25) (T.2 26) (T.1 20) (T.2 27) (T.2 28) (T.2 29) nc0f_voices nc0f_step nc0a_parts nc0a_heights (T.1 23) (T.1 24) (T.2 32) (T.2 33) rlf_huts' rlf_singers' rlf_villages' rlf_dams' rlf_echoes' rlf_deep' rlf_slide' rla_heights' rla_ladders' rla_minutes' rla_echoFrom' rla_echoTo' rla_homes' rla_talls' rla_known' rvf_deeds' rva_kinds' rva_firsts' rva_seconds' rsf_facts' rsa_heard' rsa_huts' rsa_minutes' rcf_voices' rcf_step' rca_parts' rca_heights' (TXr T 3).1 (TXr T 3).2.1 nums' tp' ln' bh' ki' fi' va' h' s' (xTX_mk ho hk e1 hN rfl rfl rfl rfl (fun h9 => absurd hz h9) (fun _ => ⟨rfl, rfl, hSL, hsm⟩))
      · refine e_keep_31 (len := 0) (fault := (TXr T 3).1) (place := (TXr T 3).2.1) hCB (hDR.2.2.2 rfl) (by rw [(hDR.2.2.2 rfl).1]; exact hCB.1) (fun nc1f_voices nc1f_step nc1a_parts nc1a_heights hSL hsm => ?_)
        exact hp (nI 1) 0 (TXr T 3).1 (TXr T 3).2.1 _ (T.1 3) (T.1 4) (T.1 5) (T.1 6) (T.1 7) (T.1 8) (T.1 9) (T.2 2) (T.2 3) (T.2 4) (T.2 5) (T.2 6) (T.2 7) (T.2 8) (T.2 9) (T.1 10) (T.1 11) (T.1 12) (T.1 13) (T.1 14) (T.1 15) (T.1 16) (T.2 10) (T.2 11) (T.2 12) (T.2 13) (T.2 14) (T.2 15) (T.2 16) (T.2 17) (T.1 17) (T.2 18) (T.2 19) (T.2 20) (T.1 18) (T.2 21) (T.2 22) (T.2 23) (T.1 19) (T.2 24) (T.2 25) (T.2 26) (T.1 20) (T.2 27) (T.2 28) (T.2 29) (T.1 21) (T.1 22) (T.2 30) (T.2 31) nc1f_voices nc1f_step nc1a_parts nc1a_heights rlf_huts' rlf_singers' rlf_villages' rlf_dams' rlf_echoes' rlf_deep' rlf_slide' rla_heights' rla_ladders' rla_minutes' rla_echoFrom' rla_echoTo' rla_homes' rla_talls' rla_known' rvf_deeds' rva_kinds' rva_firsts' rva_seconds' rsf_facts' rsa_heard' rsa_huts' rsa_minutes' rcf_voices' rcf_step' rca_parts' rca_heights' (TXr T 3).1 (TXr T 3).2.1 nums' tp' ln' bh' ki' fi' va' h' s' (xTX_mk ho hk e1 hN rfl rfl rfl rfl (fun h9 => absurd hz h9) (fun _ => ⟨rfl, rfl, hSL, hsm⟩))
    · exact hp (-1) 0 (TXr T o).1 (TXr T o).2.1 (T.2 1) (T.1 3) (T.1 4) (T.1 5) (T.1 6) (T.1 7) (T.1 8) (T.1 9) (T.2 2) (T.2 3) (T.2 4) (T.2 5) (T.2 6) (T.2 7) (T.2 8) (T.2 9) (T.1 10) (T.1 11) (T.1 12) (T.1 13) (T.1 14) (T.1 15) (T.1 16) (T.2 10) (T.2 11) (T.2 12) (T.2 13) (T.2 14) (T.2 15) (T.2 16) (T.2 17) (T.1 17) (T.2 18) (T.2 19) (T.2 20) (T.1 18) (T.2 21) (T.2 22) (T.2 23) (T.1 19) (T.2 24) (T.2 25) (T.2 26) (T.1 20) (T.2 27) (T.2 28) (T.2 29) (T.1 21) (T.1 22) (T.2 30) (T.2 31) (T.1 23) (T.1 24) (T.2 32) (T.2 33) rlf_huts' rlf_singers' rlf_villages' rlf_dams' rlf_echoes' rlf_deep' rlf_slide' rla_heights' rla_ladders' rla_minutes' rla_echoFrom' rla_echoTo' rla_homes' rla_talls' rla_known' rvf_deeds' rva_kinds' rva_firsts' rva_seconds' rsf_facts' rsa_heard' rsa_huts' rsa_minutes' rcf_voices' rcf_step' rca_parts' rca_heights' (TXr T o).1 (TXr T o).2.1 nums' tp' ln' bh' ki' fi' va' h' s' (xTX_mk ho hk e1 hN rfl rfl rfl rfl (fun _ => ⟨rfl, rfl, same_all⟩) (fun h9 => absurd h9 hz))
end
section
theorem e_store_6 {a td : Nat → Int32} {k : Nat} {post : (Nat → Int32) → Prop} (hk : k < 2) (h : ∀ t, (∀ j, j < 132 → t (132 * k + j) = td j) → (∀ j, j < 132 * k ∨ 132 * k + 132 ≤ j → t j = a j) → post t) : q_m_store_6_0 a td 132 (nI k) post := by
  intro P hP
  have loop : ∀ m i (t : Nat → Int32), m + i = 132 → (∀ j, j < i → t (132 * k + j) = td j) → (∀ j, j < 132 * k ∨ 132 * k + 132 ≤ j → t j = a j) → P (nI i) t := by
    intro m
    induction m with
    | zero =>
      intro i t hi h1 h2
      apply hP
      exact pk_le 132 i (fun _ => h t (fun j hj => h1 j (by omega)) h2) (fun h9 => absurd h9 (by omega))
    | succ m ih =>
      intro i t hi h1 h2
      apply hP
      have hix : (132 : Int32) * nI k + nI i = nI (132 * k + i) := by rw [show (132 : Int32) = nI 132 from rfl, pk_mul, nI_add]
      refine pk_le 132 i (fun h9 => absurd h9 (by omega)) (fun _ => ⟨vp_in_nI (by omega) (by omega), fun v ev => ⟨by rw [hix]; exact vp_in_nI (by omega) (by omega), fun t1 e1 v2 e2 => ?_⟩⟩)
      rw [nI_clamp (by omega)] at ev
      rw [hix, nI_clamp (by omega)] at e1
      rw [e2, nI_1, e1, ev]
      refine ih (i + 1) _ (by omega) (fun j hj => ?_) (fun j hj => ?_)
      · by_cases hji : j = i
        · subst hji; exact up_s
        · rw [up_n (by omega)]; exact h1 j (by omega)
      · rw [up_n (by omega)]; exact h2 j hj
  exact loop 132 0 a (by omega) (fun j hj => absurd hj (by omega)) (fun _ _ => rfl)
theorem e_store_7 {a td : Nat → Int32} {k : Nat} {post : (Nat → Int32) → Prop} (hk : k < 2) (h : ∀ t, (∀ j, j < 121 → t (121 * k + j) = td j) → (∀ j, j < 121 * k ∨ 121 * k + 121 ≤ j → t j = a j) → post t) : q_m_store_7_0 a td 121 (nI k) post := by
  intro P hP
  have loop : ∀ m i (t : Nat → Int32), m + i = 121 → (∀ j, j < i → t (121 * k + j) = td j) → (∀ j, j < 121 * k ∨ 121 * k + 121 ≤ j → t j = a j) → P (nI i) t := by
    intro m
    induction m with
    | zero =>
      intro i t hi h1 h2
      apply hP
      exact pk_le 121 i (fun _ => h t (fun j hj => h1 j (by omega)) h2) (fun h9 => absurd h9 (by omega))
    | succ m ih =>
      intro i t hi h1 h2
      apply hP
      have hix : (121 : Int32) * nI k + nI i = nI (121 * k + i) := by rw [show (121 : Int32) = nI 121 from rfl, pk_mul, nI_add]
      refine pk_le 121 i (fun h9 => absurd h9 (by omega)) (fun _ => ⟨vp_in_nI (by omega) (by omega), fun v ev => ⟨by rw [hix]; exact vp_in_nI (by omega) (by omega), fun t1 e1 v2 e2 => ?_⟩⟩)
      rw [nI_clamp (by omega)] at ev
      rw [hix, nI_clamp (by omega)] at e1
      rw [e2, nI_1, e1, ev]
      refine ih (i + 1) _ (by omega) (fun j hj => ?_) (fun j hj => ?_)
      · by_cases hji : j = i
        · subst hji; exact up_s
        · rw [up_n (by omega)]; exact h1 j (by omega)
      · rw [up_n (by omega)]; exact h2 j hj
  exact loop 121 0 a (by omega) (fun j hj => absurd hj (by omega)) (fun _ _ => rfl)
theorem e_store_8 {a td : Nat → Int32} {k : Nat} {post : (Nat → Int32) → Prop} (hk : k < 2) (h : ∀ t, (∀ j, j < 31 → t (31 * k + j) = td j) → (∀ j, j < 31 * k ∨ 31 * k + 31 ≤ j → t j = a j) → post t) : q_m_store_8_0 a td 31 (nI k) post := by
  intro P hP
  have loop : ∀ m i (t : Nat → Int32), m + i = 31 → (∀ j, j < i → t (31 * k + j) = td j) → (∀ j, j < 31 * k ∨ 31 * k + 31 ≤ j → t j = a j) → P (nI i) t := by
    intro m
    induction m with
    | zero =>
      intro i t hi h1 h2
      apply hP
      exact pk_le 31 i (fun _ => h t (fun j hj => h1 j (by omega)) h2) (fun h9 => absurd h9 (by omega))
    | succ m ih =>
      intro i t hi h1 h2
      apply hP
      have hix : (31 : Int32) * nI k + nI i = nI (31 * k + i) := by rw [show (31 : Int32) = nI 31 from rfl, pk_mul, nI_add]
      refine pk_le 31 i (fun h9 => absurd h9 (by omega)) (fun _ => ⟨vp_in_nI (by omega) (by omega), fun v ev => ⟨by rw [hix]; exact vp_in_nI (by omega) (by omega), fun t1 e1 v2 e2 => ?_⟩⟩)
      rw [nI_clamp (by omega)] at ev
      rw [hix, nI_clamp (by omega)] at e1
      rw [e2, nI_1, e1, ev]
      refine ih (i + 1) _ (by omega) (fun j hj => ?_) (fun j hj => ?_)
      · by_cases hji : j = i
        · subst hji; exact up_s
        · rw [up_n (by omega)]; exact h1 j (by omega)
      · rw [up_n (by omega)]; exact h2 j hj
  exact loop 31 0 a (by omega) (fun j hj => absurd hj (by omega)) (fun _ _ => rfl)
theorem e_store_9 {a td : Nat → Int32} {k : Nat} {post : (Nat → Int32) → Prop} (hk : k < 2) (h : ∀ t, (∀ j, j < 20 → t (20 * k + j) = td j) → (∀ j, j < 20 * k ∨ 20 * k + 20 ≤ j → t j = a j) → post t) : q_m_store_9_0 a td 20 (nI k) post := by
  intro P hP
  have loop : ∀ m i (t : Nat → Int32), m + i = 20 → (∀ j, j < i → t (20 * k + j) = td j) → (∀ j, j < 20 * k ∨ 20 * k + 20 ≤ j → t j = a j) → P (nI i) t := by
    intro m
    induction m with
    | zero =>
      intro i t hi h1 h2
      apply hP
      exact pk_le 20 i (fun _ => h t (fun j hj => h1 j (by omega)) h2) (fun h9 => absurd h9 (by omega))
    | succ m ih =>
      intro i t hi h1 h2
      apply hP
      have hix : (20 : Int32) * nI k + nI i = nI (20 * k + i) := by rw [show (20 : Int32) = nI 20 from rfl, pk_mul, nI_add]
      refine pk_le 20 i (fun h9 => absurd h9 (by omega)) (fun _ => ⟨vp_in_nI (by omega) (by omega), fun v ev => ⟨by rw [hix]; exact vp_in_nI (by omega) (by omega), fun t1 e1 v2 e2 => ?_⟩⟩)
      rw [nI_clamp (by omega)] at ev
      rw [hix, nI_clamp (by omega)] at e1
      rw [e2, nI_1, e1, ev]
      refine ih (i + 1) _ (by omega) (fun j hj => ?_) (fun j hj => ?_)
      · by_cases hji : j = i
        · subst hji; exact up_s
        · rw [up_n (by omega)]; exact h1 j (by omega)
      · rw [up_n (by omega)]; exact h2 j hj
  exact loop 20 0 a (by omega) (fun j hj => absurd hj (by omega)) (fun _ _ => rfl)
noncomputable def MXr (M : Nat → Nat → Int32) (o : Nat) : Int32 × Int32 × (Nat → Int32) := tx (nB (M 0) (M 1 0).toNatClampNeg) (M 1 0).toNatClampNeg o
def mTX (M M' : Nat → Nat → Int32) (a1 a2 r : Int32) : Prop := M' 0 = M 0 ∧ M' 9 = M 9 ∧ M' 1 0 = 0 ∧ (∀ j, ¬ j = 0 → M' 1 j = M 1 j ∧ M' 2 j = M 2 j ∧ M' 3 j = M 3 j) ∧
  ((¬ ∃ o k, o < 4 ∧ k < 2 ∧ a1 = nI o ∧ NUM (M 4 o) a2 k) → r = -2 ∧ M' 2 0 = 0 ∧ M' 3 0 = -1 ∧ ∀ i, 4 ≤ i → i < 9 → M' i = M i) ∧
  (∀ o k, o < 4 → k < 2 → a1 = nI o → NUM (M 4 o) a2 k → M' 2 0 = (MXr M o).1 ∧ M' 3 0 = (MXr M o).2.1 ∧ (¬ (MXr M o).1 = 0 → r = -1 ∧ ∀ i, 4 ≤ i → i < 9 → M' i = M i) ∧ ((MXr M o).1 = 0 → r = nI k ∧ M' 4 = upd (M 4) o (cmx (M 4 o) k) ∧ (∀ j, j < wD o → M' (5 + o) (wD o * k + j) = (MXr M o).2.2 j) ∧ (∀ j, j < wD o * k ∨ wD o * k + wD o ≤ j → M' (5 + o) j = M (5 + o) j) ∧ ∀ i, 5 ≤ i → i < 9 → ¬ i = 5 + o → M' i = M i))
theorem mTX_mk {M M' : Nat → Nat → Int32} {a1 a2 r : Int32} {o k : Nat} (ho : o < 4) (hk : k < 2) (e : a1 = nI o) (hN : NUM (M 4 o) a2 k) (h0 : M' 0 = M 0) (h9 : M' 9 = M 9) (h1 : M' 1 0 = 0) (hs : ∀ j, ¬ j = 0 → M' 1 j = M 1 j ∧ M' 2 j = M 2 j ∧ M' 3 j = M 3 j) (h2 : M' 2 0 = (MXr M o).1) (h3 : M' 3 0 = (MXr M o).2.1) (h4 : ¬ (MXr M o).1 = 0 → r = -1 ∧ ∀ i, 4 ≤ i → i < 9 → M' i = M i) (h5 : (MXr M o).1 = 0 → r = nI k ∧ M' 4 = upd (M 4) o (cmx (M 4 o) k) ∧ (∀ j, j < wD o → M' (5 + o) (wD o * k + j) = (MXr M o).2.2 j) ∧ (∀ j, j < wD o * k ∨ wD o * k + wD o ≤ j → M' (5 + o) j = M (5 + o) j) ∧ ∀ i, 5 ≤ i → i < 9 → ¬ i = 5 + o → M' i = M i) : mTX M M' a1 a2 r := by
  refine ⟨h0, h9, h1, hs, fun hno => absurd ⟨o, k, ho, hk, e, hN⟩ hno, fun o' k' ho' hk' e' hN' => ?_⟩
  have eo : o = o' := (nI_eq (by omega) (by omega)).mp (e.symm.trans e')
  subst eo
  have ek := NUM_un hk hk' hN hN'
  subst ek
  exact ⟨h2, h3, h4, h5⟩
theorem up_2 {f : Nat → Int32} {a v w : Int32} (j : Nat) (h : ¬ j = a.toNatClampNeg) : upd (upd f a.toNatClampNeg v) a.toNatClampNeg w j = f j := by rw [up_n h, up_n h]
set_option maxRecDepth 40000 in
set_option maxHeartbeats 4000000 in
theorem e_m_text2 {M : Nat → Nat → Int32} {cd re ln be so va wr lf lp fh fs gd x1 x2 : Int32} {wd : Int64} {told rd : Nat → Int32} {post : Int32 → Int32 → (Nat → Int32) → (Nat → Int32) → (Nat → Int32) → (Nat → Int32) → (Nat → Int32) → (Nat → Int32) → (Nat → Int32) → (Nat → Int32) → Int32 → Int32 → Int32 → Int32 → Int32 → Int64 → Int32 → Int32 → Int32 → (Nat → Int32) → (Nat → Int32) → Int32 → Int32 → Int32 → Prop} (hlen : iv 0 600 (M 1 0)) (htape : ∀ j, iv (-128) 127 (M 0 j)) (hcnt : ∀ j, iv 0 2 (M 4 j)) (hp : ∀ (r : Int32) (sz fl fp mn ld ev sg ch : Nat → Int32) (re ln be so va : Int32) (wd : Int64) (wr lf lp : Int32) (td rd : Nat → Int32) (fh fs gd : Int32), mTX M (mmk (M 0) sz fl fp mn ld ev sg ch (M 9)) x1 x2 r → post r 0 sz fl fp mn ld ev sg ch re ln be so va wd wr lf lp td rd fh fs gd) : q_m_text_0 cd (M 0) (M 1) (M 2) (M 3) (M 4) (M 5) (M 6) (M 7) (M 8) re ln be so va wd wr lf lp told rd fh fs gd x1 x2 post := by
  obtain ⟨n, hn, -, hn6, -⟩ := iv_nI hlen (by decide)
  have hcl : (M 1 0).toNatClampNeg = n := by rw [hn]; exact nI_clamp (by omega)
  intro v ev sz es fl ef fp ep
  rw [c_0] at ev es ef ep
  rw [hn] at ev
  subst ev
  have no : (¬ ∃ o k, o < 4 ∧ k < 2 ∧ x1 = nI o ∧ NUM (M 4 o) x2 k) → post (-2) 0 sz fl fp (M 4) (M 5) (M 6) (M 7) (M 8) re (nI n) be so va wd wr lf lp told rd fh fs gd := by
    intro hno
    refine hp _ _ _ _ _ _ _ _ _ _ _ _ _ _ _ _ _ _ _ _ _ _ _ ⟨rfl, rfl, ?_, fun j hj => ⟨?_, ?_, ?_⟩, fun _ => ⟨rfl, ?_, ?_, fun i h1 h2 => ?_⟩, fun o k a b c d => absurd ⟨o, k, a, b, c, d⟩ hno⟩
    · show sz 0 = 0
      rw [es]; exact up_s
    · show sz j = M 1 j
      rw [es]; exact up_n hj
    · show fl j = M 2 j
      rw [ef]; exact up_n hj
    · show fp j = M 3 j
      rw [ep]; exact up_n hj
    · show fl 0 = 0
      rw [ef]; exact up_s
    · show fp 0 = -1
      rw [ep]; exact up_s
    · have : i = 4 ∨ i = 5 ∨ i = 6 ∨ i = 7 ∨ i = 8 := by omega
      rcases this with rfl | rfl | rfl | rfl | rfl <;> rfl
  -- a text of a sort, as number k
  have yes : ∀ o k, o < 4 → k < 2 → x1 = nI o → NUM (M 4 o) x2 k → q_m_text_75 0 (M 0) sz fl fp (M 4) (M 5) (M 6) (M 7) (M 8) re (nI n) be so va wd wr lf lp told rd fh fs gd x1 x2 post := by
    intro o k ho hk e1 hN
    have hMX : MXr M o = tx (nB (M 0) n) n o := by unfold MXr; rw [hcl]
    have hbb : ∀ j, iv (-128) 127 (nB (M 0) n j) := fun j => by
      unfold nB
      by_cases hj : j < n
      · rw [if_pos hj]; exact htape j
      · rw [if_neg hj]; exact iv_lit (by decide)
    rw [e1]
    refine e_readText (B := nB (M 0) n) (by omega) (fun j hj => (if_pos hj).symm) hbb (by omega) (fun hz re be so va wd wr lf lp td rd fh fs gd => zi ?_) (fun hz re be so va wd wr lf lp td rd fh fs gd htd => io ?_)
    · rw [← hMX] at hz ⊢
      refine hp _ _ _ _ _ _ _ _ _ _ _ _ _ _ _ _ _ _ _ _ _ _ _ (mTX_mk ho hk e1 hN rfl rfl ?_ (fun j hj => ⟨?_, ?_, ?_⟩) ?_ ?_ (fun _ => ⟨rfl, fun i h1 h2 => ?_⟩) (fun h9 => absurd h9 hz))
      · show sz 0 = 0
        rw [es]; exact up_s
      · show sz j = M 1 j
        rw [es]; exact up_n hj
      · show upd fl 0 _ j = M 2 j
        rw [up_n hj, ef]; exact up_n hj
      · show upd fp 0 _ j = M 3 j
        rw [up_n hj, ep]; exact up_n hj
      · exact up_s
      · exact up_s
      · have : i = 4 ∨ i = 5 ∨ i = 6 ∨ i = 7 ∨ i = 8 := by omega
        rcases this with rfl | rfl | rfl | rfl | rfl <;> rfl
    · rw [← hMX] at hz htd ⊢
      -- the number, the count
      have t100 : q_m_text_100 0 (M 0) sz (upd fl 0 (MXr M o).1) (upd fp 0 (MXr M o).2.1) (M 4) (M 5) (M 6) (M 7) (M 8) re (nI n) be so va wd wr lf lp td rd fh fs gd (nI o) x2 (nI k) post := by
        have t118 : ∀ y : Int32, M 4 o + y = cmx (M 4 o) k → q_m_text_118 0 (M 0) sz (upd fl 0 (MXr M o).1) (upd fp 0 (MXr M o).2.1) (M 4) (M 5) (M 6) (M 7) (M 8) re (nI n) be so va wd wr lf lp td rd fh fs gd (nI o) (nI k) (nI o) (M 4 o) y post := by
          intro y hy v1 e9
          refine ⟨vp_in_nI (by omega) (by omega), fun mn em => ?_⟩
          rw [nI_clamp (by omega), e9, hy] at em
          have fin : ∀ ld ev sg ch : Nat → Int32, (∀ j, j < wD o → (mmk (M 0) sz (upd fl 0 (MXr M o).1) (upd fp 0 (MXr M o).2.1) mn ld ev sg ch (M 9)) (5 + o) (wD o * k + j) = td j) → (∀ j, j < wD o * k ∨ wD o * k + wD o ≤ j → (mmk (M 0) sz (upd fl 0 (MXr M o).1) (upd fp 0 (MXr M o).2.1) mn ld ev sg ch (M 9)) (5 + o) j = M (5 + o) j) → (∀ i, 5 ≤ i → i < 9 → ¬ i = 5 + o → (mmk (M 0) sz (upd fl 0 (MXr M o).1) (upd fp 0 (MXr M o).2.1) mn ld ev sg ch (M 9)) i = M i) → post (nI k) 0 sz (upd fl 0 (MXr M o).1) (upd fp 0 (MXr M o).2.1) mn ld ev sg ch re (nI n) be so va wd wr lf lp td rd fh fs gd := by
            intro ld ev sg ch g1 g2 g3
            refine hp _ _ _ _ _ _ _ _ _ _ _ _ _ _ _ _ _ _ _ _ _ _ _ (mTX_mk ho hk e1 hN rfl rfl ?_ (fun j hj => ⟨?_, ?_, ?_⟩) ?_ ?_ (fun h9 => absurd hz h9) (fun _ => ⟨rfl, ?_, fun j hj => (g1 j hj).trans (htd j ?_), g2, g3⟩))
            · show sz 0 = 0
              rw [es]; exact up_s
            · show sz j = M 1 j
              rw [es]; exact up_n hj
            · show upd fl 0 _ j = M 2 j
              rw [up_n hj, ef]; exact up_n hj
            · show upd fp 0 _ j = M 3 j
              rw [up_n hj, ep]; exact up_n hj
            · exact up_s
            · exact up_s
            · exact em
            · have hw : ∀ o, o < 4 → wD o ≤ 132 := by decide
              have := hw o ho
              omega
          have hoc : o = 0 ∨ o = 1 ∨ o = 2 ∨ o = 3 := by omega
          rcases hoc with rfl | rfl | rfl | rfl
          · refine ⟨fun h9 => absurd h9 (by decide +kernel), fun _ => ?_, fun h9 => absurd h9 (by decide +kernel), fun h9 => absurd h9 (by decide +kernel)⟩
            exact e_store_6 hk (fun t a b => fin t _ _ _ a b (fun i h1 h2 h3 => by
              have : i = 6 ∨ i = 7 ∨ i = 8 := by omega
              rcases this with rfl | rfl | rfl <;> rfl))
          · refine ⟨fun h9 => absurd h9 (by decide +kernel), fun h9 => absurd h9 (by decide +kernel), fun _ => ?_, fun h9 => absurd h9 (by decide +kernel)⟩
            exact e_store_7 hk (fun t a b => fin _ t _ _ a b (fun i h1 h2 h3 => by
              have : i = 5 ∨ i = 7 ∨ i = 8 := by omega
              rcases this with rfl | rfl | rfl <;> rfl))
          · refine ⟨fun h9 => absurd h9 (by decide +kernel), fun h9 => absurd h9 (by decide +kernel), fun h9 => absurd h9 (by decide +kernel), fun _ => ?_⟩
            exact e_store_8 hk (fun t a b => fin _ _ t _ a b (fun i h1 h2 h3 => by
              have : i = 5 ∨ i = 6 ∨ i = 8 := by omega
              rcases this with rfl | rfl | rfl <;> rfl))
          · refine ⟨fun _ => ?_, fun h9 => absurd h9 (by decide +kernel), fun h9 => absurd h9 (by decide +kernel), fun h9 => absurd h9 (by decide +kernel)⟩
            exact e_store_9 hk (fun t a b => fin _ _ _ t a b (fun i h1 h2 h3 => by
              have : i = 5 ∨ i = 6 ∨ i = 7 := by omega
              rcases this with rfl | rfl | rfl <;> rfl))
        refine ⟨vp_in_nI (by omega) (by omega), fun hx => ?_, fun hx => ?_⟩
        · rw [nI_clamp (by omega)]
          refine t118 0 ?_
          rcases hN with ⟨q1, _⟩ | ⟨_, _, q3⟩
          · exact absurd q1 hx
          · unfold cmx
            rw [nI_1, if_neg (Int32.not_lt.mpr ?_)]
            · simp
            · obtain ⟨c, hc, -, hc2, -⟩ := iv_nI (hcnt o) (by decide)
              rw [hc] at q3 ⊢
              have := (nI_ltI (by omega) (by omega)).mp q3
              exact nI_le (by omega) (by omega)
        · rw [nI_clamp (by omega)]
          refine t118 1 ?_
          rcases hN with ⟨_, q2⟩ | ⟨q1, _, _⟩
          · unfold cmx
            rw [q2, nI_1, if_pos (nI_lt (by omega) (by omega))]
          · exact absurd hx q1
      refine ⟨fun hx => ?_, fun hx => ⟨vp_in_nI (by omega) (by omega), ?_⟩⟩
      · rcases hN with ⟨q1, _⟩ | ⟨_, q2, _⟩
        · exact absurd q1 hx
        · have e : q_m_text_100 0 (M 0) sz (upd fl 0 (MXr M o).1) (upd fp 0 (MXr M o).2.1) (M 4) (M 5) (M 6) (M 7) (M 8) re (nI n) be so va wd wr lf lp td rd fh fs gd (nI o) x2 x2 post = q_m_text_100 0 (M 0) sz (upd fl 0 (MXr M o).1) (upd fp 0 (MXr M o).2.1) (M 4) (M 5) (M 6) (M 7) (M 8) re (nI n) be so va wd wr lf lp td rd fh fs gd (nI o) x2 (nI k) post := by rw [← q2]
          rw [e]
          exact t100
      · rw [nI_clamp (by omega)]
        rcases hN with ⟨_, q2⟩ | ⟨q1, _, _⟩
        · have e : q_m_text_100 0 (M 0) sz (upd fl 0 (MXr M o).1) (upd fp 0 (MXr M o).2.1) (M 4) (M 5) (M 6) (M 7) (M 8) re (nI n) be so va wd wr lf lp td rd fh fs gd (nI o) x2 (M 4 o) post = q_m_text_100 0 (M 0) sz (upd fl 0 (MXr M o).1) (upd fp 0 (MXr M o).2.1) (M 4) (M 5) (M 6) (M 7) (M 8) re (nI n) be so va wd wr lf lp td rd fh fs gd (nI o) x2 (nI k) post := by rw [← q2]
          rw [e]
          exact t100
        · exact absurd hx q1
  refine sp_in (fun h => iz (no ?_)) (fun h1 h2 => oi ?_)
  · rintro ⟨o, k, ho, _, e, _⟩
    rw [e] at h
    exact h ⟨nI_pos' (by omega), nI_le (b := 3) (by omega) (by omega)⟩
  · obtain ⟨o, ho, e⟩ := nI_of2 (M := 3) (n := 3) (by decide) (Int32.not_lt.mpr h1) h2
    obtain ⟨c, hc, -, hc2, -⟩ := iv_nI (hcnt o) (by decide)
    have noN : (∀ k, k < 2 → ¬ NUM (M 4 o) x2 k) → ¬ ∃ o k, o < 4 ∧ k < 2 ∧ x1 = nI o ∧ NUM (M 4 o) x2 k := by
      rintro hno ⟨o', k, ho', hk, e', hN⟩
      have : o = o' := (nI_eq (by omega) (by omega)).mp (e.symm.trans e')
      subst this
      exact hno k hk hN
    have hclo : Int32.toNatClampNeg x1 = o := by rw [e]; exact nI_clamp (by omega)
    have hin16 : vp_in x1 16 := by rw [e]; exact vp_in_nI (by omega) (by omega)
    refine ⟨fun hx => ⟨hin16, ?_⟩, fun hx => ⟨hin16, ?_⟩⟩
    · rw [hclo]
      refine sp_in (fun h => ⟨rfl, zi (no (noN ?_))⟩) (fun g1 g2 => ⟨rfl, io ?_⟩)
      · rintro k hk (⟨q1, _⟩ | ⟨_, q2, q3⟩)
        · exact hx q1
        · refine h ⟨?_, ?_⟩
          · rw [q2]; exact nI_pos' (by omega)
          · rw [q2, hc]
            rw [hc] at q3
            have := (nI_ltI (by omega) (by omega)).mp q3
            rw [show (1 : Int32) = nI 1 from rfl, pk_sub (by omega)]
            exact nI_le (by omega) (by omega)
      · rw [hc] at g2
        have h1c : 1 ≤ c := by
          by_cases hc0 : c = 0
          · exfalso
            rw [hc0] at g2
            have a := r_le g1
            have b := r_le g2
            have e0 : (0 : Int32).toInt = 0 := rfl
            have em : (nI 0 - 1 : Int32).toInt = -1 := by decide
            omega
          · omega
        rw [show (1 : Int32) = nI 1 from rfl, pk_sub h1c] at g2
        obtain ⟨k, hk, ek⟩ := nI_of2 (M := nI (c - 1)) (n := c - 1) (x := x2) (nI_toInt (by omega)) (Int32.not_lt.mpr g1) g2
        exact yes o k (by omega) (by omega) e (Or.inr ⟨hx, ek, by rw [hc]; exact nI_lt (by omega) (by omega)⟩)
    · rw [hclo]
      refine ⟨fun h => ?_, fun h => no (noN ?_)⟩
      · have hcl2 : c < 2 := by
          by_cases h9 : c = 2
          · exact absurd (by rw [hc, h9]; rfl) h
          · omega
        exact yes o c (by omega) hcl2 e (Or.inl ⟨hx, hc⟩)
      · rintro k hk (⟨_, q2⟩ | ⟨q1, _, _⟩)
        · rw [q2] at h
          have := (nI_eq (a := k) (b := 2) (by omega) (by omega)).mp h
          omega
        · exact q1 hx
end
