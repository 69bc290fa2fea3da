theorem ps_lt {B : Nat → Int32} {n r : Nat} (hr : r ≤ n) (hK : ¬ tK B n r = 0) : ∀ k, r + 1 ≤ ps B n r (k + 1)
  | 0 => by
    have h := tk_le (B := B) hr
    have h1 := tF_le (B := B) hr
    have h2 := h.2.2.1 hK
    show r + 1 ≤ tN B n r
    omega
  | k + 1 => by
    have h := ps_lt hr hK k
    have h0 := ps_le (B := B) hr (k + 1)
    have h1 := tk_le (B := B) h0.2
    have h2 := tF_le (B := B) h0.2
    show r + 1 ≤ tN B n (ps B n r (k + 1))
    omega
theorem iv_hut {w : Nat} {a v : Int32} {k : Nat} (h : cW w k a v = true) (hs : 0 ≤ (tbf_2 (w * 3 + k)).toInt ∧ (tbf_3 (w * 3 + k)).toInt ≤ 8) : iv 0 8 v := iv_w (cW_iv h) hs
theorem hutw : ∀ w, w < 20 → (w = 5 ∨ w = 7 ∨ w = 9) → 0 ≤ (tbf_2 (w * 3 + 0)).toInt ∧ (tbf_3 (w * 3 + 0)).toInt ≤ 8 := by decide +kernel
/-- as CB_lD, of a line -/
theorem CB_ln {B : Nat → Int32} {n r o w : Nat} {td : Nat → Int32} (ho : o ≤ 3) (hw : wlo o ≤ w ∧ w < wlo (o + 1)) (hC : CB o td) : CB o (lD w (gd B n r w (nW w)) (tV B n (ps B n r 1)) (tV B n (ps B n r 2)) (tV B n (ps B n r 3)) td) := by
  by_cases hq : w = 5 ∨ w = 7 ∨ w = 9
  · refine CB_lD ho hw hC (fun hg => ?_)
    have h20 : w < 20 := Nat.lt_of_lt_of_le hw.2 (wlo_lt o ho).1
    have hn := nW_tb w h20
    refine ⟨iv_hut (gd_c _ hg 0 (by omega)) (hutw w h20 hq), fun h5 => ?_⟩
    subst h5
    exact iv_hut (gd_c _ hg 1 (by decide)) (by decide +kernel)
  · have e : ∀ g g' : Bool, CB o (lD w g (tV B n (ps B n r 1)) (tV B n (ps B n r 2)) (tV B n (ps B n r 3)) td) → CB o (lD w g' (tV B n (ps B n r 1)) (tV B n (ps B n r 2)) (tV B n (ps B n r 3)) td) := by
      intro g g' h
      have h5 : ¬ w = 5 := fun h => hq (Or.inl h)
      have h7 : ¬ w = 7 := fun h => hq (Or.inr (Or.inl h))
      have h9 : ¬ w = 9 := fun h => hq (Or.inr (Or.inr h))
      by_cases h1 : w = 1
      · subst h1; exact h
      by_cases h2 : w = 2
      · subst h2; exact h
      have e2 : lD w g' (tV B n (ps B n r 1)) (tV B n (ps B n r 2)) (tV B n (ps B n r 3)) td = lD w g (tV B n (ps B n r 1)) (tV B n (ps B n r 2)) (tV B n (ps B n r 3)) td := by
        unfold lD
        simp only [if_neg h1, if_neg h2, if_neg h5, if_neg h7, if_neg h9]
      rw [e2]; exact h
    exact e false _ (CB_lD ho hw hC (fun h => absurd h (by decide)))
def FP (fa pl : Int32) : Prop := (fa = 0 → pl = -1) ∧ (¬ fa = 0 → 0 < fa.toInt)
theorem FP_m {c : Bool} {lf lp f p : Int32} (h : FP lf lp) (hf : 0 < f.toInt) : FP (mF c lf f) (mP c lf lp p) := by
  unfold mF mP
  by_cases hc : c = true
  · rw [if_pos hc, if_pos hc]; exact h
  · rw [if_neg hc, if_neg hc]
    by_cases hl : lf = 0
    · rw [if_pos hl, if_pos hl]
      exact ⟨fun h9 => by rw [h9] at hf; exact absurd hf (by decide), fun _ => hf⟩
    · rw [if_neg hl, if_neg hl]; exact h
theorem FP_k {B : Nat → Int32} {n r w : Nat} {td : Nat → Int32} {fa pl : Int32} (h : FP fa pl) : ∀ k, FP (mkF B n r w td fa k) (mkP B n r w td fa pl k)
  | 0 => FP_m h (by decide)
  | k + 1 => FP_m (FP_k h k) (by decide)
set_option maxRecDepth 20000 in
theorem e_lines {tp B : Nat → Int32} {n o : Nat} {post : Int32 → Int32 → Int32 → Int32 → Int32 → Int64 → Int32 → Int32 → Int32 → (Nat → Int32) → (Nat → Int32) → Int32 → Int32 → Int32 → Prop} (hn : n ≤ 600) (hB : ∀ j, j < n → tp j = B j) (hb : ∀ j, iv (-128) 127 (B j)) (ho : o ≤ 3) {R : Int32 × Int32 × (Nat → Int32)}
    (hX : ∀ (p : Int32) (td' : Nat → Int32), R = (1, p, td') → ∀ (re be so va : Int32) (wd : Int64) (lf lp : Int32) (td rd : Nat → Int32) (fh fs gd : Int32), post 0 re be so va wd p lf lp td rd fh fs gd)
    (hE : ∀ (fa pl lp : Int32) (td told : Nat → Int32) (fh fs : Int32), CB o told → (∀ j, j < 132 → told j = td j) → (¬ fa = 0 → lp = pl) → FP fa pl → R = fin4 o n fa pl td fh fs → ∀ (re va : Int32) (wd : Int64) (wr : Int32) (rd : Nat → Int32) (gd : Int32), post 1 re (nI n) 0 va wd wr fa lp told rd fh fs gd)
    {r : Nat} {va wr fa pl lp fh fs gd : Int32} {wd : Int64} {td told rd : Nat → Int32} (hr : r ≤ n) (hw : tK B n r = 1 → wd = tW B n r) (hlp : ¬ fa = 0 → lp < nI (tF B n r)) (hC : CB o told) (ht : ∀ j, j < 132 → told j = td j) (hpl : ¬ fa = 0 → lp = pl) (hFP : FP fa pl) (hR : R = go B n o (n + 1) r fa pl td fh fs) : q_m_lines_0 tp (nI (tN B n r)) (nI n) (nI (tF B n r)) (sI (tK B n r)) va wd wr fa lp told rd fh fs gd (nI o) post := by
  intro P hP
  have nb : narrow .boolean (.int (0 : Int32)) = .int 0 := rfl
  have nb1 : narrow .boolean (.int (1 : Int32)) = .int 1 := rfl
  have loop : ∀ m r (va wr fa pl lp fh fs gd : Int32) (wd : Int64) (td told rd : Nat → Int32), n + 1 ≤ m + r → r ≤ n → (tK B n r = 1 → wd = tW B n r) → (¬ fa = 0 → lp < nI (tF B n r)) → CB o told → (∀ j, j < 132 → told j = td j) → (¬ fa = 0 → lp = pl) → FP fa pl → R = go B n o m r fa pl td fh fs → P 1 (nI (tN B n r)) (nI (tF B n r)) (sI (tK B n r)) va wd wr fa lp told rd fh fs gd := by
    intro m
    induction m with
    | zero => intro r va wr fa pl lp fh fs gd wd td told rd h1 h2; omega
    | succ m ih =>
      intro r va wr fa pl lp fh fs gd wd td told rd h1 hr hw hlp hC ht hpl hFP hR
      have htk := tk_le (B := B) hr
      apply hP
      refine ⟨fun h9 => absurd h9 (by decide), fun _ => ?_⟩
      by_cases hK0 : tK B n r = 0
      · rw [go, if_pos hK0] at hR
        have e1 : tF B n r = n := htk.2.2.2.1 hK0
        rw [hK0, e1]
        refine ⟨fun _ => ⟨nb1, hE fa pl lp td told fh fs hC ht hpl hFP hR _ _ _ _ _ _⟩, fun h9 => absurd rfl h9⟩
      rw [go, if_neg hK0] at hR
      refine ⟨fun h9 => absurd ((sI_0 _ htk.2.2.2.2).mp h9) hK0, fun _ => ?_⟩
      -- a line
      have fail : ¬ lb B n r o = 9 → ∀ (re be so va : Int32) (wd : Int64) (lf lp : Int32) (td rd : Nat → Int32) (fh fs gd : Int32), P 0 re be so va wd (nI (tF B n (ps B n r (lb B n r o)))) lf lp td rd fh fs gd := by
        intro h9 re be so va wd lf lp td rd fh fs gd
        rw [if_neg h9] at hR
        apply hP
        exact ⟨fun _ => ⟨nb, hX _ _ hR _ _ _ _ _ _ _ _ _ _ _ _⟩, fun h8 => absurd rfl h8⟩
      have fl : ∀ j, j = lb B n r o → ¬ j = 9 → ∀ (re be so va : Int32) (wd : Int64) (lf lp : Int32) (td rd : Nat → Int32) (fh fs gd : Int32), P 0 re be so va wd (nI (tF B n (ps B n r j))) lf lp td rd fh fs gd := by
        intro j hj h9
        rw [hj]
        exact fail (by rw [← hj]; exact h9)
      have line : ∀ x : Int64, (tK B n r = 1 → x = tW B n r) → (¬ tK B n r = 1 → x = 0) → q_m_lines_41 P tp (nI (tN B n r)) (nI n) (nI (tF B n r)) (sI (tK B n r)) va wd wr fa lp told rd fh fs 1 (nI o) (nI (tF B n r)) (nI o) x post := by
        intro x hx1 hx0
        refine e_lineOf hn hr hB hb hlp hK0 ho hC hx1 hx0 (fun h20 re be so va wd lf lp td rd fh fs gd => ?_) (fun hlt j a b c d re be so va wd lf lp td rd fh fs gd => ?_) (fun hlt hk va2 wd2 rd2 gd2 hl => ?_)
        · refine iz (iz ?_)
          exact fl 0 (by unfold lb; rw [if_pos h20]) (by omega) _ _ _ _ _ _ _ _ _ _ _ _
        · have h3 := nW_tb _ hlt
          have e : lb B n r o = j := by
            unfold lb
            rw [if_neg (by omega)]
            exact lbr_f _ 0 (by omega) (by omega) c (fun i q1 q2 => d i (by omega) q2)
          exact iz (iz (fl j e.symm (by omega) _ _ _ _ _ _ _ _ _ _ _ _))
        · have h3 := nW_tb _ hlt
          have e : lb B n r o = if tK B n (ps B n r (0 + nW (wOf B n r o) + 1)) = 3 then 9 else 0 + nW (wOf B n r o) + 1 := by
            unfold lb
            rw [if_neg (by omega)]
            exact lbr_t _ 0 (fun j q1 q2 => hk j (by omega) (by omega))
          rw [Nat.zero_add] at e
          have hps := ps_le (B := B) hr
          have htk2 := tk_le (B := B) (hps (nW (wOf B n r o) + 1)).2
          refine oi ⟨fun h4 => ?_, fun h4 => ?_⟩
          · have hK3 := (sI_4 _ htk2.2.2.2.2).mp h4
            rw [if_pos hK3] at e
            rw [if_pos e] at hR
            have hP2 := (wd_cases (B := B) (n := n) (r := r) ho).resolve_left (fun h => by omega)
            refine oi ?_
            refine e_tok (r := ps B n r (nW (wOf B n r o) + 2)) hn (hps _).2 hB hb (fun v w2 _ hw2 => ?_)
            have hfu := fu_ext (w := wOf B n r o) ht
            rw [mkF_ext hfu] at hl ⊢
            refine ih _ _ _ _ _ _ _ _ _ _ _ _ _ (by have h9 : r + 1 ≤ ps B n r (nW (wOf B n r o) + 2) := ps_lt hr hK0 (nW (wOf B n r o) + 1); omega) (hps _).2 hw2 (LP_s hl ?_ ?_) (CB_ln ho ⟨hP2.2.1, hP2.2.2.1⟩ hC) (lD_ext ht) ?_ (FP_k hFP _) hR
            · have := tF_le (B := B) (hps (nW (wOf B n r o) + 2)).2
              have h9 : ps B n r (nW (wOf B n r o) + 2) = tN B n (ps B n r (nW (wOf B n r o) + 1)) := rfl
              omega
            · have := tF_le (B := B) (hps (nW (wOf B n r o) + 2)).2
              omega
            · intro hm
              rw [mkP_ext hfu]
              exact mkP_ir hpl _ hm
          · have hK3 : ¬ tK B n (ps B n r (nW (wOf B n r o) + 1)) = 3 := fun h => h4 ((sI_4 _ htk2.2.2.2.2).mpr h)
            rw [if_neg hK3] at e
            exact iz (fl _ e.symm (by omega) _ _ _ _ _ _ _ _ _ _ _ _)
      refine ⟨fun h2 => line 0 (fun h => absurd ((sI_2 _ htk.2.2.2.2).mpr h) h2) (fun _ => rfl), fun h2 => line wd hw (fun h => absurd ((sI_2 _ htk.2.2.2.2).mp h2) h)⟩
  exact loop (n + 1) r _ _ _ _ _ _ _ _ _ _ _ _ (by omega) hr hw hlp hC ht hpl hFP hR
/-- a text's row at its beginning -/
def ini (o j : Nat) : Int32 := if o = 0 then (if j = 5 then 2 else if j = 6 then 5 else 0) else 0
noncomputable def tx (B : Nat → Int32) (n o : Nat) : Int32 × Int32 × (Nat → Int32) := go B n o (n + 1) 0 0 (-1) (ini o) (-1) (-1)
theorem CB_ini {o : Nat} {t : Nat → Int32} (ho : o ≤ 3) (h : ∀ j, j < 132 → t j = ini o j) : CB o t := by
  unfold CB
  rw [h 0 (by omega), h 1 (by omega), h 4 (by omega)]
  have hoc : o = 0 ∨ o = 1 ∨ o = 2 ∨ o = 3 := by omega
  rcases hoc with rfl | rfl | rfl | rfl
  · exact ⟨iv_lit (by decide), fun _ => ⟨iv_lit (by decide), iv_lit (by decide)⟩⟩
  · exact ⟨iv_lit (by decide), fun h => absurd h (by decide)⟩
  · exact ⟨iv_lit (by decide), fun h => absurd h (by decide)⟩
  · exact ⟨iv_lit (by decide), fun h => absurd h (by decide)⟩
set_option maxRecDepth 20000 in
theorem e_readText {tp B fl fp : Nat → Int32} {n o : Nat} {re be so va wr lf lp fh fs gd : Int32} {wd : Int64} {told rd : Nat → Int32} {post : Int32 → (Nat → Int32) → (Nat → Int32) → Int32 → Int32 → Int32 → Int32 → Int64 → Int32 → Int32 → Int32 → (Nat → Int32) → (Nat → Int32) → Int32 → Int32 → Int32 → Prop} (hn : n ≤ 600) (hB : ∀ j, j < n → tp j = B j) (hb : ∀ j, iv (-128) 127 (B j)) (ho : o ≤ 3)
    (h0 : ¬ (tx B n o).1 = 0 → ∀ (re be so va : Int32) (wd : Int64) (wr lf lp : Int32) (td rd : Nat → Int32) (fh fs gd : Int32), post 0 (upd fl 0 (tx B n o).1) (upd fp 0 (tx B n o).2.1) re be so va wd wr lf lp td rd fh fs gd)
    (h1 : (tx B n o).1 = 0 → ∀ (re be so va : Int32) (wd : Int64) (wr lf lp : Int32) (td rd : Nat → Int32) (fh fs gd : Int32), (∀ j, j < 132 → td j = (tx B n o).2.2 j) → post 1 (upd fl 0 (tx B n o).1) (upd fp 0 (tx B n o).2.1) re be so va wd wr lf lp td rd fh fs gd) : q_m_readText_0 tp fl fp re (nI n) be so va wd wr lf lp told rd fh fs gd (nI o) post := by
  -- behind the row's clearing
  have mid : ∀ t : Nat → Int32, (∀ j, j < 132 → t j = ini o j) → q_m_readText_41 tp fl fp re (nI n) be so va wd wr lf lp t rd fh fs gd (nI o) post := by
    intro t ht
    refine e_tok (r := 0) hn (by omega) hB hb (fun v w _ hw => ?_)
    refine e_lines (R := tx B n o) (pl := -1) (td := ini o) hn hB hb ho (fun p td' hR re be so va wd lf lp td rd fh fs gd => ?_) (fun fa pl lp td told fh fs hC ht hpl hFP hR re va wd wr rd gd => ?_) (by omega) hw (fun h => absurd rfl h) (CB_ini ho ht) ht (fun h => absurd rfl h) ⟨fun _ => rfl, fun h => absurd rfl h⟩ rfl
    · have e1 : (tx B n o).1 = 1 := by rw [hR]
      have e2 : (tx B n o).2.1 = p := by rw [hR]
      have g := h0 (by rw [e1]; decide)
      rw [e1, e2] at g
      refine iz (iz ⟨vp_in_nI (n := 0) (by decide) (by decide), fun f1 ef => zi ⟨vp_in_nI (n := 0) (by decide) (by decide), fun f2 ef2 => ?_⟩⟩)
      rw [c_0] at ef ef2 ⊢
      rw [ef, ef2]
      exact ⟨fun _ => g _ _ _ _ _ _ _ _ _ _ _ _ _, fun h => absurd (by rw [← h]; exact up_s) (by decide : ¬ (0 : Int32) = 1)⟩
    · -- the end: the fault, the place
      have fin : ∀ lf' lp' : Int32, (tx B n o).1 = lf' → (¬ lf' = 0 → (tx B n o).2.1 = lp' ∧ 0 < lf'.toInt) → (lf' = 0 → (tx B n o).2.1 = -1 ∧ ∀ j, j < 132 → told j = (tx B n o).2.2 j) → q_m_readText_121 tp fl fp re (nI n) (nI n) 0 va wd wr lf' lp' told rd fh fs gd 1 post := by
        intro lf' lp' e1 e2 e3
        refine oi ⟨vp_in_nI (n := 0) (by decide) (by decide), fun f1 ef => io ?_⟩
        rw [c_0] at ef
        have e0 : (0 : Int32).toInt = 0 := rfl
        refine ⟨fun hle => ⟨vp_in_nI (n := 0) (by decide) (by decide), fun f2 ef2 => ?_⟩, fun hle => ⟨vp_in_nI (n := 0) (by decide) (by decide), fun f2 ef2 => ?_⟩⟩
        · have hz : lf' = 0 := by
            by_cases h : lf' = 0
            · exact h
            · have := (e2 h).2
              have := r_le hle
              omega
          rw [c_0] at ef2 ⊢
          have g := h1 (e1.trans hz)
          rw [(e3 hz).1, e1] at g
          rw [ef, ef2]
          exact ⟨fun h => absurd (by rw [up_s]; exact hz) h, fun _ => g _ _ _ _ _ _ _ _ _ _ _ _ _ (e3 hz).2⟩
        · have hz : ¬ lf' = 0 := fun h => hle (by rw [h]; decide)
          rw [c_0] at ef2 ⊢
          have g := h0 (by rw [e1]; exact hz)
          rw [(e2 hz).1, e1] at g
          rw [ef, ef2]
          exact ⟨fun _ => g _ _ _ _ _ _ _ _ _ _ _ _ _, fun h => absurd (by rw [up_s] at h; exact h) hz⟩
      have plain : ¬ (fa = 0 ∧ o = 0 ∧ (td 0 ≤ fh ∨ td 1 ≤ fs)) → q_m_readText_121 tp fl fp re (nI n) (nI n) 0 va wd wr fa lp told rd fh fs gd 1 post := by
        intro hc
        have e : tx B n o = (fa, pl, td) := by rw [hR]; unfold fin4; rw [if_neg hc]
        refine fin fa lp (by rw [e]) (fun hz => ⟨by rw [e]; exact (hpl hz).symm, hFP.2 hz⟩) (fun hz => ⟨by rw [e]; exact hFP.1 hz, fun j hj => by rw [e]; exact ht j hj⟩)
      have four : fa = 0 → (fa = 0 ∧ o = 0 ∧ (td 0 ≤ fh ∨ td 1 ≤ fs)) → q_m_readText_112 tp fl fp re (nI n) (nI n) 0 va wd wr fa lp told rd fh fs gd 1 post := by
        intro hz hc
        have e : tx B n o = (4, nI n, td) := by rw [hR]; unfold fin4; rw [if_pos hc]
        exact ⟨fun _ => fin 4 (nI n) (by rw [e]) (fun _ => ⟨by rw [e], by decide⟩) (fun h => absurd h (by decide)), fun h => absurd hz h⟩
      refine oi ⟨fun hx => plain (fun h => hx (by rw [h.2.1]; rfl)), fun hx => ?_⟩
      have ho0 : o = 0 := (nI_eq (a := o) (b := 0) (by omega) (by omega)).mp hx
      refine ⟨fun hz => plain (fun h => hz h.1), fun hz => ?_⟩
      rw [c_0, c_1, ht 0 (by omega), ht 1 (by omega)]
      refine ⟨fun h => four hz ⟨hz, ho0, Or.inl h⟩, fun h => ⟨fun h2 => plain (fun h3 => h3.2.2.elim h (fun h4 => absurd h2 (Int32.not_lt.mpr h4))), fun h2 => four hz ⟨hz, ho0, Or.inr (Int32.not_lt.mp h2)⟩⟩⟩
  intro P hP
  have loop : ∀ m k (t : Nat → Int32), m + k = 132 → (∀ j, j < k → t j = 0) → P (nI k) t := by
    intro m
    induction m with
    | zero =>
      intro k t hk ht
      apply hP
      refine pk_le 132 k (fun _ => ⟨fun hx => mid t (fun j hj => ?_), fun hx t1 e1 t2 e2 => mid t2 (fun j hj => ?_)⟩) (fun h => absurd h (by omega))
      · have ho0 : ¬ o = 0 := fun h => hx (by rw [h]; rfl)
        unfold ini
        rw [if_neg ho0]
        exact ht j (by omega)
      · have ho0 : o = 0 := (nI_eq (a := o) (b := 0) (by omega) (by omega)).mp hx
        unfold ini
        rw [if_pos ho0, e2, e1, show Int32.toNatClampNeg 6 = 6 from rfl, show Int32.toNatClampNeg 5 = 5 from rfl]
        by_cases h6 : j = 6
        · subst h6; rw [up_s]; rfl
        · rw [up_n h6]
          by_cases h5 : j = 5
          · subst h5; rw [up_s]; rfl
          · rw [up_n h5, if_neg h5, if_neg h6]
            exact ht j (by omega)
    | succ m ih =>
      intro k t hk ht
      apply hP
      refine pk_le 132 k (fun h => absurd h (by omega)) (fun _ => ⟨vp_in_nI (by omega) (by omega), fun t1 e1 v e2 => ?_⟩)
      rw [e2, nI_1, e1, nI_clamp (by omega)]
      refine ih (k + 1) _ (by omega) (fun j hj => ?_)
      by_cases hjk : j = k
      · subst hjk; exact up_s
      · rw [up_n hjk]; exact ht j (by omega)
  exact loop 132 0 told (by omega) (fun j hj => absurd hj (by omega))
