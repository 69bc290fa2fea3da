theorem e_fill_3 {t : Nat → Int32} {v : Int32} {post : (Nat → Int32) → Prop} (h : ∀ t', (∀ j, j < 9 → t' j = v) → post t') : q_wr_J7_fill_53178_3_0 t v post := by
  intro P hP
  have loop : ∀ m k (t : Nat → Int32), m + k = 9 → (∀ j, j < k → t j = v) → P (nI k) t := by
    intro m
    induction m with
    | zero =>
      intro k t hk ht
      apply hP
      exact pk_le 9 k (fun _ => h t (fun j hj => ht j (by omega))) (fun h9 => absurd h9 (by omega))
    | succ m ih =>
      intro k t hk ht
      apply hP
      refine pk_le 9 k (fun h9 => absurd h9 (by omega)) (fun _ => ⟨vp_in_nI (by omega) (by omega), fun t1 e1 v2 e2 => ?_⟩)
      rw [e2, nI_1, e1, nI_clamp (by omega)]
      refine ih (k + 1) _ (by omega) (fun j hj => ?_)
      by_cases hjk : j = k
      · subst hjk; exact up_s
      · rw [up_n hjk]; exact ht j (by omega)
  exact loop 9 0 t (by omega) (fun j hj => absurd hj (by omega))
theorem e_fill_4 {t : Nat → Int32} {v : Int32} {post : (Nat → Int32) → Prop} (h : ∀ t', (∀ j, j < 81 → t' j = v) → post t') : q_wr_J7_fill_53178_4_0 t v post := by
  intro P hP
  have loop : ∀ m k (t : Nat → Int32), m + k = 81 → (∀ j, j < k → t j = v) → P (nI k) t := by
    intro m
    induction m with
    | zero =>
      intro k t hk ht
      apply hP
      exact pk_le 81 k (fun _ => h t (fun j hj => ht j (by omega))) (fun h9 => absurd h9 (by omega))
    | succ m ih =>
      intro k t hk ht
      apply hP
      refine pk_le 81 k (fun h9 => absurd h9 (by omega)) (fun _ => ⟨vp_in_nI (by omega) (by omega), fun t1 e1 v2 e2 => ?_⟩)
      rw [e2, nI_1, e1, nI_clamp (by omega)]
      refine ih (k + 1) _ (by omega) (fun j hj => ?_)
      by_cases hjk : j = k
      · subst hjk; exact up_s
      · rw [up_n hjk]; exact ht j (by omega)
  exact loop 81 0 t (by omega) (fun j hj => absurd hj (by omega))
theorem e_fill_9 {t : Nat → Int32} {v : Int32} {post : (Nat → Int32) → Prop} (h : ∀ t', (∀ j, j < 6 → t' j = v) → post t') : q_wr_J7_fill_53178_9_0 t v post := by
  intro P hP
  have loop : ∀ m k (t : Nat → Int32), m + k = 6 → (∀ j, j < k → t j = v) → P (nI k) t := by
    intro m
    induction m with
    | zero =>
      intro k t hk ht
      apply hP
      exact pk_le 6 k (fun _ => h t (fun j hj => ht j (by omega))) (fun h9 => absurd h9 (by omega))
    | succ m ih =>
      intro k t hk ht
      apply hP
      refine pk_le 6 k (fun h9 => absurd h9 (by omega)) (fun _ => ⟨vp_in_nI (by omega) (by omega), fun t1 e1 v2 e2 => ?_⟩)
      rw [e2, nI_1, e1, nI_clamp (by omega)]
      refine ih (k + 1) _ (by omega) (fun j hj => ?_)
      by_cases hjk : j = k
      · subst hjk; exact up_s
      · rw [up_n hjk]; exact ht j (by omega)
  exact loop 6 0 t (by omega) (fun j hj => absurd hj (by omega))
set_option maxRecDepth 20000 in
theorem e_clearDraft {lf_huts lf_singers lf_villages lf_dams lf_echoes lf_deep lf_slide vf_deeds sf_facts cf_voices cf_step : Int32} {la_heights la_ladders la_minutes la_echoFrom la_echoTo la_homes la_talls la_known va_kinds va_firsts va_seconds sa_heard sa_huts sa_minutes ca_parts ca_heights : Nat → Int32} {h s : Int32} {o : Nat} {post : (Int32) → (Int32) → (Int32) → (Int32) → (Int32) → (Int32) → (Int32) → (Nat → Int32) → (Nat → Int32) → (Nat → Int32) → (Int32) → (Int32) → (Int32) → (Int32) → Int32 → Int32 → Prop} (ho : o ≤ 3) (hp : ∀ (lf_huts' : Int32) (lf_singers' : Int32) (lf_villages' : Int32) (lf_dams' : Int32) (lf_echoes' : Int32) (lf_deep' : Int32) (lf_slide' : Int32) (la_ladders' : Nat → Int32) (la_minutes' : Nat → Int32) (la_known' : Nat → Int32) (vf_deeds' : Int32) (sf_facts' : Int32) (cf_voices' : Int32) (cf_step' : Int32) (h' s' : Int32), DR o lf_huts' lf_singers' lf_villages' lf_dams' lf_echoes' lf_deep' lf_slide' la_heights la_ladders' la_minutes' la_echoFrom la_echoTo la_homes la_talls la_known' vf_deeds' va_kinds va_firsts va_seconds sf_facts' sa_heard sa_huts sa_minutes cf_voices' cf_step' ca_parts ca_heights h' s' (ini o) (-1) (-1) → post lf_huts' lf_singers' lf_villages' lf_dams' lf_echoes' lf_deep' lf_slide' la_ladders' la_minutes' la_known' vf_deeds' sf_facts' cf_voices' cf_step' h' s') : q_wr_X4_clearDraft_0 lf_huts lf_singers lf_villages lf_dams lf_echoes lf_deep lf_slide la_ladders la_minutes la_known vf_deeds sf_facts cf_voices cf_step h s (nI o) post := by
  have hoc : o = 0 ∨ o = 1 ∨ o = 2 ∨ o = 3 := by omega
  have z0 : ¬ ∃ j, j < (ini 0 0).toNatClampNeg := fun ⟨j, hj⟩ => absurd hj (by decide +revert)
  rcases hoc with rfl | rfl | rfl | rfl
  · refine ⟨fun h9 => absurd rfl h9, fun _ => ?_⟩
    refine e_fill_3 (fun t1 h1 => e_fill_4 (fun t2 h2 => e_fill_9 (fun t3 h3 => ?_)))
    refine hp _ _ _ _ _ _ _ _ _ _ _ _ _ _ _ _ (DR0 ⟨rfl, rfl, rfl, rfl, rfl, rfl, rfl, fun j hj => absurd ⟨j, hj⟩ z0, fun j hj => ?_, fun j hj => ?_, fun j hj => absurd ⟨j, hj⟩ z0, fun j hj => absurd ⟨j, hj⟩ z0, fun j hj => ?_⟩ HB_0 HB_0)
    · rw [h1 j hj]
      show _ = ini 0 (16 + j)
      unfold ini
      rw [if_pos rfl, if_neg (by omega), if_neg (by omega)]
    · rw [h2 j hj]
      show _ = ini 0 (51 + j)
      unfold ini
      rw [if_pos rfl, if_neg (by omega), if_neg (by omega)]
    · rw [h3 j hj]
      show _ = ini 0 (37 + j)
      unfold ini
      rw [if_pos rfl, if_neg (by omega), if_neg (by omega)]
  · exact ⟨fun _ => ⟨fun h9 => absurd rfl h9, fun _ => hp _ _ _ _ _ _ _ _ _ _ _ _ _ _ _ _ (DR1 ⟨rfl, fun j hj => absurd ⟨j, hj⟩ z0⟩)⟩, fun h9 => absurd h9 (by decide)⟩
  · exact ⟨fun _ => ⟨fun _ => ⟨fun h9 => absurd rfl h9, fun _ => hp _ _ _ _ _ _ _ _ _ _ _ _ _ _ _ _ (DR2 ⟨rfl, fun j hj => absurd ⟨j, hj⟩ z0⟩)⟩, fun h9 => absurd h9 (by decide)⟩, fun h9 => absurd h9 (by decide)⟩
  · exact ⟨fun _ => ⟨fun _ => ⟨fun _ => hp _ _ _ _ _ _ _ _ _ _ _ _ _ _ _ _ (DR3 ⟨rfl, rfl, fun j hj => absurd ⟨j, hj⟩ z0⟩), fun h9 => absurd h9 (by decide)⟩, fun h9 => absurd h9 (by decide)⟩, fun h9 => absurd h9 (by decide)⟩
theorem FQ_m {c : Bool} {lf f : Int32} (h : ¬ lf = 1) (hf : ¬ f = 1) : ¬ mF c lf f = 1 := by
  unfold mF
  by_cases hc : c = true
  · rw [if_pos hc]; exact h
  · rw [if_neg hc]
    by_cases hl : lf = 0
    · rw [if_pos hl]; exact hf
    · rw [if_neg hl]; exact h
theorem FQ_k {B : Nat → Int32} {n r w : Nat} {td : Nat → Int32} {fa : Int32} (h : ¬ fa = 1) : ∀ k, ¬ mkF B n r w td fa k = 1
  | 0 => FQ_m h (by decide)
  | k + 1 => FQ_m (FQ_k h k) (by decide)
theorem gd_z {B : Nat → Int32} {n r w : Nat} {td : Nat → Int32} {fa : Int32} : ∀ k, mkF B n r w td fa k = 0 → gd B n r w k = true
  | 0 => fun _ => rfl
  | k + 1 => fun h => by
    have h1 := mF_0 (by decide) h
    show (gd B n r w k && cW w k _ _) = true
    rw [gd_z k h1.2, h1.1]
    rfl
/-- told of what is missing -/
theorem e_missing {huts singers h s : Int32} {td : Nat → Int32} {fh fs : Int32} {post : Int32 → Prop} (hC : CB 0 td) (e0 : huts = td 0) (e1 : singers = td 1) (hh : HB h fh) (hs : HB s fs) (h1 : (td 0 ≤ fh ∨ td 1 ≤ fs) → post 1) (h0 : ¬ (td 0 ≤ fh ∨ td 1 ≤ fs) → post 0) : q_wr_X4_tellsOfMissing_0 huts singers h s post := by
  obtain ⟨p, hp, -, hp2, -⟩ := iv_nI hC.1 (by decide)
  obtain ⟨q, hq, -, hq2, -⟩ := iv_nI (hC.2 rfl).1 (by decide)
  have hp9 : p ≤ 9 := by
    have : ((if 0 = 0 then 9 else if 0 = 1 then 40 else if 0 = 2 then 10 else 9 : Int)) = 9 := rfl
    omega
  have a := hh p hp9
  have b := hs q (by omega)
  rw [e0, e1]
  rw [hp] at h1 h0 ⊢
  rw [hq] at h1 h0 ⊢
  refine ⟨fun c => h1 (Or.inl (Int32.not_lt.mp (fun h9 => c (a.mpr h9)))), fun c => ⟨fun c2 => h0 (fun h9 => h9.elim (fun h8 => absurd (a.mp c) (Int32.not_lt.mpr h8)) (fun h8 => absurd (b.mp c2) (Int32.not_lt.mpr h8))), fun c2 => h1 (Or.inr (Int32.not_lt.mp (fun h9 => c2 (b.mpr h9))))⟩⟩
set_option maxRecDepth 20000 in
theorem e_read {zf B : Nat → Int32} {lf_huts lf_singers lf_villages lf_dams lf_echoes lf_deep lf_slide vf_deeds sf_facts cf_voices cf_step : Int32} {la_heights la_ladders la_minutes la_echoFrom la_echoTo la_homes la_talls la_known va_kinds va_firsts va_seconds sa_heard sa_huts sa_minutes ca_parts ca_heights : Nat → Int32} {fa0 pl0 : Int32} {nums tp0 : Nat → Int32} {ln bh ki fi va h s : Int32} {n o : Nat} {post : (Int32) → (Int32) → (Int32) → (Int32) → (Int32) → (Int32) → (Int32) → (Nat → Int32) → (Nat → Int32) → (Nat → Int32) → (Nat → Int32) → (Nat → Int32) → (Nat → Int32) → (Nat → Int32) → (Nat → Int32) → (Int32) → (Nat → Int32) → (Nat → Int32) → (Nat → Int32) → (Int32) → (Nat → Int32) → (Nat → Int32) → (Nat → Int32) → (Int32) → (Int32) → (Nat → Int32) → (Nat → Int32) → Int32 → Int32 → (Nat → Int32) → (Nat → Int32) → Int32 → Int32 → Int32 → Int32 → Int32 → Int32 → Int32 → Prop} (hn : n ≤ 600) (ho : o ≤ 3) (hz : ∀ j, iv (-128) 127 (zf j)) (hB : ∀ j, j < n → zf j = B j) (hp : ∀ (lf_huts' : Int32) (lf_singers' : Int32) (lf_villages' : Int32) (lf_dams' : Int32) (lf_echoes' : Int32) (lf_deep' : Int32) (lf_slide' : Int32) (la_heights' : Nat → Int32) (la_ladders' : Nat → Int32) (la_minutes' : Nat → Int32) (la_echoFrom' : Nat → Int32) (la_echoTo' : Nat → Int32) (la_homes' : Nat → Int32) (la_talls' : Nat → Int32) (la_known' : Nat → Int32) (vf_deeds' : Int32) (va_kinds' : Nat → Int32) (va_firsts' : Nat → Int32) (va_seconds' : Nat → Int32) (sf_facts' : Int32) (sa_heard' : Nat → Int32) (sa_huts' : Nat → Int32) (sa_minutes' : Nat → Int32) (cf_voices' : Int32) (cf_step' : Int32) (ca_parts' : Nat → Int32) (ca_heights' : Nat → Int32) (nums' tp' : Nat → Int32) (ln' bh' ki' fi' va' h' s' : Int32), ((tx B n o).1 = 0 → (∃ fh fs, DR o lf_huts' lf_singers' lf_villages' lf_dams' lf_echoes' lf_deep' lf_slide' la_heights' la_ladders' la_minutes' la_echoFrom' la_echoTo' la_homes' la_talls' la_known' vf_deeds' va_kinds' va_firsts' va_seconds' sf_facts' sa_heard' sa_huts' sa_minutes' cf_voices' cf_step' ca_parts' ca_heights' h' s' (tx B n o).2.2 fh fs) ∧ CB o (tx B n o).2.2) → post lf_huts' lf_singers' lf_villages' lf_dams' lf_echoes' lf_deep' lf_slide' la_heights' la_ladders' la_minutes' la_echoFrom' la_echoTo' la_homes' la_talls' la_known' vf_deeds' va_kinds' va_firsts' va_seconds' sf_facts' sa_heard' sa_huts' sa_minutes' cf_voices' cf_step' ca_parts' ca_heights' (tx B n o).1 (tx B n o).2.1 nums' tp' ln' bh' ki' fi' va' h' s') : q_wr_X4_read_23_0 lf_huts lf_singers lf_villages lf_dams lf_echoes lf_deep lf_slide la_heights la_ladders la_minutes la_echoFrom la_echoTo la_homes la_talls la_known vf_deeds va_kinds va_firsts va_seconds sf_facts sa_heard sa_huts sa_minutes cf_voices cf_step ca_parts ca_heights fa0 pl0 nums tp0 ln bh ki fi va h s zf (nI n) (nI o) post := by
  have c0 : Int32.toNatClampNeg (0 : Int32) + Int32.toNatClampNeg (nI n) ≤ 600 := by rw [c_0, nI_clamp (by omega)]; omega
  refine ⟨nI_pos (by omega), c0, c0, fun i _ => iv_fitB (hz _), fun tp et => ?_⟩
  have hT : ∀ j, j < n → tp j = B j := by
    intro j hj
    rw [et, c_0, nI_clamp (by omega), pk_cpy_in (by omega) (by omega), Nat.zero_add, Nat.sub_zero]
    exact hB j hj
  refine e_clearDraft (la_heights := la_heights) (la_echoFrom := la_echoFrom) (la_echoTo := la_echoTo) (la_homes := la_homes) (la_talls := la_talls) (va_kinds := va_kinds) (va_firsts := va_firsts) (va_seconds := va_seconds) (sa_heard := sa_heard) (sa_huts := sa_huts) (sa_minutes := sa_minutes) (ca_parts := ca_parts) (ca_heights := ca_heights) ho (fun lf_huts' lf_singers' lf_villages' lf_dams' lf_echoes' lf_deep' lf_slide' la_ladders' la_minutes' la_known' vf_deeds' sf_facts' cf_voices' cf_step' h1 s1 hD => ?_)
  refine e_adv (r := 0) hn (by omega) hT (fun v1 hv1 => ?_)
  -- the end
  have fin : ∀ (lf_huts' : Int32) (lf_singers' : Int32) (lf_villages' : Int32) (lf_dams' : Int32) (lf_echoes' : Int32) (lf_deep' : Int32) (lf_slide' : Int32) (la_heights' : Nat → Int32) (la_ladders' : Nat → Int32) (la_minutes' : Nat → Int32) (la_echoFrom' : Nat → Int32) (la_echoTo' : Nat → Int32) (la_homes' : Nat → Int32) (la_talls' : Nat → Int32) (la_known' : Nat → Int32) (vf_deeds' : Int32) (va_kinds' : Nat → Int32) (va_firsts' : Nat → Int32) (va_seconds' : Nat → Int32) (sf_facts' : Int32) (sa_heard' : Nat → Int32) (sa_huts' : Nat → Int32) (sa_minutes' : Nat → Int32) (cf_voices' : Int32) (cf_step' : Int32) (ca_parts' : Nat → Int32) (ca_heights' : Nat → Int32) (fa pl : Int32) (nums' : Nat → Int32) (bh' ki' fi' va' h' s' : Int32), ((tx B n o = (1, pl, (tx B n o).2.2) ∧ fa = 1) ∨ ∃ td fh fs, CB o td ∧ (fa = 0 → DR o lf_huts' lf_singers' lf_villages' lf_dams' lf_echoes' lf_deep' lf_slide' la_heights' la_ladders' la_minutes' la_echoFrom' la_echoTo' la_homes' la_talls' la_known' vf_deeds' va_kinds' va_firsts' va_seconds' sf_facts' sa_heard' sa_huts' sa_minutes' cf_voices' cf_step' ca_parts' ca_heights' h' s' td fh fs) ∧ tx B n o = fin4 o n fa pl td fh fs) → q_wr_X4_read_23_78 lf_huts' lf_singers' lf_villages' lf_dams' lf_echoes' lf_deep' lf_slide' la_heights' la_ladders' la_minutes' la_echoFrom' la_echoTo' la_homes' la_talls' la_known' vf_deeds' va_kinds' va_firsts' va_seconds' sf_facts' sa_heard' sa_huts' sa_minutes' cf_voices' cf_step' ca_parts' ca_heights' fa pl nums' tp (nI n) bh' ki' fi' va' h' s' zf (nI o) post := by
    intro lf_huts' lf_singers' lf_villages' lf_dams' lf_echoes' lf_deep' lf_slide' la_heights' la_ladders' la_minutes' la_echoFrom' la_echoTo' la_homes' la_talls' la_known' vf_deeds' va_kinds' va_firsts' va_seconds' sf_facts' sa_heard' sa_huts' sa_minutes' cf_voices' cf_step' ca_parts' ca_heights' fa pl nums' bh' ki' fi' va' h' s' hc
    rcases hc with ⟨hR, hf⟩ | ⟨td, fh, fs, hC, hD, hR⟩
    · subst hf
      have e1 : (tx B n o).1 = 1 := by rw [hR]
      have e2 : (tx B n o).2.1 = pl := by rw [hR]
      have g := hp lf_huts' lf_singers' lf_villages' lf_dams' lf_echoes' lf_deep' lf_slide' la_heights' la_ladders' la_minutes' la_echoFrom' la_echoTo' la_homes' la_talls' la_known' vf_deeds' va_kinds' va_firsts' va_seconds' sf_facts' sa_heard' sa_huts' sa_minutes' cf_voices' cf_step' ca_parts' ca_heights' nums' tp (nI n) bh' ki' fi' va' h' s' (fun h9 => absurd (e1.symm.trans h9) (by decide))
      rw [e1, e2] at g
      exact ⟨fun _ => g, fun h9 => absurd h9 (by decide)⟩
    · have plain : ¬ (fa = 0 ∧ o = 0 ∧ (td 0 ≤ fh ∨ td 1 ≤ fs)) → post lf_huts' lf_singers' lf_villages' lf_dams' lf_echoes' lf_deep' lf_slide' la_heights' la_ladders' la_minutes' la_echoFrom' la_echoTo' la_homes' la_talls' la_known' vf_deeds' va_kinds' va_firsts' va_seconds' sf_facts' sa_heard' sa_huts' sa_minutes' cf_voices' cf_step' ca_parts' ca_heights' fa pl nums' tp (nI n) bh' ki' fi' va' h' s' := by
        intro hcc
        have e : tx B n o = (fa, pl, td) := by rw [hR]; unfold fin4; rw [if_neg hcc]
        have g := hp lf_huts' lf_singers' lf_villages' lf_dams' lf_echoes' lf_deep' lf_slide' la_heights' la_ladders' la_minutes' la_echoFrom' la_echoTo' la_homes' la_talls' la_known' vf_deeds' va_kinds' va_firsts' va_seconds' sf_facts' sa_heard' sa_huts' sa_minutes' cf_voices' cf_step' ca_parts' ca_heights' nums' tp (nI n) bh' ki' fi' va' h' s' (fun h9 => by
          rw [e] at h9 ⊢
          exact ⟨⟨fh, fs, hD h9⟩, hC⟩)
        rw [e] at g
        exact g
      refine ⟨fun hz => plain (fun h9 => hz h9.1), fun hz => ⟨fun hx => plain (fun h9 => hx (by rw [h9.2.1]; rfl)), fun hx => ?_⟩⟩
      have ho0 : o = 0 := (nI_eq (a := o) (b := 0) (by omega) (by omega)).mp hx
      subst ho0
      obtain ⟨hL, hh, hs⟩ := (hD hz).1 rfl
      refine e_missing hC hL.1 hL.2.1 hh hs (fun hm => oi ?_) (fun hm => iz (plain (fun h9 => hm h9.2.2)))
      have e : tx B n 0 = (4, nI n, td) := by rw [hR]; unfold fin4; rw [if_pos ⟨hz, rfl, hm⟩]
      have g := hp lf_huts' lf_singers' lf_villages' lf_dams' lf_echoes' lf_deep' lf_slide' la_heights' la_ladders' la_minutes' la_echoFrom' la_echoTo' la_homes' la_talls' la_known' vf_deeds' va_kinds' va_firsts' va_seconds' sf_facts' sa_heard' sa_huts' sa_minutes' cf_voices' cf_step' ca_parts' ca_heights' nums' tp (nI n) bh' ki' fi' va' h' s' (fun h9 => by
        rw [e] at h9
        exact absurd h9 (show ¬ (4 : Int32) = 0 by decide))
      rw [e] at g
      exact ⟨fun h9 => absurd hz h9, fun _ => g⟩
  intro P hP
  have bad : ∀ i (lf_huts' : Int32) (lf_singers' : Int32) (lf_villages' : Int32) (lf_dams' : Int32) (lf_echoes' : Int32) (lf_deep' : Int32) (lf_slide' : Int32) (la_heights' : Nat → Int32) (la_ladders' : Nat → Int32) (la_minutes' : Nat → Int32) (la_echoFrom' : Nat → Int32) (la_echoTo' : Nat → Int32) (la_homes' : Nat → Int32) (la_talls' : Nat → Int32) (la_known' : Nat → Int32) (vf_deeds' : Int32) (va_kinds' : Nat → Int32) (va_firsts' : Nat → Int32) (va_seconds' : Nat → Int32) (sf_facts' : Int32) (sa_heard' : Nat → Int32) (sa_huts' : Nat → Int32) (sa_minutes' : Nat → Int32) (cf_voices' : Int32) (cf_step' : Int32) (ca_parts' : Nat → Int32) (ca_heights' : Nat → Int32) (pl : Int32) (nums' : Nat → Int32) (bh' ki' fi' va' h' s' : Int32), tx B n o = (1, pl, (tx B n o).2.2) → P i lf_huts' lf_singers' lf_villages' lf_dams' lf_echoes' lf_deep' lf_slide' la_heights' la_ladders' la_minutes' la_echoFrom' la_echoTo' la_homes' la_talls' la_known' vf_deeds' va_kinds' va_firsts' va_seconds' sf_facts' sa_heard' sa_huts' sa_minutes' cf_voices' cf_step' ca_parts' ca_heights' 1 pl nums' bh' ki' fi' va' h' s' := by
    intro i lf_huts' lf_singers' lf_villages' lf_dams' lf_echoes' lf_deep' lf_slide' la_heights' la_ladders' la_minutes' la_echoFrom' la_echoTo' la_homes' la_talls' la_known' vf_deeds' va_kinds' va_firsts' va_seconds' sf_facts' sa_heard' sa_huts' sa_minutes' cf_voices' cf_step' ca_parts' ca_heights' pl nums' bh' ki' fi' va' h' s' hR
    apply hP
    have f := fin lf_huts' lf_singers' lf_villages' lf_dams' lf_echoes' lf_deep' lf_slide' la_heights' la_ladders' la_minutes' la_echoFrom' la_echoTo' la_homes' la_talls' la_known' vf_deeds' va_kinds' va_firsts' va_seconds' sf_facts' sa_heard' sa_huts' sa_minutes' cf_voices' cf_step' ca_parts' ca_heights' 1 pl nums' bh' ki' fi' va' h' s' (Or.inl ⟨hR, rfl⟩)
    exact ⟨fun _ => f, fun _ => ⟨fun _ => f, fun _ => ⟨fun _ => f, fun h9 => absurd rfl h9⟩⟩⟩
  have loop : ∀ m r i (lf_huts' : Int32) (lf_singers' : Int32) (lf_villages' : Int32) (lf_dams' : Int32) (lf_echoes' : Int32) (lf_deep' : Int32) (lf_slide' : Int32) (la_heights' : Nat → Int32) (la_ladders' : Nat → Int32) (la_minutes' : Nat → Int32) (la_echoFrom' : Nat → Int32) (la_echoTo' : Nat → Int32) (la_homes' : Nat → Int32) (la_talls' : Nat → Int32) (la_known' : Nat → Int32) (vf_deeds' : Int32) (va_kinds' : Nat → Int32) (va_firsts' : Nat → Int32) (va_seconds' : Nat → Int32) (sf_facts' : Int32) (sa_heard' : Nat → Int32) (sa_huts' : Nat → Int32) (sa_minutes' : Nat → Int32) (cf_voices' : Int32) (cf_step' : Int32) (ca_parts' : Nat → Int32) (ca_heights' : Nat → Int32) (fa pl : Int32) (nums' : Nat → Int32) (va' h' s' : Int32) (td : Nat → Int32) (fh fs : Int32), n + 1 ≤ m + r → r ≤ n → i ≤ r → ¬ fa = 1 → CB o td → (tK B n r = 2 → va' = tV B n r) → (fa = 0 → DR o lf_huts' lf_singers' lf_villages' lf_dams' lf_echoes' lf_deep' lf_slide' la_heights' la_ladders' la_minutes' la_echoFrom' la_echoTo' la_homes' la_talls' la_known' vf_deeds' va_kinds' va_firsts' va_seconds' sf_facts' sa_heard' sa_huts' sa_minutes' cf_voices' cf_step' ca_parts' ca_heights' h' s' td fh fs) → tx B n o = go B n o m r fa pl td fh fs → P (nI i) lf_huts' lf_singers' lf_villages' lf_dams' lf_echoes' lf_deep' lf_slide' la_heights' la_ladders' la_minutes' la_echoFrom' la_echoTo' la_homes' la_talls' la_known' vf_deeds' va_kinds' va_firsts' va_seconds' sf_facts' sa_heard' sa_huts' sa_minutes' cf_voices' cf_step' ca_parts' ca_heights' fa pl nums' (nI (tN B n r)) (nI (tK B n r)) (nI (tF B n r)) va' h' s' := by
    intro m
    induction m with
    | zero => intro r i lf_huts' lf_singers' lf_villages' lf_dams' lf_echoes' lf_deep' lf_slide' la_heights' la_ladders' la_minutes' la_echoFrom' la_echoTo' la_homes' la_talls' la_known' vf_deeds' va_kinds' va_firsts' va_seconds' sf_facts' sa_heard' sa_huts' sa_minutes' cf_voices' cf_step' ca_parts' ca_heights' fa pl nums' va' h' s' td fh fs h1 h2; omega
    | succ m ih =>
      intro r i lf_huts' lf_singers' lf_villages' lf_dams' lf_echoes' lf_deep' lf_slide' la_heights' la_ladders' la_minutes' la_echoFrom' la_echoTo' la_homes' la_talls' la_known' vf_deeds' va_kinds' va_firsts' va_seconds' sf_facts' sa_heard' sa_huts' sa_minutes' cf_voices' cf_step' ca_parts' ca_heights' fa pl nums' va' h' s' td fh fs hm hr hi hf1 hC hv hD hR
      have htk := tk_le (B := B) hr
      have htF := tF_le (B := B) hr
      apply hP
      have endd : tK B n r = 0 → q_wr_X4_read_23_78 lf_huts' lf_singers' lf_villages' lf_dams' lf_echoes' lf_deep' lf_slide' la_heights' la_ladders' la_minutes' la_echoFrom' la_echoTo' la_homes' la_talls' la_known' vf_deeds' va_kinds' va_firsts' va_seconds' sf_facts' sa_heard' sa_huts' sa_minutes' cf_voices' cf_step' ca_parts' ca_heights' fa pl nums' tp (nI n) (nI (tN B n r)) (nI (tK B n r)) (nI (tF B n r)) va' h' s' zf (nI o) post := by
        intro hk
        rw [go, if_pos hk] at hR
        exact fin _ _ _ _ _ _ _ _ _ _ _ _ _ _ _ _ _ _ _ _ _ _ _ _ _ _ _ fa pl _ _ _ _ _ _ _ (Or.inr ⟨td, fh, fs, hC, hD, hR⟩)
      refine pk_le n i (fun h9 => endd ?_) (fun _ => pk_eq (tK B n r) 0 endd (fun hk => ⟨fun h9 => absurd h9 hf1, fun _ => ?_⟩))
      · by_cases hk : tK B n r = 0
        · exact hk
        · have := htk.2.2.1 hk
          omega
      · rw [go, if_neg hk] at hR
        refine e_readLine hn hr ho hT hv hC hD (fun hl lf_huts2 lf_singers2 lf_villages2 lf_dams2 lf_echoes2 lf_deep2 lf_slide2 la_heights2 la_ladders2 la_minutes2 la_echoFrom2 la_echoTo2 la_homes2 la_talls2 la_known2 vf_deeds2 va_kinds2 va_firsts2 va_seconds2 sf_facts2 sa_heard2 sa_huts2 sa_minutes2 cf_voices2 cf_step2 ca_parts2 ca_heights2 nums2 b2 k2 f2 va2 h2 s2 v e => ?_) (fun hl lf_huts2 lf_singers2 lf_villages2 lf_dams2 lf_echoes2 lf_deep2 lf_slide2 la_heights2 la_ladders2 la_minutes2 la_echoFrom2 la_echoTo2 la_homes2 la_talls2 la_known2 vf_deeds2 va_kinds2 va_firsts2 va_seconds2 sf_facts2 sa_heard2 sa_huts2 sa_minutes2 cf_voices2 cf_step2 ca_parts2 ca_heights2 nums2 va2 h2 s2 hD2 hv2 v e => ?_)
        · rw [if_neg hl] at hR
          exact bad _ _ _ _ _ _ _ _ _ _ _ _ _ _ _ _ _ _ _ _ _ _ _ _ _ _ _ _ _ _ _ _ _ _ _ _ (by rw [hR])
        · rw [if_pos hl] at hR
          have hlt : wOf B n r o < 20 := by
            rcases wd_cases (B := B) (n := n) (r := r) ho with h20 | h20
            · exfalso
              unfold lb at hl
              rw [if_pos h20.1] at hl
              omega
            · exact h20.1
          have hP2 := (wd_cases (B := B) (n := n) (r := r) ho).resolve_left (fun h => by omega)
          have hps := ps_le (B := B) hr (nW (wOf B n r o) + 2)
          have hpl : r + 1 ≤ ps B n r (nW (wOf B n r o) + 2) := ps_lt hr hk (nW (wOf B n r o) + 1)
          rw [e, nI_1]
          refine ih _ (i + 1) _ _ _ _ _ _ _ _ _ _ _ _ _ _ _ _ _ _ _ _ _ _ _ _ _ _ _ _ _ _ _ _ _ _ _ _ (by omega) hps.2 (by omega) (FQ_k hf1 _) (CB_ln ho ⟨hP2.2.1, hP2.2.2.1⟩ hC) hv2 (fun h9 => ?_) hR
          rw [gd_z _ h9]
          exact hD2 h9
  exact loop (n + 1) 0 0 _ _ _ _ _ _ _ _ _ _ _ _ _ _ _ _ _ _ _ _ _ _ _ _ _ _ _ 0 (-1) _ _ _ _ (ini o) (-1) (-1) (by omega) (by omega) (by omega) (by decide) (CB_ini ho (fun _ _ => rfl)) hv1 (fun _ => hD) rfl
