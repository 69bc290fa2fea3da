section
theorem e_fill9_3 {t : Nat → Int32} {x : Int32} {post : (Nat → Int32) → Prop} (hp : ∀ t', (∀ j, j < 9 → t' j = x) → post t') : q_wp_J7_fill_53178_3_0 t x post := by
  intro P hP
  have loop : ∀ m i (t : Nat → Int32), m = 9 - i → i ≤ 9 → (∀ j, j < i → t j = x) → P (nI i) t := by
    intro m
    induction m using Nat.strongRecOn with
    | ind m ih =>
      intro i t hm hi hS
      apply hP
      refine pk_le 9 i (fun h9 => hp t (fun j hj => hS j (by omega))) (fun h9 => ⟨vp_in_nI h9 (by omega), fun t2 e1 v e2 => ?_⟩)
      rw [e2, nI_1]
      refine ih (9 - (i + 1)) (by omega) (i + 1) t2 rfl (by omega) (fun j hj => ?_)
      rw [e1, nI_clamp (by omega)]
      by_cases hji : j = i
      · rw [hji, up_s]
      · rw [up_n hji]; exact hS j (by omega)
  exact loop _ 0 t rfl (by omega) (fun j hj => absurd hj (Nat.not_lt_zero j))
theorem e_fill9_4 {t : Nat → Int32} {x : Int32} {post : (Nat → Int32) → Prop} (hp : ∀ t', (∀ j, j < 9 → t' j = x) → post t') : q_wp_J7_fill_53178_4_0 t x post := by
  intro P hP
  have loop : ∀ m i (t : Nat → Int32), m = 9 - i → i ≤ 9 → (∀ j, j < i → t j = x) → P (nI i) t := by
    intro m
    induction m using Nat.strongRecOn with
    | ind m ih =>
      intro i t hm hi hS
      apply hP
      refine pk_le 9 i (fun h9 => hp t (fun j hj => hS j (by omega))) (fun h9 => ⟨vp_in_nI h9 (by omega), fun t2 e1 v e2 => ?_⟩)
      rw [e2, nI_1]
      refine ih (9 - (i + 1)) (by omega) (i + 1) t2 rfl (by omega) (fun j hj => ?_)
      rw [e1, nI_clamp (by omega)]
      by_cases hji : j = i
      · rw [hji, up_s]
      · rw [up_n hji]; exact hS j (by omega)
  exact loop _ 0 t rfl (by omega) (fun j hj => absurd hj (Nat.not_lt_zero j))
theorem e_fill9_7 {t : Nat → Int32} {x : Int32} {post : (Nat → Int32) → Prop} (hp : ∀ t', (∀ j, j < 9 → t' j = x) → post t') : q_wp_J7_fill_53178_7_0 t x post := by
  intro P hP
  have loop : ∀ m i (t : Nat → Int32), m = 9 - i → i ≤ 9 → (∀ j, j < i → t j = x) → P (nI i) t := by
    intro m
    induction m using Nat.strongRecOn with
    | ind m ih =>
      intro i t hm hi hS
      apply hP
      refine pk_le 9 i (fun h9 => hp t (fun j hj => hS j (by omega))) (fun h9 => ⟨vp_in_nI h9 (by omega), fun t2 e1 v e2 => ?_⟩)
      rw [e2, nI_1]
      refine ih (9 - (i + 1)) (by omega) (i + 1) t2 rfl (by omega) (fun j hj => ?_)
      rw [e1, nI_clamp (by omega)]
      by_cases hji : j = i
      · rw [hji, up_s]
      · rw [up_n hji]; exact hS j (by omega)
  exact loop _ 0 t rfl (by omega) (fun j hj => absurd hj (Nat.not_lt_zero j))
def TQ (td : Nat → Int32) (n f : Nat) : Nat → Nat → Nat
  | 0, _ => 0
  | j + 1, h => TQ td n f j h + NW td n f (j + 1) h
def LQ (td : Nat → Int32) (n f : Nat) : Nat → Nat → Nat
  | 0, _ => 0
  | j + 1, h => if 0 < NW td n f (j + 1) h then j + 1 else LQ td n f j h
section
variable {td : Nat → Int32} {n f : Nat}
theorem TQ_PW {h : Nat} : ∀ j, PW td n f (j + 1) h = NW td n f 0 h + TQ td n f j h
  | 0 => by
    show PW td n f 0 h + NW td n f 0 h = NW td n f 0 h + 0
    show 0 + NW td n f 0 h = NW td n f 0 h + 0
    omega
  | j + 1 => by
    rw [PW_s, TQ_PW j]
    show NW td n f 0 h + TQ td n f j h + NW td n f (j + 1) h = NW td n f 0 h + (TQ td n f j h + NW td n f (j + 1) h)
    omega
theorem TQ_WY {h : Nat} (hh : h < n) (hf : ¬ h = f) : TQ td n f (n - 1) h = WY td n f h := by
  have g := TQ_PW (td := td) (n := n) (f := f) (h := h) (n - 1)
  rw [show n - 1 + 1 = n by omega, show NW td n f 0 h = 0 from if_neg hf] at g
  unfold WY
  omega
theorem NW_FR {k a : Nat} (ha : a < n) (hd : dam td a = false) (h0 : 0 < NW td n f k a) : ¬ FRr td n f a = 0 := by
  unfold FRr
  by_cases q : a = f
  · subst q
    rw [if_pos rfl, if_neg (by rw [hd]; decide)]
    decide
  · rw [if_neg q]
    have r := NW_rk k a h0
    have b := rk_b (td := td) ha
    have g := PW_ge (td := td) (n := n) (f := f) (h := a) (k := k) n (by omega)
    unfold WY
    omega
theorem FL_ge (hn9 : n ≤ 9) : ∀ k h, h < n → 0 < NW td n f k h → k ≤ FLg td n f h
  | 0, _, _, _ => Nat.zero_le _
  | k + 1, h, hh, h0 => by
    obtain ⟨a, ha, hl, g⟩ := NW_p h0
    have ih := FL_ge hn9 k a ha g
    have hg : gcB td n f a h = true := by
      unfold gcB
      rw [hl, decide_eq_true (NW_FR ha (lead_dam hl).1 g)]
      rfl
    have m := mx_ge (g := fun a => if gcB td n f a h = true then FLg td n f a + 1 else 0) n ha
    have e : (if gcB td n f a h = true then FLg td n f a + 1 else 0) = FLg td n f a + 1 := if_pos hg
    rw [e, ← FLg_rec hn9 hh] at m
    omega
theorem FL_cs (hn9 : n ≤ 9) {h : Nat} (hh : h < n) : FLg td n f h = 0 ∨ ∃ a, a < n ∧ gcB td n f a h = true ∧ FLg td n f h = FLg td n f a + 1 := by
  rw [FLg_rec hn9 hh]
  rcases mx_ex (g := fun a => if gcB td n f a h = true then FLg td n f a + 1 else 0) n with e | ⟨a, ha, e⟩
  · exact Or.inl e
  · by_cases q : gcB td n f a h = true
    · rw [if_pos q] at e
      exact Or.inr ⟨a, ha, q, e⟩
    · rw [if_neg q] at e
      exact Or.inl e
theorem FR_up {a h : Nat} (ha : a < n) (hh : h < n) (hg : gcB td n f a h = true) : ¬ FRr td n f h = 0 := by
  have g := gc_lead hg
  have s1 := sm_ge (g := fun a => if leadB td a h = true then FRr td n f a else 0) n ha
  have s2 : (if leadB td a h = true then FRr td n f a else 0) = FRr td n f a := if_pos g.1
  rw [s2] at s1
  rw [FRr_rec hh]
  have := g.2
  omega
theorem FL_at (hn9 : n ≤ 9) : ∀ r h, h < n → rk td n h < r → ¬ FRr td n f h = 0 → 0 < NW td n f (FLg td n f h) h
  | 0, _, _, hr, _ => absurd hr (Nat.not_lt_zero _)
  | r + 1, h, hh, hr, h0 => by
    rcases FL_cs (td := td) (f := f) hn9 hh with e | ⟨a, ha, hg, e⟩
    · rw [e]
      by_cases q : h = f
      · show 0 < (if h = f then 1 else 0)
        rw [if_pos q]
        decide
      · exfalso
        have h1 : ¬ WY td n f h = 0 := by
          unfold FRr at h0
          rw [if_neg q] at h0
          exact h0
        obtain ⟨k, hk, g⟩ := PW_ex (td := td) (f := f) (h := h) n (Nat.pos_of_ne_zero h1)
        have h2 := FL_ge hn9 k h hh g
        have h3 : k = 0 := by omega
        subst h3
        have h4 : NW td n f 0 h = 0 := if_neg q
        omega
    · rw [e]
      have gl := gc_lead hg
      have := rk_lt ha gl.1
      exact NW_n ha gl.1 (FL_at hn9 r a ha (by omega) gl.2)
theorem LQ_ok {h : Nat} : ∀ j, (LQ td n f j h = 0 ∨ (LQ td n f j h ≤ j ∧ 0 < NW td n f (LQ td n f j h) h)) ∧ ∀ k, 1 ≤ k → k ≤ j → 0 < NW td n f k h → k ≤ LQ td n f j h
  | 0 => ⟨Or.inl rfl, fun k h1 h2 _ => by omega⟩
  | j + 1 => by
    obtain ⟨i1, i2⟩ := LQ_ok (h := h) j
    have e : LQ td n f (j + 1) h = if 0 < NW td n f (j + 1) h then j + 1 else LQ td n f j h := rfl
    rw [e]
    by_cases q : 0 < NW td n f (j + 1) h
    · rw [if_pos q]
      exact ⟨Or.inr ⟨Nat.le_refl _, q⟩, fun k _ h2 _ => h2⟩
    · rw [if_neg q]
      refine ⟨i1.elim Or.inl (fun h => Or.inr ⟨by omega, h.2⟩), fun k h1 h2 h3 => ?_⟩
      by_cases e2 : k = j + 1
      · subst e2; exact absurd h3 q
      · exact i2 k h1 (by omega) h3
theorem LQ_FL (hn9 : n ≤ 9) {h : Nat} (hh : h < n) : LQ td n f (n - 1) h = FLg td n f h := by
  obtain ⟨i1, i2⟩ := LQ_ok (td := td) (n := n) (f := f) (h := h) (n - 1)
  have u : LQ td n f (n - 1) h ≤ FLg td n f h := by
    rcases i1 with e | ⟨_, g⟩
    · omega
    · exact FL_ge hn9 _ h hh g
  have l : FLg td n f h ≤ LQ td n f (n - 1) h := by
    rcases FL_cs (td := td) (f := f) hn9 hh with e | ⟨a, ha, hg, e⟩
    · omega
    · have g := FL_at (td := td) (f := f) hn9 10 h hh (by have := rk_b (td := td) hh; omega) (FR_up ha hh hg)
      have b1 := NW_rk _ h g
      have b2 := rk_b (td := td) hh
      exact i2 _ (by omega) (by omega) g
  omega
theorem FSt_un (hn9 : n ≤ 9) {a : Nat} (ha : a < n) (hf : ¬ a = f) (h0 : FRr td n f a = 0) : FSt td n f a = 1000 := by
  rw [FSt_rec hn9 ha, if_neg hf]
  exact mn_hi n (fun b hb1 => by
    show 1000 ≤ (if gcB td n f b a = true then max (FSt td n f b) (drp td b a) else 1000)
    rw [if_neg (fun hg => FR_up hb1 ha hg h0)]
    exact Nat.le_refl _)
theorem FSt_all (hR : RNG td) (hn9 : n ≤ 9) {h : Nat} (hh : h < n) (hf : ¬ h = f) : FSt td n f h = mn (fun a => if leadB td a h = true then max (FSt td n f a) (drp td a h) else 1000) n := by
  rw [FSt_rec hn9 hh, if_neg hf]
  exact mn_ext n (fun a ha => by
    show (if gcB td n f a h = true then max (FSt td n f a) (drp td a h) else 1000) = (if leadB td a h = true then max (FSt td n f a) (drp td a h) else 1000)
    by_cases q : leadB td a h = true
    · by_cases q2 : FRr td n f a = 0
      · have hg : ¬ gcB td n f a h = true := fun hg => (gc_lead hg).2 q2
        have hne : ¬ a = f := fun e => by
          subst e
          unfold FRr at q2
          rw [if_pos rfl, if_neg (by rw [(lead_dam q).1]; decide)] at q2
          exact absurd q2 (by decide)
        have d := drp_b (h := h) hR (show a < 9 by omega)
        rw [if_neg hg, if_pos q, FSt_un hn9 ha hne q2]
        omega
      · rw [if_pos q, if_pos (by unfold gcB; rw [q, decide_eq_true q2]; rfl)]
    · rw [if_neg q, if_neg (fun hg => q (gc_lead hg).1)])
end
section
variable {td : Nat → Int32} {huts singers villages dams echoes deep slide : Int32} {heights ladders minutes echoFrom echoTo homes talls known : Nat → Int32}
theorem e_routesOnX {now : Nat → Int32} {v : Nat → Nat} {n h : Nat} {post : Int32 → Prop} (hD : LX td huts singers dams echoes deep heights ladders minutes echoFrom echoTo talls) (hn : td 0 = nI n) (hn9 : n ≤ 9) (hh : h < n) (hv : ∀ a, a < n → now a = nI (v a)) (hp : post (nI (sm (fun a => if leadB td a h = true then v a else 0) n))) : q_wp_X7_routesOn_9_0 now huts dams heights minutes (nI h) post := by
  intro P hP
  have loop : ∀ m a, m = n - a → a ≤ n → P (nI (sm (fun a => if leadB td a h = true then v a else 0) a)) (nI a) := by
    intro m
    induction m using Nat.strongRecOn with
    | ind m ih =>
      intro a hm ha
      apply hP
      refine pk_le n a (fun h9 => by rw [show a = n by omega]; exact hp) (fun h9 => ?_) (hD.1.trans hn)
      have e : sm (fun a => if leadB td a h = true then v a else 0) (a + 1) = sm (fun a => if leadB td a h = true then v a else 0) a + (if leadB td a h = true then v a else 0) := rfl
      have nx : ∀ y : Int32, y = nI (sm (fun a => if leadB td a h = true then v a else 0) (a + 1)) → q_wp_X7_routesOn_9_34 P now huts dams heights minutes (nI h) y (nI a) post := by
        intro y hy w ew
        rw [ew, hy, nI_1]
        exact ih (n - (a + 1)) (by omega) (a + 1) rfl (by omega)
      refine e_leadsX hD hn hn9 h9 hh (fun q => iz (nx _ ?_)) (fun q => oi ⟨vp_in_nI (by omega) (by omega), fun w ew => nx _ ?_⟩)
      · rw [e, if_neg (by rw [q]; decide)]; rfl
      · rw [nI_clamp (by omega), hv a h9, nI_add] at ew
        rw [ew, e, if_pos q]
  exact loop _ 0 rfl (by omega)
theorem e_traceX {to lo nw th : Nat → Int32} {x2 : Int32} {n f : Nat} {post : (Nat → Int32) → (Nat → Int32) → (Nat → Int32) → (Nat → Int32) → Prop} (hD : LX td huts singers dams echoes deep heights ladders minutes echoFrom echoTo talls) (hn : td 0 = nI n) (hn9 : n ≤ 9) (hf : f < n) (e2 : x2 = nI f)
    (hp : ∀ to lo nw th, (∀ h, h < n → (¬ h = f → to h = nI (WY td n f h)) ∧ lo h = nI (FLg td n f h)) → post to lo nw th) : q_wp_X7_trace_9_0 to lo nw th huts dams heights minutes x2 post := by
  subst e2
  have h0 : huts = nI n := hD.1.trans hn
  refine e_fill9_3 (fun to1 h1 => e_fill9_4 (fun lo1 h2 => e_fill9_7 (fun nw1 h3 => ⟨vp_in_nI (by omega) (by omega), fun nw2 h4 => ?_⟩)))
  rw [nI_clamp (by omega)] at h4
  intro P hP
  have loop : ∀ m j (to lo nw th : Nat → Int32), m = n - j → j + 1 ≤ n → (∀ h, h < n → to h = nI (TQ td n f j h) ∧ lo h = nI (LQ td n f j h) ∧ nw h = nI (NW td n f j h)) → P (nI (j + 1)) to lo nw th := by
    intro m
    induction m using Nat.strongRecOn with
    | ind m ih =>
      intro j to lo nw th hm hj hI
      apply hP
      refine pk_le n (j + 1) (fun h9 => hp to lo nw th (fun h hh => ?_)) (fun h9 => ?_) h0
      · obtain ⟨g1, g2, _⟩ := hI h hh
        rw [show j = n - 1 by omega] at g1 g2
        exact ⟨fun hne => by rw [g1, TQ_WY hh hne], by rw [g2, LQ_FL hn9 hh]⟩
      · intro P2 hP2
        have loop2 : ∀ m h (to lo th : Nat → Int32), m = n - h → h ≤ n → (∀ h', h' < n → to h' = nI (if h' < h then TQ td n f (j + 1) h' else TQ td n f j h') ∧ lo h' = nI (if h' < h then LQ td n f (j + 1) h' else LQ td n f j h') ∧ (h' < h → th h' = nI (NW td n f (j + 1) h'))) → P2 (nI h) to lo th := by
          intro m
          induction m using Nat.strongRecOn with
          | ind m ih2 =>
            intro h to lo th hm2 hh hJ
            apply hP2
            refine pk_le n h (fun h8 nw' enw v ev => ?_) (fun h8 => ?_) h0
            · rw [ev, nI_1]
              refine ih (n - (j + 1)) (by omega) (j + 1) to lo nw' th rfl (by omega) (fun h' hh' => ?_)
              obtain ⟨g1, g2, g3⟩ := hJ h' hh'
              rw [if_pos (show h' < h by omega)] at g1 g2
              exact ⟨g1, g2, by rw [cpy0 (n := 9) enw rfl h' (by omega)]; exact g3 (by omega)⟩
            · refine e_routesOnX hD hn hn9 h8 (fun a ha => (hI a ha).2.2) ?_
              have vih : vp_in (nI h) 9 := vp_in_nI (by omega) (by omega)
              refine ⟨vih, fun th' eth => ⟨vih, ?_⟩⟩
              rw [nI_clamp (by omega)] at eth
              have eth2 : th' = upd th h (nI (NW td n f (j + 1) h)) := eth
              have nb : NW td n f (j + 1) h ≤ 9 ^ 8 := Nat.le_trans (NW_le hn9 (j + 1) h) (Nat.pow_le_pow_right (by decide) (by omega))
              have p8 : 9 ^ 8 = 43046721 := rfl
              obtain ⟨g1, g2, _⟩ := hJ h h8
              rw [if_neg (Nat.lt_irrefl h)] at g1 g2
              have nx : ∀ to' lo' : Nat → Int32, (∀ h', ¬ h' = h → to' h' = to h' ∧ lo' h' = lo h') → to' h = nI (TQ td n f (j + 1) h) → lo' h = nI (LQ td n f (j + 1) h) → ∀ v : Int32, v = nI h + 1 → P2 v to' lo' th' := by
                intro to' lo' k1 k2 k3 v ev
                rw [ev, nI_1]
                refine ih2 (n - (h + 1)) (by omega) (h + 1) to' lo' th' rfl (by omega) (fun h' hh' => ?_)
                by_cases e : h' = h
                · subst e
                  rw [if_pos (show h' < h' + 1 by omega), if_pos (show h' < h' + 1 by omega)]
                  exact ⟨k2, k3, fun _ => by rw [eth2, up_s]⟩
                · obtain ⟨j1, j2, j3⟩ := hJ h' hh'
                  rw [(k1 h' e).1, (k1 h' e).2]
                  by_cases q : h' < h
                  · rw [if_pos q] at j1 j2
                    rw [if_pos (show h' < h + 1 by omega), if_pos (show h' < h + 1 by omega)]
                    exact ⟨j1, j2, fun _ => by rw [eth2, up_n e]; exact j3 q⟩
                  · rw [if_neg q] at j1 j2
                    rw [if_neg (show ¬ h' < h + 1 by omega), if_neg (show ¬ h' < h + 1 by omega)]
                    exact ⟨j1, j2, fun h9 => by omega⟩
              have et : TQ td n f (j + 1) h = TQ td n f j h + NW td n f (j + 1) h := rfl
              have el : LQ td n f (j + 1) h = if 0 < NW td n f (j + 1) h then j + 1 else LQ td n f j h := rfl
              rw [nI_clamp (by omega), eth2, up_s]
              refine pk_le (NW td n f (j + 1) h) 0 (fun q => ?_) (fun q => ⟨vih, vih, fun v ev => ⟨vih, fun to' eto => ⟨vih, fun lo' elo => ?_⟩⟩⟩) rfl rfl (by omega) (by omega)
              · rw [← eth2]
                exact nx to lo (fun _ _ => ⟨rfl, rfl⟩) (by rw [g1, et, show NW td n f (j + 1) h = 0 by omega, Nat.add_zero]) (by rw [g2, el, if_neg (by omega)])
              · rw [g1, nI_add] at ev
                rw [← eth2]
                exact nx to' lo' (fun h' e => ⟨by rw [eto, up_n e], by rw [elo, up_n e]⟩) (by rw [eto, up_s, ev, et]) (by rw [elo, up_s, el, if_pos q])
        exact loop2 _ 0 to lo th rfl (by omega) (fun h' hh' => by
          rw [if_neg (Nat.not_lt_zero h'), if_neg (Nat.not_lt_zero h')]
          exact ⟨(hI h' hh').1, (hI h' hh').2.1, fun h9 => absurd h9 (Nat.not_lt_zero h')⟩)
  refine loop _ 0 to1 lo1 nw2 th rfl (by omega) (fun h hh => ⟨h1 h (by omega), h2 h (by omega), ?_⟩)
  rw [h4]
  show upd nw1 f 1 h = nI (if h = f then 1 else 0)
  by_cases e : h = f
  · subst e; rw [up_s, if_pos rfl]; rfl
  · rw [up_n e, if_neg e]; exact h3 h (by omega)
theorem e_leastX {now : Nat → Int32} {v : Nat → Nat} {n h : Nat} {post : Int32 → Prop} (hR : RNG td) (hD : LX td huts singers dams echoes deep heights ladders minutes echoFrom echoTo talls) (hn : td 0 = nI n) (hn9 : n ≤ 9) (hh : h < n) (hv : ∀ a, a < n → now a = nI (v a) ∧ v a ≤ 1000) (hp : post (nI (mn (fun a => if leadB td a h = true then max (v a) (drp td a h) else 1000) n))) : q_wp_X7_leastFall_9_0 now huts dams heights minutes (nI h) post := by
  intro P hP
  have loop : ∀ m a, m = n - a → a ≤ n → P (nI (mn (fun a => if leadB td a h = true then max (v a) (drp td a h) else 1000) a)) (nI a) := by
    intro m
    induction m using Nat.strongRecOn with
    | ind m ih =>
      intro a hm ha
      apply hP
      refine pk_le n a (fun h9 => by rw [show a = n by omega]; exact hp) (fun h9 => ?_) (hD.1.trans hn)
      have e : mn (fun a => if leadB td a h = true then max (v a) (drp td a h) else 1000) (a + 1) = min (mn (fun a => if leadB td a h = true then max (v a) (drp td a h) else 1000) a) (if leadB td a h = true then max (v a) (drp td a h) else 1000) := rfl
      have mb := mn_b (g := fun a => if leadB td a h = true then max (v a) (drp td a h) else 1000) a
      have nx : ∀ y : Nat, y = mn (fun a => if leadB td a h = true then max (v a) (drp td a h) else 1000) (a + 1) → q_wp_X7_leastFall_9_55 P now huts dams heights minutes (nI h) (nI y) (nI a) post := by
        intro y hy w ew
        rw [ew, hy, nI_1]
        exact ih (n - (a + 1)) (by omega) (a + 1) rfl (by omega)
      refine e_leadsX hD hn hn9 h9 hh (fun q => iz (nx _ ?_)) (fun q => oi ⟨vp_in_nI (by omega) (by omega), vp_in_nI (by omega) (by omega), vp_in_nI (by omega) (by omega), fun w ew => ?_⟩)
      · rw [e, if_neg (by rw [q]; decide)]
        omega
      · rw [if_pos q] at e
        obtain ⟨va, ea, hva⟩ := ht_iv (h := a) hR (by omega)
        obtain ⟨vh, eh, hvh⟩ := ht_iv (h := h) hR (by omega)
        have hlt := lead_ht q
        rw [ea, eh] at hlt
        have hlt2 := (nI_ltI (by omega) (by omega)).mp hlt
        have ed : drp td a h = va - vh := by
          unfold drp
          rw [ea, eh, cN_nI (by omega), cN_nI (by omega)]
        have b2 := (hv a h9).2
        rw [nI_clamp (by omega), nI_clamp (by omega), (hv a h9).1, hD.2.2.2.2.2.1 a (by omega) (by rw [hn]; exact nI_lt h9 (by omega)), hD.2.2.2.2.2.1 h (by omega) (by rw [hn]; exact nI_lt hh (by omega)), ea, eh, pk_sub (by omega)] at ew
        have ex : (if nI (v a) < nI (va - vh) then nI (va - vh) else nI (v a)) = nI (max (v a) (va - vh)) := by
          by_cases q2 : v a < va - vh
          · rw [if_pos (nI_lt q2 (by omega)), show max (v a) (va - vh) = va - vh by omega]
          · rw [if_neg (fun q3 => q2 ((nI_ltI (by omega) (by omega)).mp q3)), show max (v a) (va - vh) = v a by omega]
        rw [ex] at ew
        by_cases q3 : max (v a) (va - vh) < mn (fun a => if leadB td a h = true then max (v a) (drp td a h) else 1000) a
        · rw [if_pos (nI_lt q3 (by omega))] at ew
          rw [ew]
          exact nx _ (by rw [e, ed]; omega)
        · rw [if_neg (fun q4 => q3 ((nI_ltI (by omega) (by omega)).mp q4))] at ew
          rw [ew]
          exact nx _ (by rw [e, ed]; omega)
  exact loop _ 0 rfl (by omega)
theorem e_steepX {nw : Nat → Int32} {x2 x3 : Int32} {n f t : Nat} {post : Int32 → (Nat → Int32) → Prop} (hR : RNG td) (hD : LX td huts singers dams echoes deep heights ladders minutes echoFrom echoTo talls) (hn : td 0 = nI n) (hn9 : n ≤ 9) (hf : f < n) (ht : t < n) (e2 : x2 = nI f) (e3 : x3 = nI t) (hp : ∀ nw', post (nI (FSt td n f t)) nw') : q_wp_X7_steepest_9_0 nw huts dams heights minutes x2 x3 post := by
  subst e2 e3
  have h0 : huts = nI n := hD.1.trans hn
  have f0 : FSt td n f f = 0 := by rw [FSt_rec hn9 hf, if_pos rfl]
  refine e_fill9_7 (fun nw1 h1 => ⟨vp_in_nI (by omega) (by omega), fun nw2 h2 => ?_⟩)
  rw [nI_clamp (by omega)] at h2
  intro P hP
  have loop : ∀ m r (nw : Nat → Int32) (v : Nat → Nat), m = n - r → r ≤ n → (∀ h, h < n → nw h = nI (v h) ∧ v h ≤ 1000) → (∀ h, h < n → FSt td n f h ≤ v h) → v f = 0 → (∀ h, h < n → rk td n h < r → v h = FSt td n f h) → P (nI r) nw := by
    intro m
    induction m using Nat.strongRecOn with
    | ind m ih =>
      intro r nw v hm hr hv hlo hvf hex
      apply hP
      refine pk_le n r (fun h9 => ⟨vp_in_nI (by omega) (by omega), ?_⟩) (fun h9 => ?_) h0
      · rw [nI_clamp (by omega), (hv t ht).1, hex t ht (by have := rk_b (td := td) ht; omega)]
        exact hp nw
      · intro P2 hP2
        have loop2 : ∀ m h (nw : Nat → Int32) (v : Nat → Nat), m = n - h → h ≤ n → (∀ h, h < n → nw h = nI (v h) ∧ v h ≤ 1000) → (∀ h, h < n → FSt td n f h ≤ v h) → v f = 0 → (∀ h', h' < n → rk td n h' < r ∨ (h' < h ∧ rk td n h' < r + 1) → v h' = FSt td n f h') → P2 (nI h) nw := by
          intro m
          induction m using Nat.strongRecOn with
          | ind m ih2 =>
            intro h nw v hm2 hh hv hlo hvf hex
            apply hP2
            refine pk_le n h (fun h8 w ew => ?_) (fun h8 => ⟨vp_in_nI (by omega) (by omega), ?_⟩) h0
            · rw [ew, nI_1]
              exact ih (n - (r + 1)) (by omega) (r + 1) nw v rfl (by omega) hv hlo hvf (fun h' hh' hk => hex h' hh' (Or.inr ⟨by omega, hk⟩))
            · refine e_leastX hR hD hn hn9 h8 hv (fun w ew => ⟨vp_in_nI (by omega) (by omega), fun nw' enw u eu => ?_⟩)
              have mb := mn_b (g := fun a => if leadB td a h = true then max (v a) (drp td a h) else 1000) n
              have vb := (hv h h8).2
              have ew2 : w = nI (min (mn (fun a => if leadB td a h = true then max (v a) (drp td a h) else 1000) n) (v h)) := by
                rw [nI_clamp (by omega), (hv h h8).1] at ew
                by_cases q : mn (fun a => if leadB td a h = true then max (v a) (drp td a h) else 1000) n < v h
                · rw [if_pos (nI_lt q (by omega))] at ew
                  rw [ew, show min (mn (fun a => if leadB td a h = true then max (v a) (drp td a h) else 1000) n) (v h) = mn (fun a => if leadB td a h = true then max (v a) (drp td a h) else 1000) n by omega]
                · rw [if_neg (fun q4 => q ((nI_ltI (by omega) (by omega)).mp q4))] at ew
                  rw [ew, show min (mn (fun a => if leadB td a h = true then max (v a) (drp td a h) else 1000) n) (v h) = v h by omega]
              rw [nI_clamp (by omega), ew2] at enw
              rw [eu, nI_1]
              have nlo : FSt td n f h ≤ min (mn (fun a => if leadB td a h = true then max (v a) (drp td a h) else 1000) n) (v h) := by
                have l := hlo h h8
                by_cases q : h = f
                · rw [q, f0]; exact Nat.zero_le _
                · have e := FSt_all (td := td) (f := f) hR hn9 h8 q
                  have mm := mn_mono (g := fun a => if leadB td a h = true then max (FSt td n f a) (drp td a h) else 1000) (g' := fun a => if leadB td a h = true then max (v a) (drp td a h) else 1000) n (fun a ha => by
                    show (if leadB td a h = true then max (FSt td n f a) (drp td a h) else 1000) ≤ (if leadB td a h = true then max (v a) (drp td a h) else 1000)
                    have := hlo a ha
                    split <;> omega)
                  omega
              refine ih2 (n - (h + 1)) (by omega) (h + 1) nw' (uN v h (min (mn (fun a => if leadB td a h = true then max (v a) (drp td a h) else 1000) n) (v h))) rfl (by omega) (fun h' hh' => ?_) (fun h' hh' => ?_) ?_ (fun h' hh' hk => ?_)
              · rw [enw]
                by_cases e : h' = h
                · subst e; rw [up_s, uN_s]; exact ⟨rfl, by omega⟩
                · rw [up_n e, uN_n e]; exact hv h' hh'
              · by_cases e : h' = h
                · subst e; rw [uN_s]; exact nlo
                · rw [uN_n e]; exact hlo h' hh'
              · by_cases e : f = h
                · subst e; rw [uN_s]; omega
                · rw [uN_n e]; exact hvf
              · by_cases e : h' = h
                · subst e
                  rw [uN_s]
                  by_cases q : h' = f
                  · have : FSt td n f h' = 0 := by rw [q]; exact f0
                    have : v h' = 0 := by rw [q]; exact hvf
                    omega
                  · have e1 := FSt_all (td := td) (f := f) hR hn9 hh' q
                    have e2 : mn (fun a => if leadB td a h' = true then max (v a) (drp td a h') else 1000) n = mn (fun a => if leadB td a h' = true then max (FSt td n f a) (drp td a h') else 1000) n := mn_ext n (fun a ha => by
                      show (if leadB td a h' = true then max (v a) (drp td a h') else 1000) = (if leadB td a h' = true then max (FSt td n f a) (drp td a h') else 1000)
                      by_cases q2 : leadB td a h' = true
                      · have r1 := rk_lt ha q2
                        have r2 : rk td n h' < r + 1 := by
                          rcases hk with hk | hk
                          · omega
                          · exact hk.2
                        rw [if_pos q2, if_pos q2, hex a ha (Or.inl (by omega))]
                      · rw [if_neg q2, if_neg q2])
                    have l := hlo h' hh'
                    omega
                · rw [uN_n e]
                  refine hex h' hh' ?_
                  rcases hk with hk | hk
                  · exact Or.inl hk
                  · exact Or.inr ⟨by omega, hk.2⟩
        exact loop2 _ 0 nw v rfl (by omega) hv hlo hvf (fun h' hh' hk => by
          rcases hk with hk | hk
          · exact hex h' hh' hk
          · exact absurd hk.1 (Nat.not_lt_zero h'))
  refine loop _ 1 nw2 (fun h => if h = f then 0 else 1000) rfl (by omega) (fun h hh => ?_) (fun h hh => ?_) (if_pos rfl) (fun h hh hk => ?_)
  · rw [h2]
    show upd nw1 f 0 h = nI (if h = f then 0 else 1000) ∧ (if h = f then 0 else 1000) ≤ 1000
    by_cases e : h = f
    · subst e; rw [up_s, if_pos rfl]; exact ⟨rfl, by omega⟩
    · rw [up_n e, if_neg e]; exact ⟨h1 h (by omega), by omega⟩
  · show FSt td n f h ≤ (if h = f then 0 else 1000)
    by_cases e : h = f
    · rw [if_pos e, e, f0]; exact Nat.le_refl _
    · rw [if_neg e]; exact FSt_b hn9 hh
  · show (if h = f then 0 else 1000) = FSt td n f h
    by_cases e : h = f
    · rw [if_pos e, e, f0]
    · rw [if_neg e, FSt_rec hn9 hh, if_neg e]
      exact (mn_hi n (fun a ha => by
        show 1000 ≤ (if gcB td n f a h = true then max (FSt td n f a) (drp td a h) else 1000)
        rw [if_neg (fun hg => by have := rk_lt ha (gc_lead hg).1; omega)]
        exact Nat.le_refl _)).symm
end
set_option maxRecDepth 40000 in
set_option maxHeartbeats 4000000 in
theorem e_x_routes {T : TT} {M : Nat → Nat → Int32} {a b c d : Int32} {pa_total pa_longest pa_now pa_then : Nat → Int32} {post : Int32 → (Nat → Int32) → (Nat → Int32) → (Nat → Int32) → (Nat → Int32) → Prop} (h : TM T M 0) (hB : tB T) (hK : LK M) (hL : mLand (M 5)) (hp : ∀ z0 z1 z2 z3, post (AN_routes M a b c d) z0 z1 z2 z3) : q_wx_X10_routes_0 (T.2 1) (T.1 3) (T.1 6) (T.2 2) (T.2 4) (T.1 10) (T.1 13) (T.2 10) (T.2 12) pa_total pa_longest pa_now pa_then a b c d post := by
  unfold AN_routes at hp
  rw [TM_cnt h 0 (by decide)] at hp
  refine e_at (hB.2.2.1 0) (fun (hno : ¬ (0 ≤ a ∧ a < T.2 1 0)) => ?_) (fun ea hla => ?_) (fun ea hla => ?_)
  · rw [if_neg hno] at hp
    exact ⟨fun _ => hp _ _ _ _, fun h9 => absurd h9 (by decide), fun h9 => absurd rfl h9⟩
  · rw [if_pos (by rw [ea]; exact ⟨by decide, hla⟩), ea] at hp
    have hR : RNG (rowM M 0 (nI 0)) := RNG_M hL (by decide)
    have hLD : LDR (T.1 3) (T.1 4) (T.1 5) (T.1 6) (T.1 7) (T.1 8) (T.1 9) (T.2 2) (T.2 3) (T.2 4) (T.2 5) (T.2 6) (T.2 7) (T.2 8) (T.2 9) (rowM M 0 (nI 0)) := TM_sl h 0 0 (by decide) (by decide) hla
    have hX := LX_of hR hLD
    have hOK : LOK (rowM M 0 (nI 0)) := LK_row hK (by decide) (by rw [TM_cnt h 0 (by decide)]; exact hla)
    obtain ⟨n, hn, hn9⟩ := ln_of hR
    refine ⟨fun h9 => absurd h9 (by decide), fun h9 => absurd h9 (by decide), fun _ _ => ?_⟩
    have b0 : iv 0 9 (rowM M 0 (nI 0) 0) := hR 0 (by omega)
    unfold RTS at hp
    refine e_hhX (fun h => iz ?_) (fun h1 => oi (e_hhX (fun h => iz ?_) (fun h2 => oi ⟨fun heq => ?_, fun hne => ⟨fun d0 => ?_, fun d0 => ⟨fun d2 => ?_, fun d2 => ?_⟩⟩⟩)))
    · rw [if_neg (fun h9 => h (by rw [hX.1]; exact h9.1.1.1))] at hp; exact hp _ _ _ _
    · rw [if_neg (fun h9 => h (by rw [hX.1]; exact h9.1.1.2))] at hp; exact hp _ _ _ _
    · rw [if_neg (fun h9 => h9.1.2 heq)] at hp; exact hp _ _ _ _
    · rw [if_neg (fun h9 => absurd d0 (Int32.not_lt.mpr h9.2.1))] at hp; exact hp _ _ _ _
    · rw [hX.1] at h1 h2
      rw [if_pos ⟨⟨⟨h1, h2⟩, hne⟩, Int32.not_lt.mp d0, d2⟩, hn] at hp
      rw [hn] at h1 h2
      obtain ⟨f, hf, eb⟩ := lt_n hn9 h1
      obtain ⟨t, ht, ec⟩ := lt_n hn9 h2
      subst eb ec
      rw [cN_nI (by omega), cN_nI (by omega), cN_nI (by omega)] at hp
      unfold RT at hp
      have hft : ¬ t = f := fun e => hne (by rw [e])
      have efr : FRr (rowM M 0 (nI 0)) n f t = WY (rowM M 0 (nI 0)) n f t := if_neg hft
      have vit : vp_in (nI t) 9 := vp_in_nI (by omega) (by omega)
      have bb := FRr_b (td := rowM M 0 (nI 0)) (f := f) hn9 (h := t)
      refine e_traceX hX hn hn9 hf rfl (fun to lo nw th hr => ?_)
      obtain ⟨r1, r2⟩ := hr t ht
      rw [nI_clamp (by omega), r1 hft, ← efr, r2]
      refine ⟨fun w0 => ⟨vit, fun q => ⟨fun w1 => e_steepX hR hX hn hn9 hf ht rfl rfl (fun nw' => ?_), fun w1 => ⟨vit, ?_⟩⟩, fun q => ?_⟩, fun w0 => ⟨vit, ?_⟩⟩
      · rw [if_neg w0, if_neg (fun e => q (by rw [e]; rfl)), if_neg w1] at hp; exact hp _ _ _ _
      · rw [if_neg w0, if_neg (fun e => q (by rw [e]; rfl)), if_pos w1] at hp; exact hp _ _ _ _
      · rw [if_neg w0, if_pos ((nI_eq (b := 0) (by omega) (by omega)).mp q)] at hp; exact hp _ _ _ _
      · rw [if_pos w0] at hp; exact hp _ _ _ _
    · rw [if_neg (fun h9 => d2 h9.2.2)] at hp; exact hp _ _ _ _
  · rw [if_pos (by rw [ea]; exact ⟨by decide, hla⟩), ea] at hp
    have hR : RNG (rowM M 0 (nI 1)) := RNG_M hL (by decide)
    have hLD : LDR (T.1 10) (T.1 11) (T.1 12) (T.1 13) (T.1 14) (T.1 15) (T.1 16) (T.2 10) (T.2 11) (T.2 12) (T.2 13) (T.2 14) (T.2 15) (T.2 16) (T.2 17) (rowM M 0 (nI 1)) := TM_sl h 0 1 (by decide) (by decide) hla
    have hX := LX_of hR hLD
    have hOK : LOK (rowM M 0 (nI 1)) := LK_row hK (by decide) (by rw [TM_cnt h 0 (by decide)]; exact hla)
    obtain ⟨n, hn, hn9⟩ := ln_of hR
    refine ⟨fun h9 => absurd h9 (by decide), fun _ => ?_, fun _ h9 => absurd rfl h9⟩
    have b0 : iv 0 9 (rowM M 0 (nI 1) 0) := hR 0 (by omega)
    unfold RTS at hp
    refine e_hhX (fun h => iz ?_) (fun h1 => oi (e_hhX (fun h => iz ?_) (fun h2 => oi ⟨fun heq => ?_, fun hne => ⟨fun d0 => ?_, fun d0 => ⟨fun d2 => ?_, fun d2 => ?_⟩⟩⟩)))
    · rw [if_neg (fun h9 => h (by rw [hX.1]; exact h9.1.1.1))] at hp; exact hp _ _ _ _
    · rw [if_neg (fun h9 => h (by rw [hX.1]; exact h9.1.1.2))] at hp; exact hp _ _ _ _
    · rw [if_neg (fun h9 => h9.1.2 heq)] at hp; exact hp _ _ _ _
    · rw [if_neg (fun h9 => absurd d0 (Int32.not_lt.mpr h9.2.1))] at hp; exact hp _ _ _ _
    · rw [hX.1] at h1 h2
      rw [if_pos ⟨⟨⟨h1, h2⟩, hne⟩, Int32.not_lt.mp d0, d2⟩, hn] at hp
      rw [hn] at h1 h2
      obtain ⟨f, hf, eb⟩ := lt_n hn9 h1
      obtain ⟨t, ht, ec⟩ := lt_n hn9 h2
      subst eb ec
      rw [cN_nI (by omega), cN_nI (by omega), cN_nI (by omega)] at hp
      unfold RT at hp
      have hft : ¬ t = f := fun e => hne (by rw [e])
      have efr : FRr (rowM M 0 (nI 1)) n f t = WY (rowM M 0 (nI 1)) n f t := if_neg hft
      have vit : vp_in (nI t) 9 := vp_in_nI (by omega) (by omega)
      have bb := FRr_b (td := rowM M 0 (nI 1)) (f := f) hn9 (h := t)
      refine e_traceX hX hn hn9 hf rfl (fun to lo nw th hr => ?_)
      obtain ⟨r1, r2⟩ := hr t ht
      rw [nI_clamp (by omega), r1 hft, ← efr, r2]
      refine ⟨fun w0 => ⟨vit, fun q => ⟨fun w1 => e_steepX hR hX hn hn9 hf ht rfl rfl (fun nw' => ?_), fun w1 => ⟨vit, ?_⟩⟩, fun q => ?_⟩, fun w0 => ⟨vit, ?_⟩⟩
      · rw [if_neg w0, if_neg (fun e => q (by rw [e]; rfl)), if_neg w1] at hp; exact hp _ _ _ _
      · rw [if_neg w0, if_neg (fun e => q (by rw [e]; rfl)), if_pos w1] at hp; exact hp _ _ _ _
      · rw [if_neg w0, if_pos ((nI_eq (b := 0) (by omega) (by omega)).mp q)] at hp; exact hp _ _ _ _
      · rw [if_pos w0] at hp; exact hp _ _ _ _
    · rw [if_neg (fun h9 => d2 h9.2.2)] at hp; exact hp _ _ _ _
end
section
def anyC (p : Nat → Bool) : Nat → Bool
  | 0 => false
  | m + 1 => anyC p m || p m
theorem anyB_i {p : Nat → Bool} {k : Nat} : ∀ m, k < m → p k = true → anyC p m = true
  | 0, h, _ => absurd h (Nat.not_lt_zero k)
  | m + 1, h, hp => by
    show (anyC p m || p m) = true
    by_cases e : k = m
    · subst e; rw [hp, Bool.or_true]
    · rw [anyB_i m (by omega) hp]; rfl
theorem anyB_e {p : Nat → Bool} : ∀ m, anyC p m = true → ∃ k, k < m ∧ p k = true
  | 0, h => absurd (show false = true from h) (by decide)
  | m + 1, h => by
    have h' : (anyC p m || p m) = true := h
    rw [Bool.or_eq_true] at h'
    rcases h' with h' | h'
    · obtain ⟨k, hk, g⟩ := anyB_e m h'
      exact ⟨k, by omega, g⟩
    · exact ⟨m, by omega, h'⟩
theorem cnt_0 {p : Nat → Bool} : ∀ m, cntB p m = 0 → ∀ k, k < m → p k = false
  | 0, _, k, hk => absurd hk (Nat.not_lt_zero k)
  | m + 1, h, k, hk => by
    have h' : cntB p m + (if p m = true then 1 else 0) = 0 := h
    by_cases e : k = m
    · subst e
      rw [← Bool.not_eq_true]
      intro hp
      rw [if_pos hp] at h'
      omega
    · exact cnt_0 m (by omega) k (by omega)
theorem cnt_z {p : Nat → Bool} : ∀ m, (∀ k, k < m → p k = false) → cntB p m = 0
  | 0, _ => rfl
  | m + 1, h => by
    show cntB p m + (if p m = true then 1 else 0) = 0
    rw [cnt_z m (fun k hk => h k (by omega)), h m (by omega)]
    rfl
/-- who else hears h -/
def oB (td : Nat → Int32) (n h b : Nat) : Bool := decide (¬ b = h) && decide (RUN td (td 3) n h b < 1000)
def oE (td : Nat → Int32) (n h : Nat) : Nat := cntB (oB td n h) n
def oT (td : Nat → Int32) (n h : Nat) : Int32 := mkB (fun b => decide (RUN td (td 3) n h b < 1000)) n &&& (bitI h ^^^ (-1))
theorem hb_oT {td : Nat → Int32} {n h k : Nat} (hn9 : n ≤ 9) (hh : h < n) (hk : k < 32) : hb (oT td n h) k = (decide (k < n) && oB td n h k) := by
  unfold oT oB
  rw [hb_and, hb_not _ hk, hb_mkB hk n (by omega), hb_b32' (by omega) hk]
  by_cases e : k = h
  · subst e
    rw [decide_eq_true (rfl : k = k)]
    simp
  · rw [decide_eq_false (show ¬ h = k from fun e2 => e e2.symm), decide_eq_true e]
    simp
theorem oT_c {td : Nat → Int32} {n h : Nat} (hn9 : n ≤ 9) (hh : h < n) : cntB (hb (oT td n h)) 9 = oE td n h := by
  have e := cntB_cut (p := hb (oT td n h)) (n := n) (fun k hk => by
    by_cases q : k < 32
    · rw [hb_oT hn9 hh q, decide_eq_false (by omega), Bool.false_and]
    · unfold hb
      exact BitVec.getLsbD_of_ge _ _ (by omega)) (9 - n)
  rw [show n + (9 - n) = 9 by omega] at e
  rw [e]
  exact cnt_ext n (fun k hk => by rw [hb_oT hn9 hh (by omega), decide_eq_true hk, Bool.true_and])
theorem oT_0 {td : Nat → Int32} {n h : Nat} (hn9 : n ≤ 9) (hh : h < n) : oT td n h = 0 ↔ oE td n h = 0 := by
  constructor
  · intro e
    rw [← oT_c hn9 hh, e]
    exact cnt_z 9 (fun k _ => hb_0 k)
  · intro e
    apply hb_eq
    intro k hk
    rw [hb_oT hn9 hh hk, hb_0]
    by_cases q : k < n
    · rw [cnt_0 n e k q, Bool.and_false]
    · rw [decide_eq_false q, Bool.false_and]
def unT (td : Nat → Int32) (n : Nat) : Nat → Int32
  | 0 => 0
  | m + 1 => unT td n m ||| oT td n m
theorem hb_unT {td : Nat → Int32} {n k : Nat} (hn9 : n ≤ 9) (hk : k < n) : ∀ m, m ≤ n → hb (unT td n m) k = anyC (fun x => oB td n x k) m
  | 0, _ => hb_0 k
  | m + 1, hm => by
    show hb (unT td n m ||| oT td n m) k = (anyC (fun x => oB td n x k) m || oB td n m k)
    rw [hb_or, hb_unT hn9 hk m (by omega), hb_oT hn9 (by omega) (by omega), decide_eq_true hk, Bool.true_and]
def tpB (td : Nat → Int32) (n h : Nat) : Bool := !dam td h && !anyC (fun x => oB td n x h) n
def TPS (td : Nat → Int32) (n : Nat) : Int32 := mkB (tpB td n) n
def enB (td : Nat → Int32) (n h : Nat) : Bool := !dam td h && decide (oE td n h = 0)
def SLP (td : Nat → Int32) (n : Nat) (c : Int32) : Int32 := if c = 0 then TPS td n else if c = 1 then mkB (enB td n) n else if c = 2 then nI (sm (oE td n) n) else nI (mx (fun f => mx (FLg td n f) n) n)
def AN_slopes (M : Nat → Nat → Int32) (a c : Int32) : Int32 := if 0 ≤ a ∧ a < M 4 0 then (if 0 ≤ c ∧ c ≤ 3 then SLP (rowM M 0 a) (cN (rowM M 0 a 0)) c else -1) else -1
theorem RUN_self {td : Nat → Int32} {n h : Nat} (hh : h < n) (hn9 : n ≤ 9) : RUN td (td 3) n h h < 1000 ↔ dam td h = false := by
  constructor
  · exact fun h1 => RUN_sh hh hh h1
  · intro hd
    have hff : EL td (td 3) h h = true := by
      rw [NXT_EL]
      unfold NXT hear
      rw [hd, decide_eq_true (rfl : h = h)]
      rfl
    have g := SD_e (E := EL td (td 3)) (W := WL td) (F := 1000) (n := n) hff
    have w := WL_0 (td := td) h
    show SD (EL td (td 3)) (WL td) 1000 n h h < 1000
    omega
theorem tp_ref {td : Nat → Int32} {n : Nat} (hn9 : n ≤ 9) : (nI (2 ^ n - 1) &&& (td 3 ^^^ (-1))) &&& (unT td n n ^^^ (-1)) = TPS td n := by
  have hp : 0 < 2 ^ n := Nat.two_pow_pos n
  apply hb_eq
  intro k hk
  unfold TPS
  rw [hb_and, hb_and, hb_not _ hk, hb_not _ hk, hb_mkB hk n (by omega)]
  by_cases q : k < n
  · rw [full_bit hn9 q, hb_unT hn9 q n (Nat.le_refl n), decide_eq_true q]
    rfl
  · rw [hb_lo (s := 2 ^ n - 1) (by omega) hn9 (by omega), decide_eq_false q]
    rfl
theorem tp_cls {td : Nat → Int32} {n h : Nat} (hn9 : n ≤ 9) (hh : h < n) : mkB (fun a => decide (RUN td (td 3) n a h ≤ 999)) n = bitI h ↔ tpB td n h = true := by
  have at_ : ∀ k, k < n → hb (mkB (fun a => decide (RUN td (td 3) n a h ≤ 999)) n) k = decide (RUN td (td 3) n k h ≤ 999) := fun k hk => by rw [hb_mkB (by omega) n (by omega), decide_eq_true hk, Bool.true_and]
  constructor
  · intro e
    have b : ∀ k, k < n → decide (RUN td (td 3) n k h ≤ 999) = decide (h = k) := fun k hk => by rw [← at_ k hk, e, hb_b32' (by omega) (by omega)]
    have d : dam td h = false := (RUN_self hh hn9).mp (by
      have := b h hh
      rw [decide_eq_true (rfl : h = h)] at this
      have := of_decide_eq_true this
      omega)
    unfold tpB
    rw [d, Bool.not_false, Bool.true_and, Bool.not_eq_true', ← Bool.not_eq_true]
    intro ha
    obtain ⟨x, hx, hox⟩ := anyB_e n ha
    unfold oB at hox
    rw [Bool.and_eq_true] at hox
    have h1 := of_decide_eq_true hox.1
    have h2 := of_decide_eq_true hox.2
    have h3 := b x hx
    rw [decide_eq_true (show RUN td (td 3) n x h ≤ 999 by omega)] at h3
    exact h1 (of_decide_eq_true h3.symm)
  · intro ht
    unfold tpB at ht
    rw [Bool.and_eq_true, Bool.not_eq_true', Bool.not_eq_true'] at ht
    apply hb_eq
    intro k hk
    rw [hb_b32' (by omega) hk, hb_mkB hk n (by omega)]
    by_cases q : k < n
    · rw [decide_eq_true q, Bool.true_and]
      by_cases e : h = k
      · subst e
        have := (RUN_self hh hn9).mpr ht.1
        rw [decide_eq_true (show RUN td (td 3) n h h ≤ 999 by omega), decide_eq_true (rfl : h = h)]
      · rw [decide_eq_false e]
        apply decide_eq_false
        intro hle
        have := anyB_i (p := fun x => oB td n x h) n q (by
          show (decide (¬ h = k) && decide (RUN td (td 3) n k h < 1000)) = true
          rw [decide_eq_true e, decide_eq_true (by omega)]
          rfl)
        rw [ht.2] at this
        exact absurd this (by decide)
    · rw [decide_eq_false q, Bool.false_and, decide_eq_false (by omega)]
theorem e_elseX {td t : Nat → Int32} {huts x2 : Int32} {n h : Nat} {post : Int32 → Prop} (h0 : huts = nI n) (hn9 : n ≤ 9) (hh : h < n) (e2 : x2 = nI h) (ht : ∀ a b, a < n → b < n → t (9 * a + b) = nI (RUN td (td 3) n a b)) (hp : post (nI (oE td n h))) : q_wp_X7_heardElsewhere_9_0 t huts x2 post := by
  subst e2
  intro P hP
  have loop : ∀ m b, m = n - b → b ≤ n → P (nI (cntB (oB td n h) b)) (nI b) := by
    intro m
    induction m using Nat.strongRecOn with
    | ind m ih =>
      intro b hm hb1
      apply hP
      refine pk_le n b (fun h9 => by rw [show b = n by omega]; exact hp) (fun h9 => ?_) h0
      have e : cntB (oB td n h) (b + 1) = cntB (oB td n h) b + (if oB td n h b = true then 1 else 0) := rfl
      have nx : ∀ y : Nat, y = cntB (oB td n h) (b + 1) → q_wp_X7_heardElsewhere_9_41 P t huts (nI h) (nI y) (nI b) post := by
        intro y hy v ev
        rw [ev, nI_1, hy]
        exact ih (n - (b + 1)) (by omega) (b + 1) rfl (by omega)
      have ei : (nI h * 9) + nI b = nI (9 * h + b) := by rw [jx9, Nat.mul_comm]
      have l := RUN_le (td := td) (sh := td 3) (n := n) (a := h) (b := b)
      refine ⟨fun q => nx _ ?_, fun q => ?_⟩
      · have e2 : b = h := (nI_eq (by omega) (by omega)).mp q
        rw [e, if_neg (by unfold oB; rw [e2, decide_eq_false (fun h9 => h9 rfl)]; simp), Nat.add_zero]
      · have e2 : ¬ b = h := fun h9 => q (by rw [h9])
        rw [ei]
        refine ⟨vp_in_nI (by omega) (by omega), ?_⟩
        rw [nI_clamp (by omega), ht h b hh h9]
        refine pk_le 1000 (RUN td (td 3) n h b) (fun q2 => nx _ ?_) (fun q2 v ev => ?_) rfl rfl (by omega) (by omega)
        · rw [e, if_neg (by unfold oB; rw [decide_eq_false (show ¬ RUN td (td 3) n h b < 1000 by omega)]; simp), Nat.add_zero]
        · rw [ev, nI_1]
          exact nx _ (by rw [e, if_pos (by unfold oB; rw [decide_eq_true e2, decide_eq_true q2]; rfl)])
  exact loop _ 0 rfl (by omega)
theorem e_topsX {td t : Nat → Int32} {huts : Int32} {n : Nat} {post : Int32 → Prop} (h0 : huts = nI n) (hn9 : n ≤ 9) (ht : ∀ a b, a < n → b < n → t (9 * a + b) = nI (RUN td (td 3) n a b)) (hp : post (TPS td n)) : q_wp_X7_tops_9_0 t huts post := by
  intro P hP
  have loop : ∀ m h, m = n - h → h ≤ n → P (mkB (tpB td n) h) (nI h) := by
    intro m
    induction m using Nat.strongRecOn with
    | ind m ih =>
      intro h hm hh
      apply hP
      refine pk_le n h (fun h9 => by rw [show h = n by omega]; exact hp) (fun h9 => ?_) h0
      have e : mkB (tpB td n) (h + 1) = mkB (tpB td n) h ||| (if tpB td n h = true then bitI h else 0) := rfl
      have nx : ∀ x : Int32, x = mkB (tpB td n) (h + 1) → q_wp_X7_tops_9_33 P t huts x (nI h) post := by
        intro x hx v ev
        rw [ev, hx, nI_1]
        exact ih (n - (h + 1)) (by omega) (h + 1) rfl (by omega)
      refine e_fromByX3 (w := 999) h0 hn9 h9 rfl rfl (by omega) ht ⟨fun q => nx _ ?_, fun q v ev => nx _ ?_⟩
      · rw [e, if_neg (fun h8 => q ((tp_cls hn9 h9).mpr h8)), or_0]
      · rw [ev, e, if_pos ((tp_cls hn9 h9).mp q)]
        rfl
  exact loop _ 0 rfl (by omega)
theorem e_endsX {td t : Nat → Int32} {huts dams : Int32} {n : Nat} {post : Int32 → Prop} (h0 : huts = nI n) (h3 : dams = td 3) (hn9 : n ≤ 9) (ht : ∀ a b, a < n → b < n → t (9 * a + b) = nI (RUN td (td 3) n a b)) (hp : post (mkB (enB td n) n)) : q_wp_X7_ends_9_0 t huts dams post := by
  subst h3
  intro P hP
  have loop : ∀ m h, m = n - h → h ≤ n → P (mkB (enB td n) h) (nI h) := by
    intro m
    induction m using Nat.strongRecOn with
    | ind m ih =>
      intro h hm hh
      apply hP
      refine pk_le n h (fun h9 => by rw [show h = n by omega]; exact hp) (fun h9 => ?_) h0
      have e : mkB (enB td n) (h + 1) = mkB (enB td n) h ||| (if enB td n h = true then bitI h else 0) := rfl
      have nx : ∀ x : Int32, x = mkB (enB td n) (h + 1) → q_wp_X7_ends_9_35 P t huts (td 3) x (nI h) post := by
        intro x hx v ev
        rw [ev, hx, nI_1]
        exact ih (n - (h + 1)) (by omega) (h + 1) rfl (by omega)
      have ob : oE td n h ≤ n := cnt_le _ n
      refine e_damX (by omega) (fun q => zi (e_elseX h0 hn9 h9 rfl ht ⟨fun w => nx _ ?_, fun w v ev => nx _ ?_⟩)) (fun q => io (nx _ ?_))
      · rw [e, if_neg (fun h8 => w (by
          unfold enB at h8
          rw [Bool.and_eq_true] at h8
          rw [of_decide_eq_true h8.2]; rfl)), or_0]
      · rw [ev, e, if_pos (by
          unfold enB dam
          rw [q, decide_eq_true ((nI_eq (b := 0) (by omega) (by omega)).mp w)]
          rfl)]
        rfl
      · rw [e, if_neg (by unfold enB dam; rw [q]; simp), or_0]
  exact loop _ 0 rfl (by omega)
theorem e_couplesX {td t : Nat → Int32} {huts : Int32} {n : Nat} {post : Int32 → Prop} (h0 : huts = nI n) (hn9 : n ≤ 9) (ht : ∀ a b, a < n → b < n → t (9 * a + b) = nI (RUN td (td 3) n a b)) (hp : post (nI (sm (oE td n) n))) : q_wp_X7_couples_9_0 t huts post := by
  intro P hP
  have loop : ∀ m h, m = n - h → h ≤ n → P (nI (sm (oE td n) h)) (nI h) := by
    intro m
    induction m using Nat.strongRecOn with
    | ind m ih =>
      intro h hm hh
      apply hP
      refine pk_le n h (fun h9 => by rw [show h = n by omega]; exact hp) (fun h9 => e_elseX h0 hn9 h9 rfl ht (fun v ev v2 ev2 => ?_)) h0
      rw [ev, ev2, nI_add, nI_1]
      exact ih (n - (h + 1)) (by omega) (h + 1) rfl (by omega)
  exact loop _ 0 rfl (by omega)
section
variable {td : Nat → Int32} {huts singers villages dams echoes deep slide : Int32} {heights ladders minutes echoFrom echoTo homes talls known : Nat → Int32}
theorem e_depthX {to lo nw th : Nat → Int32} {n : Nat} {post : Int32 → (Nat → Int32) → (Nat → Int32) → (Nat → Int32) → (Nat → Int32) → Prop} (hD : LX td huts singers dams echoes deep heights ladders minutes echoFrom echoTo talls) (hn : td 0 = nI n) (hn9 : n ≤ 9) (hp : ∀ to lo nw th, post (nI (mx (fun f => mx (FLg td n f) n) n)) to lo nw th) : q_wp_X7_depth_9_0 to lo nw th huts dams heights minutes post := by
  have h0 : huts = nI n := hD.1.trans hn
  intro P hP
  have loop : ∀ m f (to lo nw th : Nat → Int32), m = n - f → f ≤ n → P (nI (mx (fun f => mx (FLg td n f) n) f)) (nI f) to lo nw th := by
    intro m
    induction m using Nat.strongRecOn with
    | ind m ih =>
      intro f to lo nw th hm hf
      apply hP
      refine pk_le n f (fun h9 => by rw [show f = n by omega]; exact hp to lo nw th) (fun h9 => ?_) h0
      refine e_traceX hD hn hn9 h9 rfl (fun to' lo' nw' th' hr => ?_)
      have mb : mx (fun f => mx (FLg td n f) n) f ≤ 9 := mx_le f (fun f' hf' => mx_le n (fun h hh => FLg_b hn9 hh))
      intro P2 hP2
      have loop2 : ∀ m h, m = n - h → h ≤ n → P2 (nI (max (mx (fun f => mx (FLg td n f) n) f) (mx (FLg td n f) h))) (nI h) := by
        intro m
        induction m using Nat.strongRecOn with
        | ind m ih2 =>
          intro h hm2 hh
          apply hP2
          refine pk_le n h (fun h8 v ev => ?_) (fun h8 => ⟨vp_in_nI (by omega) (by omega), fun v ev v2 ev2 => ?_⟩) h0
          · rw [ev, nI_1, show h = n by omega]
            exact ih (n - (f + 1)) (by omega) (f + 1) to' lo' nw' th' rfl (by omega)
          · have fb := FLg_b (td := td) (f := f) hn9 h8
            have mb2 : mx (FLg td n f) h ≤ 9 := mx_le h (fun h' hh' => FLg_b hn9 (by omega))
            have e : mx (FLg td n f) (h + 1) = max (mx (FLg td n f) h) (FLg td n f h) := rfl
            rw [nI_clamp (by omega), (hr h h8).2] at ev
            have ev3 : v = nI (max (mx (fun f => mx (FLg td n f) n) f) (mx (FLg td n f) (h + 1))) := by
              rw [ev, e]
              by_cases q : max (mx (fun f => mx (FLg td n f) n) f) (mx (FLg td n f) h) < FLg td n f h
              · rw [if_pos (nI_lt q (by omega))]
                congr 1
                omega
              · rw [if_neg (fun q2 => q ((nI_ltI (by omega) (by omega)).mp q2))]
                congr 1
                omega
            rw [ev2, ev3, nI_1]
            exact ih2 (n - (h + 1)) (by omega) (h + 1) rfl (by omega)
      have g := loop2 _ 0 rfl (by omega)
      rw [show max (mx (fun f => mx (FLg td n f) n) f) (mx (FLg td n f) 0) = mx (fun f => mx (FLg td n f) n) f from Nat.max_eq_left (Nat.zero_le _)] at g
      exact g
  exact loop _ 0 to lo nw th rfl (by omega)
end
set_option maxRecDepth 40000 in
set_option maxHeartbeats 4000000 in
theorem e_m_slopes {M : Nat → Nat → Int32} {f_code f_land f_huts f_singers a c : Int32} {a_run a_routes a_longest a_steep a_laid : Nat → Int32} {post : Int32 → (Int32) → (Int32) → (Int32) → (Int32) → (Nat → Int32) → (Nat → Int32) → (Nat → Int32) → (Nat → Int32) → (Nat → Int32) → Prop} (hc : ∀ o, iv 0 2 (M 4 o)) (hL : mLand (M 5)) (hK : LK M) (hp : ∀ z0 z1 z2 z3 z4 z5 z6 z7 z8, post (AN_slopes M a c) z0 z1 z2 z3 z4 z5 z6 z7 z8) : q_m_slopes_0 f_code (M 4) (M 5) f_land f_huts f_singers a_run a_routes a_longest a_steep a_laid a c post := by
  unfold AN_slopes at hp
  refine e_hand (hc 0) (fun hno => iz ?_) (fun k hk ea hy => oi ?_)
  · rw [if_neg hno] at hp; exact hp _ _ _ _ _ _ _ _ _
  rw [if_pos hy] at hp
  subst ea
  have hO : LOK (rowM M 0 (nI k)) := LK_row hK hk hy.2
  have hR : RNG (rowM M 0 (nI k)) := RNG_M hL hk
  obtain ⟨n, hn, hn9⟩ := ln_of hR
  refine sp_in (fun h => zi ?_) (fun c1 c2 => io ?_)
  · rw [if_neg h] at hp; exact hp _ _ _ _ _ _ _ _ _
  rw [if_pos ⟨c1, c2⟩, hn, cN_nI (by omega)] at hp
  unfold SLP at hp
  intro P hP
  have loop : ∀ m f (run ro lo st la : Nat → Int32), m = n - f → f ≤ n → P (unT (tdM M k) n f) (mkB (enB (tdM M k) n) f) (nI (sm (oE (tdM M k) n) f)) (nI (mx (fun f => mx (FLg (tdM M k) n f) n) f)) (nI f) run ro lo st la := by
    intro m
    induction m using Nat.strongRecOn with
    | ind m ih =>
      intro f run ro lo st la hm hf
      apply hP
      refine pk_le n f (fun h9 => ?_) (fun h9 => ?_) hn
      · rw [show f = n by omega]
        refine ⟨fun w0 => ⟨fun w1 => ⟨fun w2 => ?_, fun w2 => ?_⟩, fun w1 => ?_⟩, fun w0 => ?_⟩
        · rw [if_neg w0, if_neg w1, if_neg w2] at hp; exact hp _ _ _ _ _ _ _ _ _
        · rw [if_neg w0, if_neg w1, if_pos w2] at hp; exact hp _ _ _ _ _ _ _ _ _
        · rw [if_neg w0, if_pos w1] at hp; exact hp _ _ _ _ _ _ _ _ _
        · rw [if_pos w0] at hp
          refine e_of (i := 3) hk (by omega) rfl ?_
          rw [hn, sh_pow hn9, show nI (2 ^ n) - 1 = nI (2 ^ n - 1) from pk_sub (b := 1) (Nat.two_pow_pos n), show rowM M 0 (nI k) 3 = tdM M k 3 from rfl]
          dsimp only
          rw [tp_ref hn9]
          exact hp _ _ _ _ _ _ _ _ _
      · refine e_run0M hk hL hO hn hn9 h9 rfl (fun run' hr => e_comesByM hn hn9 rfl hr (fun v1 ev1 v2 ev2 => ?_))
        have e1 : v1 = oT (tdM M k) n f := ev1
        have e2 : v2 = unT (tdM M k) n (f + 1) := by rw [ev2, e1]; rfl
        subst e1 e2
        have mb : mx (fun f => mx (FLg (tdM M k) n f) n) f ≤ 9 := mx_le f (fun f' hf' => mx_le n (fun h hh => FLg_b hn9 hh))
        have en : mkB (enB (tdM M k) n) (f + 1) = mkB (enB (tdM M k) n) f ||| (if enB (tdM M k) n f = true then bitI f else 0) := rfl
        have go : ∀ y1 : Int32, y1 = (if enB (tdM M k) n f = true then bitI f else 0) → q_m_slopes_99 P 0 (M 4) (M 5) (nI k) (tdM M k 0) (tdM M k 1) run' ro lo st la c (unT (tdM M k) n (f + 1)) (nI (sm (oE (tdM M k) n) f)) (nI (mx (fun f => mx (FLg (tdM M k) n f) n) f)) (nI f) (oT (tdM M k) n f) (mkB (enB (tdM M k) n) f) y1 post := by
          intro y1 hy v1 ev1
          refine e_onesM (fun v2 ev2 => e_findRoutesM hk hL hn hn9 h9 rfl (fun ro' lo' st' la' hr' => ?_))
          have ev1' : v1 = mkB (enB (tdM M k) n) (f + 1) := by rw [ev1, hy, en]
          have ev2' : v2 = nI (sm (oE (tdM M k) n) (f + 1)) := by rw [ev2, oT_c hn9 h9, nI_add]; rfl
          subst ev1' ev2'
          intro P2 hP2
          have loop2 : ∀ m h, m = n - h → h ≤ n → P2 (nI (max (mx (fun f => mx (FLg (tdM M k) n f) n) f) (mx (FLg (tdM M k) n f) h))) (nI h) := by
            intro m
            induction m using Nat.strongRecOn with
            | ind m ih2 =>
              intro h hm2 hh
              apply hP2
              refine pk_le n h (fun h8 v ev => ?_) (fun h8 => ⟨vp_in_nI (by omega) (by omega), ?_⟩) hn
              · rw [ev, nI_1, show h = n by omega]
                exact ih (n - (f + 1)) (by omega) (f + 1) run' ro' lo' st' la' rfl (by omega)
              · have fb := FLg_b (td := tdM M k) (f := f) hn9 h8
                have mb2 : mx (FLg (tdM M k) n f) h ≤ 9 := mx_le h (fun h' hh' => FLg_b hn9 (by omega))
                have e : mx (FLg (tdM M k) n f) (h + 1) = max (mx (FLg (tdM M k) n f) h) (FLg (tdM M k) n f h) := rfl
                rw [nI_clamp (by omega), (hr' h h8).2.1]
                refine e_grM (by omega) (by omega) (fun v ev => ?_)
                rw [ev, nI_1, Nat.max_assoc, ← e]
                exact ih2 (n - (h + 1)) (by omega) (h + 1) rfl (by omega)
          have g := loop2 _ 0 rfl (by omega)
          rw [show max (mx (fun f => mx (FLg (tdM M k) n f) n) f) (mx (FLg (tdM M k) n f) 0) = mx (fun f => mx (FLg (tdM M k) n f) n) f from Nat.max_eq_left (Nat.zero_le _)] at g
          exact g
        refine ⟨fun q => go 0 ?_, fun q => e_isDamM hk (by omega) (fun hd => zi (go _ ?_)) (fun hd => io (go 0 ?_))⟩
        · rw [if_neg (fun h8 => q ((oT_0 hn9 h9).mpr (by
            unfold enB at h8
            rw [Bool.and_eq_true] at h8
            exact of_decide_eq_true h8.2)))]
        · rw [if_pos (by
            unfold enB
            rw [hd, decide_eq_true ((oT_0 hn9 h9).mp q)]
            rfl)]
          rfl
        · rw [if_neg (by unfold enB; rw [hd]; simp)]
  exact loop _ 0 _ _ _ _ _ rfl (by omega)
set_option maxRecDepth 40000 in
set_option maxHeartbeats 4000000 in
theorem e_x_slopes {T : TT} {M : Nat → Nat → Int32} {a c : Int32} {pa_heard pa_total pa_longest pa_now pa_then : Nat → Int32} {post : Int32 → (Nat → Int32) → (Nat → Int32) → (Nat → Int32) → (Nat → Int32) → (Nat → Int32) → Prop} (h : TM T M 0) (hB : tB T) (hK : LK M) (hL : mLand (M 5)) (hp : ∀ z0 z1 z2 z3 z4, post (AN_slopes M a c) z0 z1 z2 z3 z4) : q_wx_X10_slopes_0 (T.2 1) (T.1 3) (T.1 6) (T.1 7) (T.2 2) (T.2 4) (T.2 5) (T.2 6) (T.1 10) (T.1 13) (T.1 14) (T.2 10) (T.2 12) (T.2 13) (T.2 14) pa_heard pa_total pa_longest pa_now pa_then a c post := by
  unfold AN_slopes at hp
  rw [TM_cnt h 0 (by decide)] at hp
  refine e_at (hB.2.2.1 0) (fun (hno : ¬ (0 ≤ a ∧ a < T.2 1 0)) => ?_) (fun ea hla => ?_) (fun ea hla => ?_)
  · rw [if_neg hno] at hp
    exact ⟨fun _ => hp _ _ _ _ _, fun h9 => absurd h9 (by decide), fun h9 => absurd rfl h9⟩
  · rw [if_pos (by rw [ea]; exact ⟨by decide, hla⟩), ea] at hp
    have hR : RNG (rowM M 0 (nI 0)) := RNG_M hL (by decide)
    have hLD : LDR (T.1 3) (T.1 4) (T.1 5) (T.1 6) (T.1 7) (T.1 8) (T.1 9) (T.2 2) (T.2 3) (T.2 4) (T.2 5) (T.2 6) (T.2 7) (T.2 8) (T.2 9) (rowM M 0 (nI 0)) := TM_sl h 0 0 (by decide) (by decide) hla
    have hX := LX_of hR hLD
    have hOK : LOK (rowM M 0 (nI 0)) := LK_row hK (by decide) (by rw [TM_cnt h 0 (by decide)]; exact hla)
    obtain ⟨n, hn, hn9⟩ := ln_of hR
    refine ⟨fun h9 => absurd h9 (by decide), fun h9 => absurd h9 (by decide), fun _ _ => ?_⟩
    refine e_hearX hR hX hn hn9 (fun t' ht => ⟨fun hno => ?_, fun c0 => ?_, fun c0 => ?_, fun c0 => ?_, fun c0 => ?_⟩)
    · rw [if_neg (fun h9 => by
        have h1 := Int32.le_iff_toInt_le.mp h9.1
        have h2 := Int32.le_iff_toInt_le.mp h9.2
        have z0 : (0 : Int32).toInt = 0 := rfl
        have z3 : (3 : Int32).toInt = 3 := rfl
        omega)] at hp; exact hp _ _ _ _ _
    · subst c0
      rw [if_pos (by decide), hn, cN_nI (by omega)] at hp
      exact e_topsX (td := rowM M 0 (nI 0)) (hX.1.trans hn) hn9 ht (hp _ _ _ _ _)
    · subst c0
      rw [if_pos (by decide), hn, cN_nI (by omega)] at hp
      exact e_endsX (td := rowM M 0 (nI 0)) (hX.1.trans hn) hX.2.2.1 hn9 ht (hp _ _ _ _ _)
    · subst c0
      rw [if_pos (by decide), hn, cN_nI (by omega)] at hp
      exact e_couplesX (td := rowM M 0 (nI 0)) (hX.1.trans hn) hn9 ht (hp _ _ _ _ _)
    · subst c0
      rw [if_pos (by decide), hn, cN_nI (by omega)] at hp
      exact e_depthX hX hn hn9 (fun to lo nw th => hp _ _ _ _ _)
  · rw [if_pos (by rw [ea]; exact ⟨by decide, hla⟩), ea] at hp
    have hR : RNG (rowM M 0 (nI 1)) := RNG_M hL (by decide)
    have hLD : LDR (T.1 10) (T.1 11) (T.1 12) (T.1 13) (T.1 14) (T.1 15) (T.1 16) (T.2 10) (T.2 11) (T.2 12) (T.2 13) (T.2 14) (T.2 15) (T.2 16) (T.2 17) (rowM M 0 (nI 1)) := TM_sl h 0 1 (by decide) (by decide) hla
    have hX := LX_of hR hLD
    have hOK : LOK (rowM M 0 (nI 1)) := LK_row hK (by decide) (by rw [TM_cnt h 0 (by decide)]; exact hla)
    obtain ⟨n, hn, hn9⟩ := ln_of hR
    refine ⟨fun h9 => absurd h9 (by decide), fun _ => ?_, fun _ h9 => absurd rfl h9⟩
    refine e_hearX hR hX hn hn9 (fun t' ht => ⟨fun hno => ?_, fun c0 => ?_, fun c0 => ?_, fun c0 => ?_, fun c0 => ?_⟩)
    · rw [if_neg (fun h9 => by
        have h1 := Int32.le_iff_toInt_le.mp h9.1
        have h2 := Int32.le_iff_toInt_le.mp h9.2
        have z0 : (0 : Int32).toInt = 0 := rfl
        have z3 : (3 : Int32).toInt = 3 := rfl
        omega)] at hp; exact hp _ _ _ _ _
    · subst c0
      rw [if_pos (by decide), hn, cN_nI (by omega)] at hp
      exact e_topsX (td := rowM M 0 (nI 1)) (hX.1.trans hn) hn9 ht (hp _ _ _ _ _)
    · subst c0
      rw [if_pos (by decide), hn, cN_nI (by omega)] at hp
      exact e_endsX (td := rowM M 0 (nI 1)) (hX.1.trans hn) hX.2.2.1 hn9 ht (hp _ _ _ _ _)
    · subst c0
      rw [if_pos (by decide), hn, cN_nI (by omega)] at hp
      exact e_couplesX (td := rowM M 0 (nI 1)) (hX.1.trans hn) hn9 ht (hp _ _ _ _ _)
    · subst c0
      rw [if_pos (by decide), hn, cN_nI (by omega)] at hp
      exact e_depthX hX hn hn9 (fun to lo nw th => hp _ _ _ _ _)
end
