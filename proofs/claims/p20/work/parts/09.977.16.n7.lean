section
/-- the class's night is as a state -/
def XG (td : Nat → Int32) (S : Nat → Nat → Int32) (mi av be cl : Int32) (hu kn lv sn : Nat → Int32) : Prop := (∀ j, j < 6 → hb cl j = decide (S 2 j = 1)) ∧ (∀ j, j < 6 → nI j < td 1 → hu j = S 0 j) ∧ (∀ j, j < 6 → kn j = S 1 j) ∧ (∀ t, t < 5 → lv t = S 4 t) ∧ (∀ j, j < 9 → sn j = S 3 j) ∧ be = S 5 0 ∧ mi = S 5 1 ∧ av = S 5 2
/-- the class's land is as a row; its heights, homes, talls in their places -/
def LX (td : Nat → Int32) (huts singers dams echoes deep : Int32) (heights ladders minutes echoFrom echoTo talls : Nat → Int32) : Prop := huts = td 0 ∧ singers = td 1 ∧ dams = td 3 ∧ echoes = td 4 ∧ deep = td 5 ∧ (∀ j : Nat, j < 9 → nI j < td 0 → heights j = td (7 + j)) ∧ (∀ j, j < 9 → ladders j = td (16 + j)) ∧ (∀ j, j < 81 → minutes j = td (51 + j)) ∧ (∀ j : Nat, j < 4 → nI j < td 4 → echoFrom j = td (43 + 2 * j) ∧ echoTo j = td (44 + 2 * j)) ∧ (∀ j : Nat, j < 6 → nI j < td 1 → talls j = td (31 + j))
theorem lt_cln {j m : Nat} {x : Int32} (hx : iv 0 m x) (hm : m < 1000) (h : nI j < x) (hj : j < 1000) : j < x.toNatClampNeg := by
  obtain ⟨n, rfl, -, hn, hn2⟩ := iv_nI hx (by decide)
  rw [nI_clamp hn2]
  exact (nI_ltI (by omega) hn2).mp h
theorem LX_of {td : Nat → Int32} {huts singers villages dams echoes deep slide : Int32} {heights ladders minutes echoFrom echoTo homes talls known : Nat → Int32} (hR : RNG td) (h : LDR huts singers villages dams echoes deep slide heights ladders minutes echoFrom echoTo homes talls known td) : LX td huts singers dams echoes deep heights ladders minutes echoFrom echoTo talls := by
  obtain ⟨e0, e1, e2, e3, e4, e5, e6, f1, f2, f3, f4, f5, f6⟩ := h
  have b0 : iv 0 (9 : Nat) (td 0) := hR 0 (by omega)
  have b1 : iv 0 (6 : Nat) (td 1) := hR 1 (by omega)
  have b4 : iv 0 (4 : Nat) (td 4) := hR 4 (by omega)
  exact ⟨e0, e1, e3, e4, e5, fun j hj hl => f1 j (lt_cln b0 (by omega) hl (by omega)), f2, f3, fun j hj hl => f4 j (lt_cln b4 (by omega) hl (by omega)), fun j hj hl => (f5 j (lt_cln b1 (by omega) hl (by omega))).2⟩
section
variable {td : Nat → Int32} {S : Nat → Nat → Int32} {mi av be cl : Int32} {hu kn lv sn : Nat → Int32} {huts singers dams echoes deep : Int32} {heights ladders minutes echoFrom echoTo talls : Nat → Int32}
theorem e_highX {s : Nat} {post : Int32 → Prop} (hR : RNG td) (hN : NOK td S) (hG : XG td S mi av be cl hu kn lv sn) (hD : LX td huts singers dams echoes deep heights ladders minutes echoFrom echoTo talls) (hs : s < 6) (hl : nI s < td 1) (hp : post (hgh td (S 0) (S 2) s)) : q_wn_X3_high_6_0 cl hu heights ladders talls (nI s) post := by
  obtain ⟨a, ea, -, ha8, -⟩ := iv_nI (hN.1 s hs) (by decide)
  have hin : vp_in (nI s) 6 := vp_in_nI hs (by omega)
  have ha0 : nI a < td 0 := by rw [← ea]; exact hN.2.2.2.2.1 s hs hl
  unfold hgh at hp
  rw [ea, cN_nI (by omega)] at hp
  refine ⟨hin, fun v1 e1 => ?_⟩
  rw [nI_clamp (by omega), hG.2.1 s hs hl, ea] at e1
  subst e1
  have hin9 : vp_in (nI a) 9 := vp_in_nI (by omega) (by omega)
  refine ⟨hin9, hin, fun v2 e2 => ?_⟩
  rw [nI_clamp (by omega), nI_clamp (by omega), hD.2.2.2.2.2.1 a (by omega) ha0, hD.2.2.2.2.2.2.2.2.2 s hs hl] at e2
  subst e2
  refine e_hasX (by omega) (fun h0 => iz ?_) (fun h1 => oi ⟨hin9, ?_⟩)
  · rw [hG.1 s hs] at h0
    have hz : S 2 s = 0 := by
      rcases hN.2.2.1 s hs with h | h
      · exact h
      · rw [h] at h0; exact absurd h0 (by decide)
    rw [hz, Int32.zero_mul, Int32.add_zero] at hp
    exact hp
  · rw [hG.1 s hs] at h1
    rw [of_decide_eq_true h1, Int32.one_mul] at hp
    rw [nI_clamp (by omega), hD.2.2.2.2.2.2.1 a (by omega)]
    exact hp
theorem e_earX {h : Nat} {post : Int32 → Prop} (hR : RNG td) (hd : dams = td 3) (he : echoes = td 4) (hf : ∀ j : Nat, j < 4 → nI j < td 4 → echoFrom j = td (43 + 2 * j) ∧ echoTo j = td (44 + 2 * j)) (hh : h < 9) (hp : ∀ set, (∀ x, x < 31 → hb set x = hear td h x) → post set) : q_wl_X2_earshot_0 dams echoes echoFrom echoTo (nI h) post := by
  have h4 : iv 0 4 (td 4) := hR 4 (by omega)
  obtain ⟨c, hc, -, hc4, -⟩ := iv_nI h4 (by decide)
  have st : ∀ y : Int32, (∀ x, x < 31 → hb y x = (!dam td x && decide (x = h))) → q_wl_X2_earshot_15 dams echoes echoFrom echoTo (nI h) y post := by
    intro y hy P hP
    have loop : ∀ m j (x2 : Int32), m = c - j → j ≤ c → (∀ x, x < 31 → hb x2 x = (!dam td x && (decide (x = h) || ech td h x j))) → P x2 (nI j) := by
      intro m
      induction m using Nat.strongRecOn with
      | ind m ih =>
        intro j x2 hm hj hx
        apply hP
        rw [he, hc]
        refine pk_le c j (fun h9 => ?_) (fun h9 => ?_)
        · refine hp x2 (fun x hx9 => ?_)
          rw [hx x hx9]
          unfold hear
          rw [hc, cN_nI (by omega), show j = c by omega]
        · have hin : vp_in (nI j) 4 := vp_in_nI (by omega) (by omega)
          have hl4 : nI j < td 4 := by rw [hc]; exact nI_lt h9 (by omega)
          obtain ⟨f1, f2⟩ := hf j (by omega) hl4
          have nx : ∀ x2' : Int32, (∀ x, x < 31 → hb x2' x = (!dam td x && (decide (x = h) || ech td h x (j + 1)))) → q_wl_X2_earshot_60 P dams (nI c) echoFrom echoTo (nI h) x2' (nI j) post := by
            intro x2' h2 v ev
            rw [ev, nI_1]
            exact ih (c - (j + 1)) (by omega) (j + 1) x2' rfl (by omega) h2
          have st1 : ∀ x, ech td h x (j + 1) = (ech td h x j || (decide (td (43 + 2 * j) = nI h) && decide (td (44 + 2 * j) = nI x))) := fun x => rfl
          refine ⟨hin, ?_⟩
          rw [nI_clamp (by omega), f1, f2]
          refine ⟨fun hne => nx x2 (fun x hx9 => ?_), fun heq => ⟨hin, ?_⟩⟩
          · rw [hx x hx9, st1, decide_eq_false hne, Bool.false_and, Bool.or_false]
          · have hy8 : iv 0 8 (td (44 + 2 * j)) := iv_w (hR (44 + 2 * j) (by omega)) (by
              have hcs : j = 0 ∨ j = 1 ∨ j = 2 ∨ j = 3 := by omega
              rcases hcs with rfl | rfl | rfl | rfl <;> decide)
            obtain ⟨y2, ey, -, hy2, -⟩ := iv_nI hy8 (by decide)
            rw [ey]
            have ex : ∀ x, x < 31 → (decide (td (43 + 2 * j) = nI h) && decide (td (44 + 2 * j) = nI x)) = decide (y2 = x) := by
              intro x hx9
              rw [decide_eq_true heq, Bool.true_and, ey]
              by_cases e : y2 = x
              · subst e; rw [decide_eq_true rfl, decide_eq_true rfl]
              · rw [decide_eq_false e, decide_eq_false (fun h8 => e ((nI_eq (by omega) (by omega)).mp h8))]
            refine e_damX (by omega) (fun hd0 => zi ⟨hin, fun v ev => nx v (fun x hx9 => ?_)⟩) (fun hd1 => io (nx x2 (fun x hx9 => ?_)))
            · rw [ev, hb_or, hx x hx9, hb_bit (by omega) hx9, st1, ex x hx9]
              rw [hd] at hd0
              by_cases e : y2 = x
              · subst e
                unfold dam
                rw [hd0, decide_eq_true rfl]
                simp
              · rw [decide_eq_false e, Bool.or_false, Bool.or_false]
            · rw [hx x hx9, st1, ex x hx9]
              rw [hd] at hd1
              by_cases e : y2 = x
              · subst e
                unfold dam
                rw [hd1]
                rfl
              · rw [decide_eq_false e, Bool.or_false]
    exact loop _ 0 y rfl (by omega) (fun x hx9 => by rw [hy x hx9]; show _ = (!dam td x && (decide (x = h) || false)); rw [Bool.or_false])
  refine e_damX (by omega) (fun hd0 => iz (st _ (fun x hx9 => ?_))) (fun hd1 => oi (st 0 (fun x hx9 => ?_)))
  · rw [hb_bit (by omega) hx9]
    rw [hd] at hd0
    by_cases e : h = x
    · subst e
      unfold dam
      rw [hd0, decide_eq_true rfl]
      rfl
    · rw [decide_eq_false e, de_ne e, Bool.and_false]
  · rw [hb_0]
    rw [hd] at hd1
    by_cases e : h = x
    · subst e
      unfold dam
      rw [hd1]
      rfl
    · rw [de_ne e, Bool.and_false]
theorem e_singersInX {bits : Int32} {post : Int32 → Prop} (hR : RNG td) (hN : NOK td S) (hG : XG td S mi av be cl hu kn lv sn) (hd : singers = td 1) (hp : ∀ set, (∀ o, o < 31 → hb set o = (decide (nI o < td 1) && hb bits (cN (S 0 o)))) → post set) : q_wn_X3_singersIn_6_0 hu singers bits post := by
  have h1 : iv 0 6 (td 1) := hR 1 (by omega)
  obtain ⟨c, hc, -, hc6, -⟩ := iv_nI h1 (by decide)
  intro P hP
  have loop : ∀ m j (x3 : Int32), m = c - j → j ≤ c → (∀ o, o < 31 → hb x3 o = (decide (o < j) && hb bits (cN (S 0 o)))) → P x3 (nI j) := by
    intro m
    induction m using Nat.strongRecOn with
    | ind m ih =>
      intro j x3 hm hj hx
      apply hP
      rw [hd, hc]
      refine pk_le c j (fun h9 => ?_) (fun h9 => ?_)
      · refine hp x3 (fun o ho => ?_)
        rw [hx o ho, hc, show j = c by omega]
        by_cases e : o < c
        · rw [decide_eq_true e, decide_eq_true (nI_lt e (by omega))]
        · rw [decide_eq_false e, decide_eq_false (fun h8 => e ((nI_ltI (by omega) (by omega)).mp h8))]
      · have hin : vp_in (nI j) 6 := vp_in_nI (by omega) (by omega)
        have hl : nI j < td 1 := by rw [hc]; exact nI_lt h9 (by omega)
        obtain ⟨a, ea, -, ha8, -⟩ := iv_nI (hN.1 j (by omega)) (by decide)
        have nx : ∀ x3' : Int32, (∀ o, o < 31 → hb x3' o = (decide (o < j + 1) && hb bits (cN (S 0 o)))) → q_wn_X3_singersIn_6_35 P hu (nI c) bits x3' (nI j) post := by
          intro x3' h2 v ev
          rw [ev, nI_1]
          exact ih (c - (j + 1)) (by omega) (j + 1) x3' rfl (by omega) h2
        have ex : ∀ o, ¬ o = j → decide (o < j + 1) = decide (o < j) := by
          intro o ho
          by_cases e : o < j
          · rw [decide_eq_true e, decide_eq_true (by omega)]
          · rw [decide_eq_false e, decide_eq_false (by omega)]
        refine ⟨hin, ?_⟩
        rw [nI_clamp (by omega), hG.2.1 j (by omega) hl, ea]
        refine e_hasX (by omega) (fun h0 => iz (nx x3 (fun o ho => ?_))) (fun h0 => oi (fun v ev => nx v (fun o ho => ?_)))
        · rw [hx o ho]
          by_cases e : o = j
          · subst e
            rw [ea, cN_nI (by omega), h0, Bool.and_false, Bool.and_false]
          · rw [ex o e]
        · rw [ev, hb_or, hx o ho, hb_bit (by omega) ho]
          by_cases e : o = j
          · subst e
            rw [ea, cN_nI (by omega), h0, decide_eq_true rfl, decide_eq_true (show o < o + 1 by omega)]
            simp
          · rw [ex o e, de_ne e, Bool.or_false]
  exact loop _ 0 0 rfl (by omega) (fun o ho => by rw [hb_0, decide_eq_false (by omega)]; rfl)
theorem i_le {x y : Int32} : (x ≤ y) ↔ ¬ y < x := by
  rw [Int32.le_iff_toInt_le, Int32.lt_iff_toInt_lt]; omega
theorem i_eq {x y : Int32} : (x = y) ↔ (¬ y < x ∧ ¬ x < y) := by
  rw [Int32.lt_iff_toInt_lt, Int32.lt_iff_toInt_lt, ← Int32.toInt_inj]; omega
/-- whether it is wrong -/
theorem e_wrongX {K h l : Int32} {post : Int32 → Prop} (hK : K = 0 ∨ K = 1 ∨ K = 2) (hp : ∀ w : Bool, w = (!decide (K = 0) && (decide (l < h) || (!decide (K = 2) && decide (h = l)))) → post (bI w)) : q_z_X3_isWrong_0 K h l post := by
  rcases hK with rfl | rfl | rfl
  · exact ⟨fun _ => ⟨fun _ => hp false (by rfl), fun h9 => absurd h9 (by decide)⟩, fun h9 => absurd h9 (by decide)⟩
  · refine ⟨fun h9 => absurd rfl h9, fun _ => ⟨fun hlt => hp false ?_, fun hlt => hp true ?_⟩⟩
    · rw [decide_eq_false (fun h9 : l < h => by have := r_lt h9; have := r_lt hlt; omega), decide_eq_false (fun h9 : h = l => by rw [h9] at hlt; have := r_lt hlt; omega)]
      rfl
    · by_cases e : l < h
      · rw [decide_eq_true e]; rfl
      · rw [decide_eq_true (i_eq.mpr ⟨e, hlt⟩)]
        rw [decide_eq_false e]; rfl
  · refine ⟨fun _ => ⟨fun h9 => absurd rfl h9, fun _ => ⟨fun hle => hp false ?_, fun hle => hp true ?_⟩⟩, fun h9 => absurd h9 (by decide)⟩
    · rw [decide_eq_false (i_le.mp hle)]
      rfl
    · rw [decide_eq_true (Decidable.not_not.mp (fun h9 => hle (i_le.mpr h9)))]
      rfl
def wI (b : Bool) : Int32 := if b = true then 1 else 0
theorem e_raiseX {K x : Int32} {s : Nat} {b : Bool} {post : Int32 → Int32 → Int32 → (Nat → Int32) → (Nat → Int32) → (Nat → Int32) → Prop} (hR : RNG td) (hN : NOK td S) (hG : XG td S mi av be cl hu kn lv sn) (hD : LX td huts singers dams echoes deep heights ladders minutes echoFrom echoTo talls) (hs : s < 6) (hl : nI s < td 1) (hK : K = 0 ∨ K = 1 ∨ K = 2) (hb1 : b = !decide (K = 0))
    (h0 : mayR td (S 0) (S 1) (S 5 0) s x b = false → post 0 av be kn lv sn)
    (h1 : ∀ t, t < 5 → x = nI t → mayR td (S 0) (S 1) (S 5 0) s (nI t) b = true → ∀ w, w = (!decide (K = 0) && wrongR td (S 0) (S 2) (S 4) s t (decide (K = 2))) → ∀ kn' lv' sn', (∀ j, j < 6 → kn' j = knS td (S 0) (S 1) s t j) → (∀ j, j < 5 → lv' j = upd (S 4) t (hgh td (S 0) (S 2) s) j) → (∀ j, j < 9 → sn' j = upd (S 3) (cN (S 0 s)) (S 3 (cN (S 0 s)) + wI w) j) → post 1 (S 5 2 + wI w) (S 5 0 ||| bitI t) kn' lv' sn') :
    q_wn_X3_raise_6_0 av be cl hu kn lv sn singers dams echoes heights ladders echoFrom echoTo talls K (nI s) x post := by
  obtain ⟨a, ea, -, ha8, -⟩ := iv_nI (hN.1 s hs) (by decide)
  have hin : vp_in (nI s) 6 := vp_in_nI hs (by omega)
  have hin9 : vp_in (nI a) 9 := vp_in_nI (by omega) (by omega)
  refine ⟨hin, fun v1 e1 => ?_⟩
  rw [nI_clamp (by omega), hG.2.1 s hs hl, ea] at e1
  subst e1
  refine ⟨fun hneg => h0 ?_, fun hneg => ⟨fun h5 => h0 ?_, fun h5 => ⟨hin, ?_⟩⟩⟩
  · unfold mayR
    rw [decide_eq_false (fun h9 => absurd hneg (Int32.not_lt.mpr h9.1))]
    rfl
  · unfold mayR
    rw [decide_eq_false (fun h9 => absurd h9.2 (Int32.not_lt.mpr h5))]
    rfl
  obtain ⟨t, ht, rfl⟩ := lt_nI (c := 5) (m := 5) (iv_lit (by decide)) ⟨Int32.not_lt.mp hneg, Int32.not_le.mp h5⟩
  have em : ∀ b, mayR td (S 0) (S 1) (S 5 0) s (nI t) b = (hb (S 1 s) t && (hb (S 5 0) t == b) && !dam td a) := by
    intro b
    unfold mayR
    rw [decide_eq_true ⟨nI_pos' (by omega), nI_lt (b := 5) ht (by omega)⟩, cN_nI (by omega), ea, cN_nI (by omega), Bool.true_and]
  rw [em] at h0
  rw [nI_clamp (by omega), hG.2.2.1 s hs]
  refine e_hasX (by omega) (fun hk0 => iz (h0 (by rw [hk0]; rfl))) (fun hk1 => oi ?_)
  rw [hD.2.2.1]
  refine e_damX (by omega) (fun hd0 => iz ?_) (fun hd1 => oi (h0 (by unfold dam; rw [hd1, Bool.not_true, Bool.and_false])))
  rw [hG.2.2.2.2.2.1]
  have hd0' : dam td a = false := hd0
  -- the sound itself
  have go : ∀ y0 y1 : Int32, ¬ y0 = y1 → (hb (S 5 0) t == b) = true → q_wn_X3_raise_6_62 av (S 5 0) cl hu kn lv sn singers (td 3) echoes heights ladders echoFrom echoTo talls K (nI s) (nI t) (nI a) y0 y1 post := by
    intro y0 y1 hy hbb
    refine ⟨fun _ => ?_, fun h9 => absurd h9 hy⟩
    have hm : mayR td (S 0) (S 1) (S 5 0) s (nI t) b = true := by rw [em, hk1, hbb, hd0']; rfl
    refine e_highX hR hN hG hD hs hl ⟨vp_in_nI ht (by omega), ?_⟩
    rw [nI_clamp (by omega), hG.2.2.2.1 t ht]
    refine e_wrongX hK (fun w ew => ?_)
    have h1' := h1 t ht rfl hm w (by rw [ew]; rfl)
    rw [ea, cN_nI (by omega)] at h1'
    have s112 : ∀ sn' : Nat → Int32, (∀ j, j < 9 → sn' j = upd (S 3) a (S 3 a + wI w) j) → q_wn_X3_raise_6_112 (S 5 2 + wI w) (S 5 0) cl hu kn lv sn' singers (td 3) echoes heights ladders echoFrom echoTo talls (nI t) (nI a) (hgh td (S 0) (S 2) s) post := by
      intro sn' hsn v1 e1
      refine ⟨vp_in_nI ht (by omega), fun lv1 e2 => ?_⟩
      rw [nI_clamp (by omega)] at e2
      refine e_earX hR rfl hD.2.2.2.1 hD.2.2.2.2.2.2.2.2.1 (by omega) (fun set hset => ?_)
      refine e_singersInX hR hN hG hD.2.1 (fun set2 hset2 => ?_)
      have b1 : iv 0 6 (td 1) := hR 1 (by omega)
      obtain ⟨c, hc, -, hc6, -⟩ := iv_nI b1 (by decide)
      have e1' : v1 = S 5 0 ||| bitI t := e1
      have e2' : ∀ j, j < 5 → lv1 j = upd (S 4) t (hgh td (S 0) (S 2) s) j := by
        intro j hj
        rw [e2]
        by_cases e : j = t
        · rw [e, up_s, up_s]
        · rw [up_n e, up_n e]; exact hG.2.2.2.1 j hj
      intro P hP
      have loop : ∀ m j (kn1 : Nat → Int32), m = c - j → j ≤ c → (∀ o, o < 6 → kn1 o = if o < j ∧ hear td a (cN (S 0 o)) = true then S 1 o ||| bitI t else S 1 o) → P (nI j) kn1 := by
        intro m
        induction m using Nat.strongRecOn with
        | ind m ih =>
          intro j kn1 hm2 hj hx
          apply hP
          rw [hD.2.1, hc]
          refine pk_le c j (fun h9 => ?_) (fun h9 => ?_)
          · rw [e1']
            refine h1' kn1 lv1 sn' (fun o ho => ?_) e2' hsn
            rw [hx o ho]
            unfold knS
            rw [hc, cN_nI (by omega), ea, cN_nI (by omega), show j = c by omega]
          · have hinj : vp_in (nI j) 6 := vp_in_nI (by omega) (by omega)
            have hlj : nI j < td 1 := by rw [hc]; exact nI_lt h9 (by omega)
            obtain ⟨a2, ea2, -, ha28, -⟩ := iv_nI (hN.1 j (by omega)) (by decide)
            have hs2 : hb set2 j = hear td a a2 := by
              rw [hset2 j (by omega), decide_eq_true hlj, Bool.true_and, ea2, cN_nI (by omega), hset a2 (by omega)]
            have nx : ∀ kn2 : Nat → Int32, (∀ o, o < 6 → kn2 o = if o < j + 1 ∧ hear td a (cN (S 0 o)) = true then S 1 o ||| bitI t else S 1 o) → q_wn_X3_raise_6_183 P (S 5 2 + wI w) v1 cl hu kn2 lv1 sn' (nI c) (td 3) echoes heights ladders echoFrom echoTo talls (nI t) set2 (nI j) post := by
              intro kn2 h2 v ev
              rw [ev, nI_1]
              exact ih (c - (j + 1)) (by omega) (j + 1) kn2 rfl (by omega) h2
            have ot : ∀ o, o < 6 → ¬ o = j → (if o < j + 1 ∧ hear td a (cN (S 0 o)) = true then S 1 o ||| bitI t else S 1 o) = (if o < j ∧ hear td a (cN (S 0 o)) = true then S 1 o ||| bitI t else S 1 o) := by
              intro o ho hoj
              by_cases e : o < j ∧ hear td a (cN (S 0 o)) = true
              · rw [if_pos e, if_pos ⟨by omega, e.2⟩]
              · rw [if_neg e, if_neg (fun h8 => e ⟨by omega, h8.2⟩)]
            refine e_hasX (by omega) (fun hh0 => iz (nx kn1 (fun o ho => ?_))) (fun hh1 => oi ⟨hinj, fun v ev => ⟨hinj, fun kn2 ek => nx kn2 (fun o ho => ?_)⟩⟩)
            · by_cases e : o = j
              · subst e
                rw [hx o ho, if_neg (fun h8 => absurd h8.1 (by omega)), if_neg (fun h8 => ?_)]
                rw [ea2, cN_nI (by omega), ← hs2, hh0] at h8
                exact absurd h8.2 (by decide)
              · rw [hx o ho, ot o ho e]
            · rw [nI_clamp (by omega)] at ev ek
              rw [ek]
              by_cases e : o = j
              · subst e
                rw [up_s, ev, hx o ho, if_neg (fun h8 => absurd h8.1 (by omega)), if_pos ⟨by omega, by rw [ea2, cN_nI (by omega), ← hs2, hh1]⟩]
                rfl
              · rw [up_n e, hx o ho, ot o ho e]
      exact loop _ 0 kn rfl (by omega) (fun o ho => by rw [if_neg (fun h8 => absurd h8.1 (by omega))]; exact hG.2.2.1 o ho)
    cases w with
    | false =>
      refine iz ?_
      have e9 : av = S 5 2 + wI false := by rw [hG.2.2.2.2.2.2.2]; show S 5 2 = S 5 2 + 0; rw [Int32.add_zero]
      rw [e9]
      refine s112 sn (fun j hj => ?_)
      show sn j = upd (S 3) a (S 3 a + 0) j
      rw [Int32.add_zero, hG.2.2.2.2.1 j hj]
      by_cases e : j = a
      · rw [e, up_s]
      · rw [up_n e]
    | true =>
      refine oi (fun v2 e2 => ⟨hin9, fun v3 e3 => ⟨hin9, fun sn1 e4 => ?_⟩⟩)
      rw [nI_clamp (by omega)] at e3 e4
      have e9 : v2 = S 5 2 + wI true := by rw [e2, hG.2.2.2.2.2.2.2]; rfl
      rw [e9]
      refine s112 sn1 (fun j hj => ?_)
      rw [e4, e3]
      by_cases e : j = a
      · rw [e, up_s, up_s, hG.2.2.2.2.1 a (by omega)]; rfl
      · rw [up_n e, up_n e]; exact hG.2.2.2.2.1 j hj
  have no : ∀ y : Int32, (hb (S 5 0) t == b) = false → q_wn_X3_raise_6_62 av (S 5 0) cl hu kn lv sn singers (td 3) echoes heights ladders echoFrom echoTo talls K (nI s) (nI t) (nI a) y y post := by
    intro y hbb
    refine ⟨fun h9 => absurd rfl h9, fun _ => ?_⟩
    have := h0 (by rw [hbb, Bool.and_false]; rfl)
    rw [hG.2.2.2.2.2.1] at this
    exact this
  refine e_hasX (by omega) (fun hb0 => ⟨fun hk0 => no 0 ?_, fun hk0 => go 0 1 (by decide) ?_⟩) (fun hb0 => ⟨fun hk0 => go 1 0 (by decide) ?_, fun hk0 => no 1 ?_⟩)
  · rw [hb0, hb1, decide_eq_false hk0]; rfl
  · rw [hb0, hb1, decide_eq_true hk0]; rfl
  · rw [hb0, hb1, decide_eq_false hk0]; rfl
  · rw [hb0, hb1, decide_eq_true hk0]; rfl
end
end
section
theorem e_hsX {c x : Int32} {post : Int32 → Prop} (h0 : ¬ (0 ≤ x ∧ x < c) → post 0) (h1 : 0 ≤ x ∧ x < c → post 1) : q_wl_X2_hasSinger_0 c x post := ⟨fun h => h0 (fun h9 => absurd h (Int32.not_lt.mpr h9.1)), fun h => ⟨fun h9 => h0 (fun h8 => absurd h8.2 (Int32.not_lt.mpr h9)), fun h9 => h1 ⟨Int32.not_lt.mp h, Int32.not_le.mp h9⟩⟩⟩
theorem e_hhX {c x : Int32} {post : Int32 → Prop} (h0 : ¬ (0 ≤ x ∧ x < c) → post 0) (h1 : 0 ≤ x ∧ x < c → post 1) : q_wl_X2_hasHut_0 c x post := ⟨fun h => h0 (fun h9 => absurd h (Int32.not_lt.mpr h9.1)), fun h => ⟨fun h9 => h0 (fun h8 => absurd h8.2 (Int32.not_lt.mpr h9)), fun h9 => h1 ⟨Int32.not_lt.mp h, Int32.not_le.mp h9⟩⟩⟩
section
variable {td : Nat → Int32} {S : Nat → Nat → Int32} {mi av be cl : Int32} {hu kn lv sn : Nat → Int32} {huts singers dams echoes deep : Int32} {heights ladders minutes echoFrom echoTo talls : Nat → Int32}
theorem e_cutX {h : Nat} {sn' : Nat → Int32} {post : Int32 → Prop} (hd : deep = td 5) (hh : h < 9) (hs : sn h = sn' h) (h0 : decide (sn' h < td 5) = true → post 0) (h1 : decide (sn' h < td 5) = false → post 1) : q_wn_X3_isCut_6_0 sn deep (nI h) post := by
  refine ⟨vp_in_nI hh (by omega), ?_⟩
  rw [nI_clamp (by omega), hd, hs]
  exact ⟨fun h => h0 (decide_eq_true h), fun h => h1 (decide_eq_false h)⟩
theorem e_walkX {s : Nat} {x : Int32} {post : Int32 → Int32 → (Nat → Int32) → Prop} (hR : RNG td) (hN : NOK td S) (hG : XG td S mi av be cl hu kn lv sn) (hD : LX td huts singers dams echoes deep heights ladders minutes echoFrom echoTo talls) (hs : s < 6) (hl : nI s < td 1)
    (h0 : mayW td (S 0) (S 2) (S 3) s x = false → post 0 mi hu) (h1 : mayW td (S 0) (S 2) (S 3) s x = true → ∀ hu', (∀ j, j < 6 → nI j < td 1 → hu' j = upd (S 0) s x j) → post 1 (S 5 1 + td (51 + 9 * cN (S 0 s) + cN x)) hu') : q_wn_X3_walk_6_0 mi cl hu sn huts deep minutes (nI s) x post := by
  obtain ⟨a, ea, -, ha8, -⟩ := iv_nI (hN.1 s hs) (by decide)
  have hin : vp_in (nI s) 6 := vp_in_nI hs (by omega)
  unfold mayW at h0 h1
  refine ⟨hin, fun v1 e1 => ?_⟩
  rw [nI_clamp (by omega), hG.2.1 s hs hl, ea] at e1
  subst e1
  rw [hD.1]
  refine e_hhX (fun hn => iz (h0 (by rw [decide_eq_false hn]; rfl))) (fun hy => oi ?_)
  obtain ⟨y, hy9, rfl⟩ := lt_nI (m := 9) (hR 0 (by omega)) hy
  rw [decide_eq_true hy, ea, cN_nI (by omega), cN_nI (by omega)] at h0 h1
  have ec : decide (S 2 s = 1) = hb cl s := (hG.1 s hs).symm
  rw [ec] at h0 h1
  refine e_hasX (by omega) (fun hc => zi ?_) (fun hc => io (h0 (by rw [hc]; simp)))
  rw [hc] at h0 h1
  refine e_cutX hD.2.2.2.2.1 (by omega) (hG.2.2.2.2.1 a (by omega)) (fun q1 => zi ?_) (fun q1 => io (h0 (by rw [q1]; simp)))
  rw [q1] at h0 h1
  refine e_cutX hD.2.2.2.2.1 (by omega) (hG.2.2.2.2.1 y (by omega)) (fun q2 => iz ?_) (fun q2 => oi (h0 (by rw [q2]; simp)))
  rw [q2] at h0 h1
  have ei : (nI a * 9) + nI y = nI (9 * a + y) := by rw [jx9, Nat.mul_comm]
  rw [ei]
  refine ⟨vp_in_nI (by omega) (by omega), fun v2 e2 => ?_⟩
  rw [nI_clamp (by omega), hD.2.2.2.2.2.2.2.1 (9 * a + y) (by omega), show 51 + (9 * a + y) = 51 + 9 * a + y by omega] at e2
  subst e2
  refine ⟨fun hz => fun v3 e3 => ⟨hin, fun hu1 e4 => ?_⟩, fun hz => h0 (by rw [decide_eq_true hz]; rfl)⟩
  rw [decide_eq_false hz] at h1
  rw [nI_clamp (by omega)] at e4
  rw [e3, hG.2.2.2.2.2.2.1]
  refine h1 rfl hu1 (fun j hj hlj => ?_)
  rw [e4]
  by_cases e : j = s
  · rw [e, up_s, up_s]
  · rw [up_n e, up_n e]; exact hG.2.1 j hj hlj
theorem e_actX {K s x : Int32} {post : Int32 → Int32 → Int32 → Int32 → Int32 → (Nat → Int32) → (Nat → Int32) → (Nat → Int32) → (Nat → Int32) → Prop} (hR : RNG td) (hN : NOK td S) (hG : XG td S mi av be cl hu kn lv sn) (hD : LX td huts singers dams echoes deep heights ladders minutes echoFrom echoTo talls) (hK : iv 0 5 K)
    (hp : ∀ mi' av' be' cl' hu' kn' lv' sn', XG td (actS td K s x S).2 mi' av' be' cl' hu' kn' lv' sn' → post (bI (actS td K s x S).1) mi' av' be' cl' hu' kn' lv' sn') : q_wn_X3_act_6_0 mi av be cl hu kn lv sn huts singers dams echoes deep heights ladders minutes echoFrom echoTo talls K s x post := by
  have h1 : iv 0 6 (td 1) := hR 1 (by omega)
  unfold actS act at hp
  refine e_hsX (fun hn => zi ?_) (fun hy => io ?_)
  · rw [hD.2.1] at hn
    rw [if_pos hn] at hp
    exact hp mi av be cl hu kn lv sn hG
  rw [hD.2.1] at hy
  rw [if_neg (fun h9 => h9 hy)] at hp
  obtain ⟨s', hs', rfl⟩ := lt_nI (m := 6) h1 hy
  rw [cN_nI (by omega)] at hp
  have hl : nI s' < td 1 := hy.2
  have hin : vp_in (nI s') 6 := vp_in_nI hs' (by omega)
  refine ⟨fun hr => ?_, fun h3 => ?_, fun h4 => ?_, fun h5 => ?_⟩
  · have hK3 : K = 0 ∨ K = 1 ∨ K = 2 := by
      have := hK.1
      have := hK.2
      have e0 : (0 : Int32).toInt = 0 := rfl
      have e1 : (1 : Int32).toInt = 1 := rfl
      have e2 : (2 : Int32).toInt = 2 := rfl
      have hc : K.toInt = 0 ∨ K.toInt = 1 ∨ K.toInt = 2 := by omega
      rcases hc with h | h | h
      · exact Or.inl (Int32.toInt_inj.mp (h.trans e0.symm))
      · exact Or.inr (Or.inl (Int32.toInt_inj.mp (h.trans e1.symm)))
      · exact Or.inr (Or.inr (Int32.toInt_inj.mp (h.trans e2.symm)))
    refine e_raiseX hR hN hG hD hs' hl hK3 rfl (fun hf => ⟨rfl, ?_⟩) (fun t ht ex hm w ew kn' lv' sn' ekn elv esn => ⟨rfl, ?_⟩)
    · rcases hK3 with rfl | rfl | rfl
      · rw [if_pos rfl, if_neg (by rw [show mayR td (S 0) (S 1) (S 5 0) s' x false = false from hf]; decide)] at hp
        exact hp mi av be cl hu kn lv sn hG
      · rw [if_neg (by decide), if_pos (Or.inl rfl), if_neg (by rw [show mayR td (S 0) (S 1) (S 5 0) s' x true = false from hf]; decide)] at hp
        exact hp mi av be cl hu kn lv sn hG
      · rw [if_neg (by decide), if_pos (Or.inr rfl), if_neg (by rw [show mayR td (S 0) (S 1) (S 5 0) s' x true = false from hf]; decide)] at hp
        exact hp mi av be cl hu kn lv sn hG
    · subst ex
      rw [cN_nI (by omega)] at hp
      rcases hK3 with rfl | rfl | rfl
      · rw [if_pos rfl, if_pos (show mayR td (S 0) (S 1) (S 5 0) s' (nI t) false = true from hm)] at hp
        have ew' : w = false := ew
        subst ew'
        refine hp mi _ _ cl hu kn' lv' sn' ⟨hG.1, hG.2.1, ekn, elv, fun j hj => ?_, rfl, hG.2.2.2.2.2.2.1, ?_⟩
        · rw [esn j hj]
          show upd (S 3) _ (S 3 _ + 0) j = S 3 j
          rw [Int32.add_zero]
          by_cases e : j = cN (S 0 s')
          · rw [e, up_s]
          · rw [up_n e]
        · show S 5 2 + 0 = S 5 2
          rw [Int32.add_zero]
      · rw [if_neg (by decide), if_pos (Or.inl rfl), if_pos (show mayR td (S 0) (S 1) (S 5 0) s' (nI t) true = true from hm)] at hp
        have ew' : w = wrongR td (S 0) (S 2) (S 4) s' t (decide ((1 : Int32) = 2)) := ew
        subst ew'
        exact hp mi _ _ cl hu kn' lv' sn' ⟨hG.1, hG.2.1, ekn, elv, esn, rfl, hG.2.2.2.2.2.2.1, rfl⟩
      · rw [if_neg (by decide), if_pos (Or.inr rfl), if_pos (show mayR td (S 0) (S 1) (S 5 0) s' (nI t) true = true from hm)] at hp
        have ew' : w = wrongR td (S 0) (S 2) (S 4) s' t (decide ((2 : Int32) = 2)) := ew
        subst ew'
        exact hp mi _ _ cl hu kn' lv' sn' ⟨hG.1, hG.2.1, ekn, elv, esn, rfl, hG.2.2.2.2.2.2.1, rfl⟩
  · subst h3
    rw [if_neg (by decide), if_neg (by decide), if_pos rfl] at hp
    refine e_walkX hR hN hG hD hs' hl (fun hf => ⟨rfl, ?_⟩) (fun ht hu' ehu => ⟨rfl, ?_⟩)
    · rw [if_neg (by rw [hf]; decide)] at hp
      exact hp mi av be cl hu kn lv sn hG
    · rw [if_pos ht] at hp
      exact hp _ av be cl hu' kn lv sn ⟨hG.1, ehu, hG.2.2.1, hG.2.2.2.1, hG.2.2.2.2.1, hG.2.2.2.2.2.1, rfl, hG.2.2.2.2.2.2.2⟩
  · subst h4
    rw [if_neg (by decide), if_neg (by decide), if_neg (by decide), if_pos rfl] at hp
    obtain ⟨a, ea, -, ha8, -⟩ := iv_nI (hN.1 s' hs') (by decide)
    rw [ea, cN_nI (by omega)] at hp
    refine e_hasX (by omega) (fun hc => zi ⟨hin, ?_⟩) (fun hc => io ⟨rfl, ?_⟩)
    · rw [nI_clamp (by omega), hG.2.1 s' hs' hl, ea]
      refine ⟨vp_in_nI (by omega) (by omega), ?_⟩
      rw [nI_clamp (by omega), hD.2.2.2.2.2.2.1 a (by omega)]
      rw [hG.1 s' hs'] at hc
      have hc1 := of_decide_eq_false hc
      refine ⟨fun hz v ev => ⟨rfl, ?_⟩, fun hz => ⟨rfl, ?_⟩⟩
      · rw [if_pos ⟨hz, hc1⟩] at hp
        refine hp mi av be v hu kn lv sn ⟨fun j hj => ?_, hG.2⟩
        show hb v j = decide (upd (S 2) s' 1 j = 1)
        rw [ev, hb_or, hb_bit (by omega) (by omega), hG.1 j hj]
        by_cases e : j = s'
        · subst e; rw [up_s, decide_eq_true (rfl : j = j), Bool.or_true]; rfl
        · rw [up_n e, de_ne e, Bool.or_false]
      · rw [if_neg (fun h9 => h9.1 hz)] at hp
        exact hp mi av be cl hu kn lv sn hG
    · rw [hG.1 s' hs'] at hc
      rw [if_neg (fun h9 => h9.2 (of_decide_eq_true hc))] at hp
      exact hp mi av be cl hu kn lv sn hG
  · subst h5
    rw [if_neg (by decide), if_neg (by decide), if_neg (by decide), if_neg (by decide)] at hp
    have hz2 : S 2 s' = 0 ↔ hb cl s' = false := by
      rw [hG.1 s' hs']
      rcases hN.2.2.1 s' hs' with h | h
      · rw [h]; decide
      · rw [h]; decide
    refine e_hasX (by omega) (fun hc => zi ⟨rfl, ?_⟩) (fun hc => io (fun v ev => ⟨rfl, ?_⟩))
    · rw [if_neg (fun h9 => h9 (hz2.mpr hc))] at hp
      exact hp mi av be cl hu kn lv sn hG
    · rw [if_pos (fun h9 => by rw [hz2.mp h9] at hc; exact absurd hc (by decide))] at hp
      refine hp mi av be v hu kn lv sn ⟨fun j hj => ?_, hG.2⟩
      show hb v j = decide (upd (S 2) s' 0 j = 1)
      rw [ev, hb_and, hb_not _ (by omega), hb_bit (by omega) (by omega), hG.1 j hj]
      by_cases e : j = s'
      · subst e; rw [up_s, decide_eq_true (rfl : j = j), Bool.not_true, Bool.and_false]; rfl
      · rw [up_n e, de_ne e, Bool.not_false, Bool.and_true]
theorem e_startX {homes known : Nat → Int32} {post : Int32 → Int32 → Int32 → Int32 → (Nat → Int32) → (Nat → Int32) → (Nat → Int32) → (Nat → Int32) → Prop} (hh : ∀ j : Nat, j < 6 → nI j < td 1 → homes j = td (25 + j)) (hk : ∀ j, j < 6 → known j = td (37 + j)) (hp : ∀ hu' kn' lv' sn', XG td (S0 td) 0 0 0 0 hu' kn' lv' sn' → post 0 0 0 0 hu' kn' lv' sn') : q_wn_X3_start_6_0 mi av be cl hu kn lv sn homes known post := by
  intro hu1 e1 kn1 e2
  have c1 : ∀ j, j < 6 → hu1 j = homes j := cpy0 e1 rfl
  have c2 : ∀ j, j < 6 → kn1 j = known j := cpy0 e2 rfl
  intro P hP
  have loop : ∀ m i (lv1 : Nat → Int32), m = 5 - i → i ≤ 5 → (∀ j, j < i → lv1 j = -1) → P (nI i) lv1 := by
    intro m
    induction m using Nat.strongRecOn with
    | ind m ih =>
      intro i lv1 hm hi hI
      apply hP
      refine pk_le 5 i (fun h5 => ?_) (fun h5 => ⟨vp_in_nI h5 (by omega), fun lv2 e3 v e4 => ?_⟩)
      · intro P2 hP2
        have loop2 : ∀ m i (sn1 : Nat → Int32), m = 9 - i → i ≤ 9 → (∀ j, j < i → sn1 j = 0) → P2 (nI i) sn1 := by
          intro m
          induction m using Nat.strongRecOn with
          | ind m ih2 =>
            intro i sn1 hm hi hS
            apply hP2
            refine pk_le 9 i (fun h9 => ?_) (fun h9 => ⟨vp_in_nI h9 (by omega), fun sn2 e1 v e2 => ?_⟩)
            · refine hp hu1 kn1 lv1 sn1 ⟨fun j hj => by rw [hb_0]; rfl, fun j hj hl => (c1 j hj).trans (hh j hj hl), fun j hj => (c2 j hj).trans (hk j hj), fun t ht => hI t (by omega), fun j hj => hS j (by omega), rfl, rfl, rfl⟩
            · rw [e2, nI_1]
              refine ih2 (9 - (i + 1)) (by omega) (i + 1) sn2 rfl (by omega) (fun j hj => ?_)
              rw [e1, nI_clamp (by omega)]
              by_cases hji : j = i
              · rw [hji, up_s]
              · rw [up_n hji]; exact hS j (by omega)
        exact loop2 _ 0 sn rfl (by omega) (fun j hj => absurd hj (by omega))
      · rw [e4, nI_1]
        refine ih (5 - (i + 1)) (by omega) (i + 1) lv2 rfl (by omega) (fun j hj => ?_)
        rw [e3, nI_clamp (by omega)]
        by_cases hji : j = i
        · rw [hji, up_s]
        · rw [up_n hji]; exact hI j (by omega)
  exact loop _ 0 lv rfl (by omega) (fun j hj => absurd hj (by omega))
theorem e_playX {ev : Nat → Int32} {villages slide : Int32} {homes known : Nat → Int32} {deeds : Int32} {kinds firsts seconds : Nat → Int32} {n : Nat} {post : Int32 → Int32 → Int32 → Int32 → Int32 → (Nat → Int32) → (Nat → Int32) → (Nat → Int32) → (Nat → Int32) → Prop} (hR : RNG td) (hO : LOK td) (hD : LDR huts singers villages dams echoes deep slide heights ladders minutes echoFrom echoTo homes talls known td) (hE : R3 deeds kinds firsts seconds ev) (hEi : iv 0 40 (ev 0)) (hEk : ∀ j, j < 40 → iv 0 5 (ev (1 + 3 * j))) {x : Int32} (hx : x = nI n) (hn : nI n ≤ deeds) (hn40 : n ≤ 40)
    (hp : ∀ mi' av' be' cl' hu' kn' lv' sn', XG td (plays td ev n 0 (S0 td)).2 mi' av' be' cl' hu' kn' lv' sn' → post (nI (plays td ev n 0 (S0 td)).1) mi' av' be' cl' hu' kn' lv' sn') : q_wn_X3_play_6_15_0 mi av be cl hu kn lv sn huts singers dams echoes deep heights ladders minutes echoFrom echoTo homes talls known deeds kinds firsts seconds x post := by
  subst hx
  have hX := LX_of hR hD
  obtain ⟨c, hc, -, hc40, -⟩ := iv_nI hEi (by decide)
  have hdc : deeds = nI c := hE.1.trans hc
  have hnc : n ≤ c := by rw [hdc] at hn; exact (nI_leI (by omega) (by omega)).mp hn
  have b1 : iv 0 (6 : Nat) (td 1) := hR 1 (by omega)
  refine e_startX (fun j hj hl => (hD.2.2.2.2.2.2.2.2.2.2.2.1 j (lt_cln b1 (by omega) hl (by omega))).1) hD.2.2.2.2.2.2.2.2.2.2.2.2 (fun hu1 kn1 lv1 sn1 hG1 => ?_)
  intro P hP
  have loop : ∀ m j (S : Nat → Nat → Int32) mi av be cl hu kn lv sn, m = n - j → j ≤ n → NOK td S → XG td S mi av be cl hu kn lv sn → (∀ mi' av' be' cl' hu' kn' lv' sn', XG td (plays td ev m j S).2 mi' av' be' cl' hu' kn' lv' sn' → post (nI (plays td ev m j S).1) mi' av' be' cl' hu' kn' lv' sn') → P (nI j) mi av be cl hu kn lv sn := by
    intro m
    induction m with
    | zero =>
      intro j S mi av be cl hu kn lv sn hm hj hN hG hq
      apply hP
      have e1 : j = n := by omega
      subst e1
      exact pk_le j j (fun _ => hq _ _ _ _ _ _ _ _ hG) (fun h9 => absurd h9 (by omega))
    | succ m ih =>
      intro j S mi av be cl hu kn lv sn hm hj hN hG hq
      apply hP
      refine pk_le n j (fun h9 => absurd h9 (by omega)) (fun h9 => ?_)
      rw [hdc]
      refine pk_le c j (fun h8 => absurd h8 (by omega)) (fun h8 => ?_)
      have hin : vp_in (nI j) 40 := vp_in_nI (by omega) (by omega)
      refine ⟨hin, hin, hin, ?_⟩
      obtain ⟨k1, k2, k3⟩ := hE.2 j (by rw [hc, nI_clamp (by omega)]; omega)
      rw [nI_clamp (by omega), k1, k2, k3]
      unfold plays at hq
      refine e_actX hR hN hG hX (hEk j (by omega)) (fun mi' av' be' cl' hu' kn' lv' sn' hG' => ?_)
      have ok := act_ok (k := ev (1 + 3 * j)) (s := ev (2 + 3 * j)) (x := ev (3 + 3 * j)) hR hN
      by_cases hb1 : (actS td (ev (1 + 3 * j)) (ev (2 + 3 * j)) (ev (3 + 3 * j)) S).1 = true
      · rw [hb1]
        rw [if_pos hb1] at hq
        refine ⟨fun _ v ev2 => ?_, fun h7 => absurd h7 (by decide)⟩
        rw [ev2, nI_1]
        exact ih (j + 1) _ _ _ _ _ _ _ _ _ (by omega) (by omega) ok hG' hq
      · rw [Bool.not_eq_true] at hb1
        rw [hb1]
        rw [if_neg (by rw [hb1]; decide)] at hq
        exact ⟨fun h7 => absurd rfl h7, fun _ => hq _ _ _ _ _ _ _ _ hG'⟩
  exact loop n 0 (S0 td) _ _ _ _ _ _ _ _ (by omega) (by omega) (S0_ok hR hO) hG1 hp
end
end
section
theorem bit32_tab' : ((List.range 31).all fun i => (List.range 32).all fun k => hb (bitI i) k == decide (i = k)) = true := by decide +kernel
theorem hb_b32' {i k : Nat} (hi : i < 31) (hk : k < 32) : hb (bitI i) k = decide (i = k) := by
  have h := List.all_eq_true.mp (List.all_eq_true.mp bit32_tab' i (List.mem_range.mpr hi)) k (List.mem_range.mpr hk)
  exact eq_of_beq h
theorem lt_le3 {x y z : Int32} (h : x ≤ y) (h2 : y < z) : x < z := by
  rw [Int32.lt_iff_toInt_lt]
  have := r_le h
  have := r_lt h2
  omega
theorem le_tr {x y z : Int32} (h : x ≤ y) (h2 : y ≤ z) : x ≤ z := by
  rw [Int32.le_iff_toInt_le]
  have := r_le h
  have := r_le h2
  omega
theorem le_rf (x : Int32) : x ≤ x := by rw [Int32.le_iff_toInt_le]; omega
theorem gr_l (a b : Int32) : a ≤ gr a b := by
  unfold gr
  split
  · exact le_rf a
  · next h => rw [Int32.le_iff_toInt_le]; exact r_nlt h
theorem gr_r (a b : Int32) : b ≤ gr a b := by
  unfold gr
  split
  · next h => rw [Int32.le_iff_toInt_le]; have := r_lt h; omega
  · exact le_rf b
theorem lH_ge (w : Nat) (a b fh : Int32) : fh ≤ lH w a b fh := by
  unfold lH
  split
  · exact le_tr (gr_l fh a) (gr_l _ b)
  · split
    · exact gr_l fh a
    · exact le_rf fh
/-- huts told of so far are not beyond fh -/
def GO (td : Nat → Int32) (fh : Int32) : Prop := CB 0 td ∧ (∀ s : Nat, s < 6 → nI s < td 1 → td (25 + s) ≤ fh) ∧ (∀ k : Nat, k < 4 → nI k < td 4 → td (43 + 2 * k) ≤ fh ∧ td (44 + 2 * k) ≤ fh) ∧ ∀ h : Nat, h < 32 → hb (td 2) h = true → nI h ≤ fh
theorem GO_of {t td : Nat → Int32} {fh fh' : Int32} (h : GO td fh) (hC : CB 0 t) (h1 : t 1 = td 1) (h4 : t 4 = td 4) (hs : ∀ j, 25 ≤ j → j ≤ 30 → t j = td j) (hk : ∀ j, 43 ≤ j → j ≤ 50 → t j = td j) (hf : fh ≤ fh') (hv : ∀ h : Nat, h < 32 → hb (t 2) h = true → nI h ≤ fh') : GO t fh' := by
  refine ⟨hC, fun s hs6 hl => ?_, fun k hk4 hl => ?_, hv⟩
  · rw [h1] at hl
    rw [hs _ (by omega) (by omega)]
    exact le_tr (h.2.1 s hs6 hl) hf
  · rw [h4] at hl
    rw [hk _ (by omega) (by omega), hk _ (by omega) (by omega)]
    exact ⟨le_tr (h.2.2.1 k hk4 hl).1 hf, le_tr (h.2.2.1 k hk4 hl).2 hf⟩
theorem GO_ln {B : Nat → Int32} {n r w : Nat} {td : Nat → Int32} {fh : Int32} (hw : w < 10) (h : GO td fh) : GO (lD w (gd B n r w (nW w)) (tV B n (ps B n r 1)) (tV B n (ps B n r 2)) (tV B n (ps B n r 3)) td) (lH w (tV B n (ps B n r 1)) (tV B n (ps B n r 2)) fh) := by
  have hC : CB 0 (lD w (gd B n r w (nW w)) (tV B n (ps B n r 1)) (tV B n (ps B n r 2)) (tV B n (ps B n r 3)) td) := CB_ln (by omega) ⟨Nat.zero_le _, hw⟩ h.1
  have hf := lH_ge w (tV B n (ps B n r 1)) (tV B n (ps B n r 2)) fh
  have vv : ∀ {t : Nat → Int32} {fh' : Int32}, fh ≤ fh' → t 2 = td 2 → ∀ h : Nat, h < 32 → hb (t 2) h = true → nI h ≤ fh' := by
    intro t fh' hf e x hx hb1
    rw [e] at hb1
    exact le_tr (h.2.2.2 x hx hb1) hf
  have c0 : iv 0 (9 : Nat) (td 0) := h.1.1
  have c1 : iv 0 (6 : Nat) (td 1) := (h.1.2 rfl).1
  have c4 : iv 0 (4 : Nat) (td 4) := (h.1.2 rfl).2
  obtain ⟨n0, e0, -, hn0, -⟩ := iv_nI c0 (by decide)
  obtain ⟨n1, e1, -, hn1, -⟩ := iv_nI c1 (by decide)
  obtain ⟨n4, e4, -, hn4, -⟩ := iv_nI c4 (by decide)
  have hg : gd B n r w (nW w) = true → ∀ k, k < nW w → cW w k (tV B n (ps B n r 1)) (tV B n (ps B n r (k + 1))) = true := fun hg k hk => gd_c _ hg k hk
  generalize eg : gd B n r w (nW w) = g at hC hg ⊢
  generalize ea : tV B n (ps B n r 1) = a at hC hf hg ⊢
  have hg0 : g = true → cW w 0 a a = true := fun hh => by
    have h9 := hg hh 0 (by have := (nW_tb w (by omega)).2.1; omega)
    rw [show 0 + 1 = 1 from rfl, ea] at h9
    exact h9
  have hg1 : g = true → w = 5 → cW w 1 a (tV B n (ps B n r 2)) = true := fun hh h5 => by
    have h9 := hg hh 1 (by rw [h5]; decide)
    exact h9
  generalize eb : tV B n (ps B n r 2) = b at hC hf hg1 ⊢
  generalize ec : tV B n (ps B n r 3) = c at hC ⊢
  clear hg eg ea eb ec
  have hc : w = 0 ∨ w = 1 ∨ w = 2 ∨ w = 3 ∨ w = 4 ∨ w = 5 ∨ w = 6 ∨ w = 7 ∨ w = 8 ∨ w = 9 := by omega
  rcases hc with rfl | rfl | rfl | rfl | rfl | rfl | rfl | rfl | rfl | rfl
  · have e : ∀ j, ¬ j = 0 → ¬ (7 ≤ j ∧ j ≤ 15) → lD 0 g a b c td j = td j := by
      intro j hj hj2
      show (if td 0 = 9 then td else upd (upd td 0 (td 0 + 1)) (Int32.toNatClampNeg (7 + td 0)) a) j = td j
      split
      · rfl
      · next h9 =>
        have : ¬ n0 = 9 := fun e => h9 (by rw [e0, e]; rfl)
        rw [e0, show (7 : Int32) + nI n0 = nI (7 + n0) from jx 7 n0, nI_clamp (by omega), up_n (by omega), up_n hj]
    exact GO_of h hC (e 1 (by omega) (by omega)) (e 4 (by omega) (by omega)) (fun j _ _ => e j (by omega) (by omega)) (fun j _ _ => e j (by omega) (by omega)) hf (vv hf (e 2 (by omega) (by omega)))
  · have e : ∀ j, ¬ j = 2 → lD 1 g a b c td j = td j := fun j hj => up_n hj
    refine GO_of h hC (e 1 (by omega)) (e 4 (by omega)) (fun j _ _ => e j (by omega)) (fun j _ _ => e j (by omega)) hf (fun x hx hbx => ?_)
    have e2 : lD 1 g a b c td 2 = td 2 ||| (if g = true then 1 <<< (a &&& 31) else 0) := by
      show upd td 2 (td 2 ||| (if g = true then 1 <<< (a &&& 31) else 0)) 2 = _
      rw [up_s]
    rw [e2, hb_or, Bool.or_eq_true] at hbx
    rcases hbx with hbx | hbx
    · exact le_tr (h.2.2.2 x hx hbx) hf
    · by_cases hh : g = true
      · rw [if_pos hh] at hbx
        obtain ⟨p, rfl, -, hp, -⟩ := iv_nI (iv_hut (hg0 hh) (by decide +kernel)) (by decide)
        have e3 : hb (bitI p) x = true := hbx
        rw [hb_b32' (by omega) hx] at e3
        rw [← of_decide_eq_true e3]
        exact gr_r fh (nI p)
      · rw [if_neg hh, hb_0] at hbx
        exact absurd hbx (by decide)
  · have e : ∀ j, ¬ j = 3 → lD 2 g a b c td j = td j := fun j hj => up_n hj
    exact GO_of h hC (e 1 (by omega)) (e 4 (by omega)) (fun j _ _ => e j (by omega)) (fun j _ _ => e j (by omega)) hf (vv hf (e 2 (by omega)))
  · have e : ∀ j, ¬ j = 5 → lD 3 g a b c td j = td j := fun j hj => up_n hj
    exact GO_of h hC (e 1 (by omega)) (e 4 (by omega)) (fun j _ _ => e j (by omega)) (fun j _ _ => e j (by omega)) hf (vv hf (e 2 (by omega)))
  · have e : ∀ j, ¬ j = 6 → lD 4 g a b c td j = td j := fun j hj => up_n hj
    exact GO_of h hC (e 1 (by omega)) (e 4 (by omega)) (fun j _ _ => e j (by omega)) (fun j _ _ => e j (by omega)) hf (vv hf (e 2 (by omega)))
  · have e : ∀ j, j ≤ 50 → lD 5 g a b c td j = td j := by
      intro j hj
      show (if g = true then upd (upd td (Int32.toNatClampNeg ((51 + 9 * a) + b)) c) (Int32.toNatClampNeg ((51 + 9 * b) + a)) c else td) j = td j
      split
      · next hh =>
        obtain ⟨p, rfl, -, hp, -⟩ := iv_nI (iv_hut (hg0 hh) (by decide +kernel)) (by decide)
        obtain ⟨q, rfl, -, hq, -⟩ := iv_nI (iv_hut (hg1 hh rfl) (by decide +kernel)) (by decide)
        rw [ix9, ix9, nI_clamp (by omega), nI_clamp (by omega), up_n (by omega), up_n (by omega)]
      · rfl
    exact GO_of h hC (e 1 (by omega)) (e 4 (by omega)) (fun j _ _ => e j (by omega)) (fun j _ _ => e j (by omega)) hf (vv hf (e 2 (by omega)))
  · have hl1 : a ≤ lH 6 a b fh := le_tr (gr_r fh a) (gr_l _ b)
    have hl2 : b ≤ lH 6 a b fh := gr_r _ b
    have ev : lD 6 g a b c td = (if td 4 = 4 then td else upd (upd (upd td 4 (td 4 + 1)) (Int32.toNatClampNeg (43 + 2 * td 4)) a) (Int32.toNatClampNeg (43 + 2 * td 4 + 1)) b) := rfl
    by_cases h9 : td 4 = 4
    · rw [if_pos h9] at ev
      rw [ev] at hC ⊢
      exact GO_of h hC rfl rfl (fun _ _ _ => rfl) (fun _ _ _ => rfl) hf (vv hf rfl)
    · rw [if_neg h9] at ev
      have hn : ¬ n4 = 4 := fun e => h9 (by rw [e4, e]; rfl)
      have hi : (43 : Int32) + 2 * nI n4 = nI (43 + 2 * n4) := by rw [show (43 : Int32) = nI 43 from rfl, show (2 : Int32) = nI 2 from rfl, pk_mul, nI_add]
      rw [e4, hi, nI_1 n4, nI_1 (43 + 2 * n4), nI_clamp (by omega), nI_clamp (by omega)] at ev
      rw [ev] at hC ⊢
      refine ⟨hC, fun s hs6 hl => ?_, fun k hk4 hl => ?_, vv hf (by rw [up_n (by omega), up_n (by omega), up_n (by omega)])⟩
      · rw [up_n (by omega), up_n (by omega), up_n (by omega)] at hl ⊢
        exact le_tr (h.2.1 s hs6 hl) hf
      · rw [up_n (by omega), up_n (by omega), up_s] at hl
        by_cases hkn : k = n4
        · subst hkn
          rw [up_n (by omega), up_s, show 44 + 2 * k = 43 + 2 * k + 1 by omega, up_s]
          exact ⟨hl1, hl2⟩
        · have hlt : nI k < td 4 := by
            rw [e4]
            have := (nI_ltI (by omega) (by omega)).mp hl
            exact nI_lt (by omega) (by omega)
          rw [up_n (by omega), up_n (by omega), up_n (by omega), up_n (by omega), up_n (by omega), up_n (by omega)]
          exact ⟨le_tr (h.2.2.1 k hk4 hlt).1 hf, le_tr (h.2.2.1 k hk4 hlt).2 hf⟩
  · have e : ∀ j, ¬ (16 ≤ j ∧ j ≤ 24) → lD 7 g a b c td j = td j := by
      intro j hj
      show (if g = true then upd td (Int32.toNatClampNeg (16 + a)) b else td) j = td j
      split
      · next hh =>
        obtain ⟨p, rfl, -, hp, -⟩ := iv_nI (iv_hut (hg0 hh) (by decide +kernel)) (by decide)
        rw [show (16 : Int32) + nI p = nI (16 + p) from jx 16 p, nI_clamp (by omega), up_n (by omega)]
      · rfl
    exact GO_of h hC (e 1 (by omega)) (e 4 (by omega)) (fun j _ _ => e j (by omega)) (fun j _ _ => e j (by omega)) hf (vv hf (e 2 (by omega)))
  · have hl1 : a ≤ lH 8 a b fh := gr_r fh a
    have ev : lD 8 g a b c td = (if td 1 = 6 then td else upd (upd (upd td 1 (td 1 + 1)) (Int32.toNatClampNeg (25 + td 1)) a) (Int32.toNatClampNeg (31 + td 1)) b) := rfl
    by_cases h9 : td 1 = 6
    · rw [if_pos h9] at ev
      rw [ev] at hC ⊢
      exact GO_of h hC rfl rfl (fun _ _ _ => rfl) (fun _ _ _ => rfl) hf (vv hf rfl)
    · rw [if_neg h9] at ev
      have hn : ¬ n1 = 6 := fun e => h9 (by rw [e1, e]; rfl)
      rw [e1, show (25 : Int32) + nI n1 = nI (25 + n1) from jx 25 n1, show (31 : Int32) + nI n1 = nI (31 + n1) from jx 31 n1, nI_1 n1, nI_clamp (by omega), nI_clamp (by omega)] at ev
      rw [ev] at hC ⊢
      refine ⟨hC, fun s hs6 hl => ?_, fun k hk4 hl => ?_, vv hf (by rw [up_n (by omega), up_n (by omega), up_n (by omega)])⟩
      · rw [up_n (by omega), up_n (by omega), up_s] at hl
        by_cases hsn : s = n1
        · subst hsn
          rw [up_n (by omega), up_s]
          exact hl1
        · have hlt : nI s < td 1 := by
            rw [e1]
            have := (nI_ltI (by omega) (by omega)).mp hl
            exact nI_lt (by omega) (by omega)
          rw [up_n (by omega), up_n (by omega), up_n (by omega)]
          exact le_tr (h.2.1 s hs6 hlt) hf
      · rw [up_n (by omega), up_n (by omega), up_n (by omega)] at hl
        rw [up_n (by omega), up_n (by omega), up_n (by omega), up_n (by omega), up_n (by omega), up_n (by omega)]
        exact ⟨le_tr (h.2.2.1 k hk4 hl).1 hf, le_tr (h.2.2.1 k hk4 hl).2 hf⟩
  · have e : ∀ j, ¬ (37 ≤ j ∧ j ≤ 42) → lD 9 g a b c td j = td j := by
      intro j hj
      show (if g = true then upd td (Int32.toNatClampNeg (37 + a)) (td (Int32.toNatClampNeg (37 + a)) ||| 1 <<< (b &&& 31)) else td) j = td j
      split
      · next hh =>
        have h5 : iv 0 5 a := iv_w (cW_iv (hg0 hh)) (by decide +kernel)
        obtain ⟨p, rfl, -, hp, -⟩ := iv_nI h5 (by decide)
        rw [show (37 : Int32) + nI p = nI (37 + p) from jx 37 p, nI_clamp (by omega), up_n (by omega)]
      · rfl
    exact GO_of h hC (e 1 (by omega)) (e 4 (by omega)) (fun j _ _ => e j (by omega)) (fun j _ _ => e j (by omega)) hf (vv hf (e 2 (by omega)))
theorem go_LO {B : Nat → Int32} {n : Nat} : ∀ m r fa pl td fh fs, r ≤ n → n < m + r → GO td fh → (go B n 0 m r fa pl td fh fs).1 = 0 → LOK (go B n 0 m r fa pl td fh fs).2.2 := by
  intro m
  induction m with
  | zero => intro r fa pl td fh fs hr hm; omega
  | succ m ih =>
    intro r fa pl td fh fs hr hm hG h0
    unfold go at h0 ⊢
    by_cases hk : tK B n r = 0
    · rw [if_pos hk] at h0 ⊢
      unfold fin4 at h0 ⊢
      by_cases h4 : fa = 0 ∧ 0 = 0 ∧ (td 0 ≤ fh ∨ td 1 ≤ fs)
      · rw [if_pos h4] at h0
        exact absurd (show (4 : Int32) = 0 from h0) (by decide)
      · rw [if_neg h4] at h0 ⊢
        have hlt : fh < td 0 := by
          rw [← Int32.not_le]
          intro h9
          exact h4 ⟨h0, rfl, Or.inl h9⟩
        exact ⟨fun s hs hl => lt_le3 (hG.2.1 s hs hl) hlt, fun k hk4 hl => ⟨lt_le3 (hG.2.2.1 k hk4 hl).1 hlt, lt_le3 (hG.2.2.1 k hk4 hl).2 hlt⟩, fun x hx hbx => lt_le3 (hG.2.2.2 x hx hbx) hlt⟩
    · rw [if_neg hk] at h0 ⊢
      by_cases h9 : lb B n r 0 = 9
      · rw [if_pos h9] at h0 ⊢
        have hw : wOf B n r 0 < 10 := by
          rcases wd_cases (B := B) (n := n) (r := r) (o := 0) (by omega) with ⟨e, _⟩ | ⟨_, hP⟩
          · unfold lb at h9
            rw [if_pos e] at h9
            omega
          · exact hP.2.1
        have hp1 := (ps_le (B := B) hr (nW (wOf B n r 0) + 2)).2
        have hp2 := ps_lt (B := B) hr hk (nW (wOf B n r 0) + 1)
        have hp3 : r + 1 ≤ ps B n r (nW (wOf B n r 0) + 2) := hp2
        exact ih _ _ _ _ _ _ hp1 (by omega) (GO_ln hw hG) h0
      · rw [if_neg h9] at h0
        exact absurd (show (1 : Int32) = 0 from h0) (by decide)
theorem tx_LO {B : Nat → Int32} {n : Nat} (h : (tx B n 0).1 = 0) : LOK (tx B n 0).2.2 := by
  unfold tx at h ⊢
  refine go_LO _ _ _ _ _ _ _ (Nat.zero_le _) (by omega) ⟨CB_ini (by omega) (fun _ _ => rfl), fun s hs hl => ?_, fun k hk hl => ?_, fun x _ hbx => by rw [show ini 0 2 = 0 from rfl, hb_0] at hbx; exact absurd hbx (by decide)⟩ h
  · exact absurd hl (nI_pos (by omega))
  · exact absurd hl (nI_pos (by omega))
theorem LOK_ext {td td' : Nat → Int32} (h : LOK td) (e : ∀ j, j < 132 → td' j = td j) : LOK td' := by
  refine ⟨fun s hs hl => ?_, fun k hk hl => ?_, fun x hx hbx => by rw [e 0 (by omega)]; rw [e 2 (by omega)] at hbx; exact h.2.2 x hx hbx⟩
  · rw [e 1 (by omega)] at hl
    rw [e _ (by omega), e 0 (by omega)]
    exact h.1 s hs hl
  · rw [e 4 (by omega)] at hl
    rw [e (43 + 2 * k) (by omega), e (44 + 2 * k) (by omega), e 0 (by omega)]
    exact h.2.1 k hk hl
/-- the lands of a slot are as told -/
def LKs (M : Nat → Nat → Int32) (s : Nat) : Prop := ∀ k : Nat, k < 2 → nI k < M 4 (4 * s) → LOK (fun j => M 5 (264 * s + 132 * k + j))
def LK (M : Nat → Nat → Int32) : Prop := LKs M 0 ∧ ∀ j, j < 3 → ¬ M 9 j = 0 → LKs M (j + 1)
theorem LKs_mv {M M' : Nat → Nat → Int32} {s s' : Nat} (h : ∀ c, c < 9 → ∀ i, i < wR c → M' c (wR c * s' + i) = M c (wR c * s + i)) (hT : LKs M s) : LKs M' s' := by
  intro k hk hl
  have e4 : M' 4 (4 * s') = M 4 (4 * s) := h 4 (by omega) 0 (by decide)
  rw [e4] at hl
  refine LOK_ext (hT k hk hl) (fun j hj => ?_)
  have g := h 5 (by omega) (132 * k + j) (by show 132 * k + j < 264; omega)
  have w5 : wR 5 = 264 := rfl
  rw [w5] at g
  show M' 5 (264 * s' + 132 * k + j) = M 5 (264 * s + 132 * k + j)
  rw [Nat.add_assoc, Nat.add_assoc]
  exact g
theorem LK_eq {M M' : Nat → Nat → Int32} (h : ∀ i, i < 10 → 2 ≤ i → M' i = M i) (hK : LK M) : LK M' := by
  refine ⟨fun k hk hl => ?_, fun j hj hn k hk hl => ?_⟩
  · rw [h 4 (by omega) (by omega)] at hl
    rw [h 5 (by omega) (by omega)]
    exact hK.1 k hk hl
  · rw [h 9 (by omega) (by omega)] at hn
    rw [h 4 (by omega) (by omega)] at hl
    rw [h 5 (by omega) (by omega)]
    exact hK.2 j hj hn k hk hl
theorem LK_fd {M M' : Nat → Nat → Int32} {a b c d e r : Int32} (h : mFD M M' a b c d e r) (hK : LK M) : LK M' := LK_eq (fun i h1 h2 => h.1.1 i h2 h1) hK
theorem LK_en {M M' : Nat → Nat → Int32} {a r : Int32} (h : mEN M M' a r) (hK : LK M) : LK M' := LK_eq (fun i h1 h2 => h.1.1 i h2 h1) hK
theorem LK_im {M M' : Nat → Nat → Int32} {a r : Int32} (h : mIM M M' a r) (hK : LK M) : LK M' := by
  by_cases hj : imJ a
  · obtain ⟨k, hk, e⟩ := imJ_nI.mp hj
    obtain ⟨_, hc, h1, hs⟩ := h.2 k hk e
    refine ⟨LKs_mv (mCP_out hc (by omega)) hK.1, fun j hj3 hn => ?_⟩
    by_cases hjk : j = k
    · subst hjk
      exact LKs_mv (fun c hc9 i hi => (hc c hc9).1 i hi) hK.1
    · rw [hs j hjk] at hn
      exact LKs_mv (mCP_out hc (by omega)) (hK.2 j hj3 hn)
  · exact LK_eq (fun i h1 _ => (h.1 hj).2 i h1) hK
theorem LK_ag {M M' : Nat → Nat → Int32} {a r : Int32} (h : mAG M M' a r) (hK : LK M) : LK M' := by
  by_cases hx : ∃ k, k < 3 ∧ a = nI k ∧ ¬ M 9 k = 0
  · obtain ⟨k, hk, e, hn⟩ := hx
    obtain ⟨_, hc, h9⟩ := h.2 k hk e hn
    refine ⟨LKs_mv (fun c hc9 i hi => (hc c hc9).1 i hi) (hK.2 k hk hn), fun j hj3 hn2 => ?_⟩
    rw [h9] at hn2
    exact LKs_mv (mCP_out hc (by omega)) (hK.2 j hj3 hn2)
  · exact LK_eq (fun i h1 _ => (h.1 hx).2 i h1) hK
theorem LK_tx {M M' : Nat → Nat → Int32} {a1 a2 r : Int32} (h : mTX M M' a1 a2 r) (hc : ∀ o, o < 4 → iv 0 2 (M 4 o)) (hK : LK M) : LK M' := by
  obtain ⟨m0, m9, ml, ms, mn, my⟩ := h
  have stay : (∀ i, 4 ≤ i → i < 9 → M' i = M i) → LK M' := by
    intro h
    refine ⟨fun k hk hl => ?_, fun j hj hn k hk hl => ?_⟩
    · rw [h 4 (by omega) (by omega)] at hl
      rw [h 5 (by omega) (by omega)]
      exact hK.1 k hk hl
    · rw [m9] at hn
      rw [h 4 (by omega) (by omega)] at hl
      rw [h 5 (by omega) (by omega)]
      exact hK.2 j hj hn k hk hl
  by_cases hx : ∃ o k, o < 4 ∧ k < 2 ∧ a1 = nI o ∧ NUM (M 4 o) a2 k
  · obtain ⟨o, k, ho, hk, e, hN⟩ := hx
    obtain ⟨_, _, hf, hg⟩ := my o k ho hk e hN
    by_cases h0 : (MXr M o).1 = 0
    · obtain ⟨_, e4, ein, eout, eo⟩ := hg h0
      by_cases ho0 : o = 0
      · subst ho0
        have w0 : wD 0 = 132 := rfl
        rw [w0] at ein eout
        refine ⟨fun k' hk' hl => ?_, fun j hj hn k' hk' hl => ?_⟩
        · by_cases hkk : k' = k
          · subst hkk
            refine LOK_ext (tx_LO h0) (fun j hj => ?_)
            have g := ein j hj
            show M' 5 (264 * 0 + 132 * k' + j) = _
            rw [Nat.mul_zero, Nat.zero_add]
            exact g
          · have hlt : nI k' < M 4 (4 * 0) := by
              rw [e4, up_s] at hl
              unfold cmx at hl
              obtain ⟨c, ec, -, hc2, -⟩ := iv_nI (hc 0 (by omega)) (by decide)
              show nI k' < M 4 0
              rw [ec] at hl ⊢
              rcases hN with ⟨_, q⟩ | ⟨_, _, q⟩
              · rw [ec] at q
                have : c = k := (nI_eq (by omega) (by omega)).mp q
                subst this
                rw [nI_1, if_pos (nI_lt (by omega) (by omega))] at hl
                have := (nI_ltI (by omega) (by omega)).mp hl
                exact nI_lt (by omega) (by omega)
              · rw [ec] at q
                have := (nI_ltI (by omega) (by omega)).mp q
                rw [nI_1, if_neg (fun h9 => by have := (nI_ltI (by omega) (by omega)).mp h9; omega)] at hl
                exact hl
            refine LOK_ext (hK.1 k' hk' hlt) (fun j hj => ?_)
            show M' 5 (264 * 0 + 132 * k' + j) = M 5 (264 * 0 + 132 * k' + j)
            exact eout _ (by omega)
        · rw [m9] at hn
          have e44 : M' 4 (4 * (j + 1)) = M 4 (4 * (j + 1)) := by rw [e4, up_n (by omega)]
          rw [e44] at hl
          refine LOK_ext (hK.2 j hj hn k' hk' hl) (fun i hi => ?_)
          show M' 5 (264 * (j + 1) + 132 * k' + i) = M 5 (264 * (j + 1) + 132 * k' + i)
          exact eout _ (by omega)
      · have e5 : M' 5 = M 5 := eo 5 (by omega) (by omega) (by omega)
        refine ⟨fun k' hk' hl => ?_, fun j hj hn k' hk' hl => ?_⟩
        · rw [e4, up_n (by omega)] at hl
          rw [e5]
          exact hK.1 k' hk' hl
        · rw [m9] at hn
          rw [e4, up_n (by omega)] at hl
          rw [e5]
          exact hK.2 j hj hn k' hk' hl
    · exact stay (hf h0).2
  · exact stay (mn hx).2.2.2
/-- land k of the reference's rows is as told -/
theorem LK_row {M : Nat → Nat → Int32} {k : Nat} (hK : LK M) (hk : k < 2) (hl : nI k < M 4 0) : LOK (rowM M 0 (nI k)) := by
  refine LOK_ext (hK.1 k hk hl) (fun j hj => ?_)
  unfold rowM
  rw [nI_clamp (by omega)]
  show M 5 (132 * k + j) = M 5 (264 * 0 + 132 * k + j)
  rw [Nat.mul_zero, Nat.zero_add]
/-- what all calls keep: both sides are told alike, lands as told -/
def RG (T : TT) (M : Nat → Nat → Int32) (I : Nat → TT) (mi : Nat → Option Nat) : Prop := RF T M I mi ∧ LK M
theorem RG_fd {T T' : TT} {M M' : Nat → Nat → Int32} {I : Nat → TT} {mi : Nat → Option Nat} {a b c d e r1 r2 : Int32} (h : RG T M I mi) (hB : tB T) (hI : tBI I mi) (h1 : xFD T T' a b c d e r1) (h2 : mFD M M' a b c d e r2) : r1 = r2 ∧ RG T' M' I mi := ⟨(RF_fd h.1 hB hI h1 h2).1, (RF_fd h.1 hB hI h1 h2).2, LK_fd h2 h.2⟩
theorem RG_en {T T' : TT} {M M' : Nat → Nat → Int32} {I : Nat → TT} {mi : Nat → Option Nat} {a r1 r2 : Int32} (h : RG T M I mi) (hB : tB T) (hI : tBI I mi) (h1 : xEN T T' a r1) (h2 : mEN M M' a r2) : r1 = r2 ∧ RG T' M' I mi := ⟨(RF_en h.1 hB hI h1 h2).1, (RF_en h.1 hB hI h1 h2).2, LK_en h2 h.2⟩
theorem RG_im {T : TT} {M M' : Nat → Nat → Int32} {I I' : Nat → TT} {mi mi' : Nat → Option Nat} {a r1 r2 : Int32} (h : RG T M I mi) (hB : tB T) (hI : tBI I mi) (h1 : xIM mi mi' I I' T a r1) (h2 : mIM M M' a r2) : r1 = r2 ∧ RG T M' I' mi' := ⟨(RF_im h.1 hB hI h1 h2).1, (RF_im h.1 hB hI h1 h2).2, LK_im h2 h.2⟩
theorem RG_ag {T T' : TT} {M M' : Nat → Nat → Int32} {I : Nat → TT} {mi : Nat → Option Nat} {a r1 r2 : Int32} (h : RG T M I mi) (hB : tB T) (hI : tBI I mi) (h1 : xAG mi I T T' a r1) (h2 : mAG M M' a r2) : r1 = r2 ∧ RG T' M' I mi := ⟨(RF_ag h.1 hB hI h1 h2).1, (RF_ag h.1 hB hI h1 h2).2, LK_ag h2 h.2⟩
theorem RG_tx {T T' : TT} {M M' : Nat → Nat → Int32} {I : Nat → TT} {mi : Nat → Option Nat} {a1 a2 r1 r2 : Int32} (h : RG T M I mi) (hB : tB T) (hB' : tB T') (hI : tBI I mi) (h1 : xTX T T' a1 a2 r1) (h2 : mTX M M' a1 a2 r2) : r1 = r2 ∧ RG T' M' I mi := ⟨(RF_tx h.1 hB hB' hI h1 h2).1, (RF_tx h.1 hB hB' hI h1 h2).2, LK_tx h2 (fun o ho => by rw [TM_cnt h.1.1 o ho]; exact hB.2.2.1 o) h.2⟩
end
section
def ANc (M : Nat → Nat → Int32) (a b : Int32) : Prop := (0 ≤ a ∧ a < M 4 0) ∧ (0 ≤ b ∧ b < M 4 1)
def PL (M : Nat → Nat → Int32) (a b : Int32) (n : Nat) : Nat × (Nat → Nat → Int32) := plays (rowM M 0 a) (rowM M 1 b) n 0 (S0 (rowM M 0 a))
def AN_stop (M : Nat → Nat → Int32) (a b : Int32) : Int32 := if (0 ≤ a ∧ a < M 4 0) ∧ (0 ≤ b ∧ b < M 4 1) then nI (PL M a b (cN (rowM M 1 b 0))).1 else -1
theorem RNG_M {M : Nat → Nat → Int32} {k : Nat} (hL : mLand (M 5)) (hk : k < 2) : RNG (rowM M 0 (nI k)) := fun j hj => row_iv hL hk hj
theorem ev0_iv {M : Nat → Nat → Int32} {e : Nat} (hE : mEve (M 6)) (he : e < 2) : iv 0 40 (rowM M 1 (nI e) 0) := by
  have g := (hE e (by omega)).1
  unfold rowM
  rw [nI_clamp (by omega)]
  exact g
theorem e_deedsM {M : Nat → Nat → Int32} {e : Nat} {post : Int32 → Prop} (he : e < 2) (hp : post (rowM M 1 (nI e) 0)) : q_m_deeds_0 (M 6) (nI e) post := by
  have e9 : (121 : Int32) * nI e = nI (121 * e) := pk_mul 121 e
  refine ⟨by rw [e9]; exact vp_in_nI (by omega) (by omega), ?_⟩
  unfold rowM at hp
  rw [nI_clamp (by omega)] at hp
  rw [e9, nI_clamp (by omega)]
  exact hp
theorem e_layAllM {M : Nat → Nat → Int32} {ld hu si ev a b : Int32} {post : Int32 → Int32 → Int32 → Int32 → Int32 → Prop} (hc : ∀ o, iv 0 2 (M 4 o)) (h0 : ¬ ((0 ≤ a ∧ a < M 4 0) ∧ (0 ≤ b ∧ b < M 4 1)) → ∀ x y z w, post 0 x y z w) (h1 : ∀ k e, k < 2 → e < 2 → a = nI k → b = nI e → (0 ≤ a ∧ a < M 4 0) → (0 ≤ b ∧ b < M 4 1) → post 1 (nI k) (tdM M k 0) (tdM M k 1) (nI e)) : q_m_layAll_0 (M 4) (M 5) ld hu si ev a b post := by
  refine e_is (o := 1) (by omega) (hc 1) (fun hn => ⟨rfl, iz (h0 (fun h9 => hn h9.2) _ _ _ _)⟩) (fun hy => ⟨rfl, oi ?_⟩)
  refine e_hand (hc 0) (fun hn => iz (h0 (fun h9 => hn h9.1) _ _ _ _)) (fun k hk ea hy0 => oi ?_)
  obtain ⟨e, he, eb⟩ := lt_nI (m := 2) (hc 1) hy
  have h2 := h1 k e hk he ea eb hy0 hy
  rw [← eb] at h2
  exact h2

theorem e_m_stop {M : Nat → Nat → Int32} {cd ld hu si ev be mi av a b : Int32} {at_ kn cl sn lv : Nat → Int32} {post : Int32 → Int32 → Int32 → Int32 → Int32 → Int32 → (Nat → Int32) → (Nat → Int32) → (Nat → Int32) → (Nat → Int32) → (Nat → Int32) → Int32 → Int32 → Int32 → Prop} (hc : ∀ o, iv 0 2 (M 4 o)) (hL : mLand (M 5)) (hE : mEve (M 6)) (hK : LK M) (hp : ∀ x1 x2 x3 x4 x5 x6 x7 x8 x9 x10 x11 x12 x13, post (AN_stop M a b) x1 x2 x3 x4 x5 x6 x7 x8 x9 x10 x11 x12 x13) : q_m_stop_0 cd (M 4) (M 5) (M 6) ld hu si ev at_ kn cl sn lv be mi av a b post := by
  unfold AN_stop at hp
  refine e_layAllM hc (fun hn x y z w => iz ?_) (fun k e hk he ea eb h1 h2 => oi ?_)
  · rw [if_neg hn] at hp
    exact hp _ _ _ _ _ _ _ _ _ _ _ _ _
  · rw [if_pos ⟨h1, h2⟩, ea, eb] at hp
    refine e_deedsM he ?_
    obtain ⟨c, ec, -, hc40, -⟩ := iv_nI (ev0_iv hE he) (by decide)
    rw [ec] at hp ⊢
    rw [cN_nI (by omega)] at hp
    exact e_playM hk he (by omega) hL hE (LK_row hK hk (by rw [← ea]; exact h1.2)) (fun S' hS => hp _ _ _ _ _ _ _ _ _ _ _ _ _)
set_option maxRecDepth 40000 in
set_option maxHeartbeats 4000000 in
theorem e_x_stop {T : TT} {M : Nat → Nat → Int32} {nf_minute nf_avalanches nf_begun nf_climbed a b : Int32} {na_huts na_known na_levels na_snow : Nat → Int32} {post : Int32 → (Int32) → (Int32) → (Int32) → (Int32) → (Nat → Int32) → (Nat → Int32) → (Nat → Int32) → (Nat → Int32) → Prop} (h : TM T M 0) (hB : tB T) (hK : LK M) (hL : mLand (M 5)) (hE : mEve (M 6)) (hp : ∀ z0 z1 z2 z3 z4 z5 z6 z7, post (AN_stop M a b) z0 z1 z2 z3 z4 z5 z6 z7) : q_wx_X10_stop_0 (T.2 1) (T.1 3) (T.1 4) (T.1 6) (T.1 7) (T.1 8) (T.2 2) (T.2 3) (T.2 4) (T.2 5) (T.2 6) (T.2 7) (T.2 8) (T.2 9) (T.1 10) (T.1 11) (T.1 13) (T.1 14) (T.1 15) (T.2 10) (T.2 11) (T.2 12) (T.2 13) (T.2 14) (T.2 15) (T.2 16) (T.2 17) (T.1 17) (T.2 18) (T.2 19) (T.2 20) (T.1 18) (T.2 21) (T.2 22) (T.2 23) nf_minute nf_avalanches nf_begun nf_climbed na_huts na_known na_levels na_snow a b post := by
  unfold AN_stop at hp
  rw [TM_cnt h 0 (by decide), TM_cnt h 1 (by decide)] at hp
  refine e_at (hB.2.2.1 0) (fun (hn : ¬ (0 ≤ a ∧ a < T.2 1 0)) => ?_) (fun ea hla => ?_) (fun ea hla => ?_)
  · rw [if_neg (fun h9 => hn h9.1)] at hp
    refine ⟨fun _ => ?_, fun h9 => absurd h9 (by decide), fun h9 => absurd rfl h9⟩
    refine e_at (hB.2.2.1 1) (fun (hm : ¬ (0 ≤ b ∧ b < T.2 1 1)) => ?_) (fun eb hlb => ?_) (fun eb hlb => ?_)
    · exact ⟨fun _ => hp _ _ _ _ _ _ _ _, fun h9 => absurd h9 (by decide), fun h9 => absurd rfl h9⟩
    · exact ⟨fun h9 => absurd h9 (by decide), fun h9 => absurd h9 (by decide), fun _ _ => hp _ _ _ _ _ _ _ _⟩
    · exact ⟨fun h9 => absurd h9 (by decide), fun _ => hp _ _ _ _ _ _ _ _, fun _ h9 => absurd rfl h9⟩
  · refine ⟨fun h9 => absurd h9 (by decide), fun h9 => absurd h9 (by decide), fun _ _ => ?_⟩
    refine e_at (hB.2.2.1 1) (fun (hm : ¬ (0 ≤ b ∧ b < T.2 1 1)) => ?_) (fun eb hlb => ?_) (fun eb hlb => ?_)
    · rw [if_neg (fun h9 => hm h9.2)] at hp
      exact ⟨fun _ => hp _ _ _ _ _ _ _ _, fun h9 => absurd h9 (by decide), fun h9 => absurd rfl h9⟩
    · rw [if_pos (by rw [ea, eb]; exact ⟨⟨by decide, hla⟩, by decide, hlb⟩), ea, eb] at hp
      have hLD : LDR (T.1 3) (T.1 4) (T.1 5) (T.1 6) (T.1 7) (T.1 8) (T.1 9) (T.2 2) (T.2 3) (T.2 4) (T.2 5) (T.2 6) (T.2 7) (T.2 8) (T.2 9) (rowM M 0 (nI 0)) := TM_sl h 0 0 (by decide) (by decide) hla
      have hEV : R3 (T.1 17) (T.2 18) (T.2 19) (T.2 20) (rowM M 1 (nI 0)) := TM_sl h 1 0 (by decide) (by decide) hlb
      have hOK : LOK (rowM M 0 (nI 0)) := LK_row hK (by decide) (by rw [TM_cnt h 0 (by decide)]; exact hla)
      refine ⟨fun h9 => absurd h9 (by decide), fun h9 => absurd h9 (by decide), fun _ _ => ?_⟩
      obtain ⟨c, ec, -, hc40, -⟩ := iv_nI (ev0_iv hE (e := 0) (by decide)) (by decide)
      have edc : (T.1 17) = nI c := hEV.1.trans ec
      rw [ec, cN_nI (by omega)] at hp
      exact e_playX (n := c) (RNG_M hL (by decide)) hOK hLD hEV (ev0_iv hE (by decide)) (fun j hj => (eve_iv hE (by decide) hj).1) edc (by rw [edc]; exact le_rf _) (by omega) (fun _ _ _ _ _ _ _ _ _ => hp _ _ _ _ _ _ _ _)
    · rw [if_pos (by rw [ea, eb]; exact ⟨⟨by decide, hla⟩, by decide, hlb⟩), ea, eb] at hp
      have hLD : LDR (T.1 3) (T.1 4) (T.1 5) (T.1 6) (T.1 7) (T.1 8) (T.1 9) (T.2 2) (T.2 3) (T.2 4) (T.2 5) (T.2 6) (T.2 7) (T.2 8) (T.2 9) (rowM M 0 (nI 0)) := TM_sl h 0 0 (by decide) (by decide) hla
      have hEV : R3 (T.1 18) (T.2 21) (T.2 22) (T.2 23) (rowM M 1 (nI 1)) := TM_sl h 1 1 (by decide) (by decide) hlb
      have hOK : LOK (rowM M 0 (nI 0)) := LK_row hK (by decide) (by rw [TM_cnt h 0 (by decide)]; exact hla)
      refine ⟨fun h9 => absurd h9 (by decide), fun _ => ?_, fun _ h9 => absurd rfl h9⟩
      obtain ⟨c, ec, -, hc40, -⟩ := iv_nI (ev0_iv hE (e := 1) (by decide)) (by decide)
      have edc : (T.1 18) = nI c := hEV.1.trans ec
      rw [ec, cN_nI (by omega)] at hp
      exact e_playX (n := c) (RNG_M hL (by decide)) hOK hLD hEV (ev0_iv hE (by decide)) (fun j hj => (eve_iv hE (by decide) hj).1) edc (by rw [edc]; exact le_rf _) (by omega) (fun _ _ _ _ _ _ _ _ _ => hp _ _ _ _ _ _ _ _)
  · refine ⟨fun h9 => absurd h9 (by decide), fun _ => ?_, fun _ h9 => absurd rfl h9⟩
    refine e_at (hB.2.2.1 1) (fun (hm : ¬ (0 ≤ b ∧ b < T.2 1 1)) => ?_) (fun eb hlb => ?_) (fun eb hlb => ?_)
    · rw [if_neg (fun h9 => hm h9.2)] at hp
      exact ⟨fun _ => hp _ _ _ _ _ _ _ _, fun h9 => absurd h9 (by decide), fun h9 => absurd rfl h9⟩
    · rw [if_pos (by rw [ea, eb]; exact ⟨⟨by decide, hla⟩, by decide, hlb⟩), ea, eb] at hp
      have hLD : LDR (T.1 10) (T.1 11) (T.1 12) (T.1 13) (T.1 14) (T.1 15) (T.1 16) (T.2 10) (T.2 11) (T.2 12) (T.2 13) (T.2 14) (T.2 15) (T.2 16) (T.2 17) (rowM M 0 (nI 1)) := TM_sl h 0 1 (by decide) (by decide) hla
      have hEV : R3 (T.1 17) (T.2 18) (T.2 19) (T.2 20) (rowM M 1 (nI 0)) := TM_sl h 1 0 (by decide) (by decide) hlb
      have hOK : LOK (rowM M 0 (nI 1)) := LK_row hK (by decide) (by rw [TM_cnt h 0 (by decide)]; exact hla)
      refine ⟨fun h9 => absurd h9 (by decide), fun h9 => absurd h9 (by decide), fun _ _ => ?_⟩
      obtain ⟨c, ec, -, hc40, -⟩ := iv_nI (ev0_iv hE (e := 0) (by decide)) (by decide)
      have edc : (T.1 17) = nI c := hEV.1.trans ec
      rw [ec, cN_nI (by omega)] at hp
      exact e_playX (n := c) (RNG_M hL (by decide)) hOK hLD hEV (ev0_iv hE (by decide)) (fun j hj => (eve_iv hE (by decide) hj).1) edc (by rw [edc]; exact le_rf _) (by omega) (fun _ _ _ _ _ _ _ _ _ => hp _ _ _ _ _ _ _ _)
    · rw [if_pos (by rw [ea, eb]; exact ⟨⟨by decide, hla⟩, by decide, hlb⟩), ea, eb] at hp
      have hLD : LDR (T.1 10) (T.1 11) (T.1 12) (T.1 13) (T.1 14) (T.1 15) (T.1 16) (T.2 10) (T.2 11) (T.2 12) (T.2 13) (T.2 14) (T.2 15) (T.2 16) (T.2 17) (rowM M 0 (nI 1)) := TM_sl h 0 1 (by decide) (by decide) hla
      have hEV : R3 (T.1 18) (T.2 21) (T.2 22) (T.2 23) (rowM M 1 (nI 1)) := TM_sl h 1 1 (by decide) (by decide) hlb
      have hOK : LOK (rowM M 0 (nI 1)) := LK_row hK (by decide) (by rw [TM_cnt h 0 (by decide)]; exact hla)
      refine ⟨fun h9 => absurd h9 (by decide), fun _ => ?_, fun _ h9 => absurd rfl h9⟩
      obtain ⟨c, ec, -, hc40, -⟩ := iv_nI (ev0_iv hE (e := 1) (by decide)) (by decide)
      have edc : (T.1 18) = nI c := hEV.1.trans ec
      rw [ec, cN_nI (by omega)] at hp
      exact e_playX (n := c) (RNG_M hL (by decide)) hOK hLD hEV (ev0_iv hE (by decide)) (fun j hj => (eve_iv hE (by decide) hj).1) edc (by rw [edc]; exact le_rf _) (by omega) (fun _ _ _ _ _ _ _ _ _ => hp _ _ _ _ _ _ _ _)
end
section
/-- how many are below n -/
def cntB (p : Nat → Bool) : Nat → Nat
  | 0 => 0
  | n + 1 => cntB p n + (if p n = true then 1 else 0)
theorem cnt_le (p : Nat → Bool) : ∀ n, cntB p n ≤ n
  | 0 => Nat.le_refl 0
  | n + 1 => by
    have := cnt_le p n
    show cntB p n + (if p n = true then 1 else 0) ≤ n + 1
    split <;> omega
theorem cnt_ext {p q : Nat → Bool} : ∀ n, (∀ k, k < n → p k = q k) → cntB p n = cntB q n
  | 0, _ => rfl
  | n + 1, h => by
    show cntB p n + _ = cntB q n + _
    rw [cnt_ext n (fun k hk => h k (by omega)), h n (by omega)]
theorem cnt_mono {p q : Nat → Bool} : ∀ n, (∀ k, k < n → p k = true → q k = true) → cntB p n ≤ cntB q n
  | 0, _ => Nat.le_refl 0
  | n + 1, h => by
    have := cnt_mono n (fun k hk => h k (by omega))
    show cntB p n + (if p n = true then 1 else 0) ≤ cntB q n + (if q n = true then 1 else 0)
    by_cases hp : p n = true
    · rw [if_pos hp, if_pos (h n (by omega) hp)]; omega
    · rw [if_neg hp]; omega
theorem cnt_lt {p q : Nat → Bool} : ∀ n, (∀ k, k < n → p k = true → q k = true) → (∃ k, k < n ∧ q k = true ∧ p k = false) → cntB p n + 1 ≤ cntB q n
  | 0, _, ⟨k, hk, _⟩ => absurd hk (Nat.not_lt_zero k)
  | n + 1, h, ⟨k, hk, hq, hp⟩ => by
    show cntB p n + (if p n = true then 1 else 0) + 1 ≤ cntB q n + (if q n = true then 1 else 0)
    by_cases e : k = n
    · subst e
      have := cnt_mono k (fun j hj => h j (by omega))
      rw [if_pos hq, if_neg (by rw [hp]; decide)]
      omega
    · have := cnt_lt n (fun j hj => h j (by omega)) ⟨k, by omega, hq, hp⟩
      by_cases hpn : p n = true
      · rw [if_pos hpn, if_pos (h n (by omega) hpn)]; omega
      · rw [if_neg hpn]; omega
theorem cnt_tr {p : Nat → Bool} {c : Nat} : ∀ n, c ≤ n → cntB (fun o => decide (o < c) && p o) n = cntB p c
  | 0, h => by
    have : c = 0 := by omega
    subst this
    rfl
  | n + 1, h => by
    by_cases e : c = n + 1
    · subst e
      exact cnt_ext (n + 1) (fun k hk => by rw [decide_eq_true hk, Bool.true_and])
    · show cntB (fun o => decide (o < c) && p o) n + (if (decide (n < c) && p n) = true then 1 else 0) = cntB p c
      rw [cnt_tr n (by omega), decide_eq_false (by omega), Bool.false_and, if_neg (by decide)]
      rfl
/-- the set of those below n -/
def mkB (p : Nat → Bool) : Nat → Int32
  | 0 => 0
  | n + 1 => mkB p n ||| (if p n = true then bitI n else 0)
theorem bit32_tab : ((List.range 31).all fun i => (List.range 32).all fun k => hb (bitI i) k == decide (i = k)) = true := by decide +kernel
theorem hb_b32 {i k : Nat} (hi : i < 31) (hk : k < 32) : hb (bitI i) k = decide (i = k) := by
  have h := List.all_eq_true.mp (List.all_eq_true.mp bit32_tab i (List.mem_range.mpr hi)) k (List.mem_range.mpr hk)
  exact eq_of_beq h
theorem hb_mkB {p : Nat → Bool} {k : Nat} (hk : k < 32) : ∀ n, n ≤ 31 → hb (mkB p n) k = (decide (k < n) && p k)
  | 0, _ => by
    show hb 0 k = _
    rw [hb_0, decide_eq_false (Nat.not_lt_zero k)]; rfl
  | n + 1, hn => by
    show hb (mkB p n ||| _) k = _
    rw [hb_or, hb_mkB hk n (by omega)]
    by_cases e : k = n
    · subst e
      rw [decide_eq_false (Nat.lt_irrefl k), Bool.false_and, Bool.false_or, decide_eq_true (Nat.lt_succ_self k), Bool.true_and]
      by_cases hp : p k = true
      · rw [if_pos hp, hb_b32 (by omega) hk, hp, decide_eq_true rfl]
      · rw [if_neg hp, hb_0]
        rw [Bool.not_eq_true] at hp
        exact hp.symm
    · have e1 : hb (if p n = true then bitI n else 0) k = false := by
        split
        · rw [hb_b32 (by omega) hk, de_ne e]
        · exact hb_0 k
      rw [e1, Bool.or_false]
      by_cases h : k < n
      · rw [decide_eq_true h, decide_eq_true (by omega)]
      · rw [decide_eq_false h, decide_eq_false (by omega)]
theorem hb_eq {s t : Int32} (h : ∀ k, k < 32 → hb s k = hb t k) : s = t := by
  apply Int32.toBitVec_inj.mp
  apply BitVec.eq_of_getLsbD_eq
  intro i hi
  exact h i hi
theorem mkB_ext {p q : Nat → Bool} : ∀ n, (∀ k, k < n → p k = q k) → mkB p n = mkB q n
  | 0, _ => rfl
  | n + 1, h => by
    show mkB p n ||| _ = mkB q n ||| _
    rw [mkB_ext n (fun k hk => h k (by omega)), h n (by omega)]
theorem mkB_iv {p : Nat → Bool} : ∀ n, n ≤ 9 → iv 0 511 (mkB p n)
  | 0, _ => iv_lit (l := 0) (h := 511) (x := 0) (by decide)
  | n + 1, h => by
    have hb9 : ∀ n, n < 9 → iv 0 511 (bitI n) := by
      intro n hn
      have : n = 0 ∨ n = 1 ∨ n = 2 ∨ n = 3 ∨ n = 4 ∨ n = 5 ∨ n = 6 ∨ n = 7 ∨ n = 8 := by omega
      rcases this with rfl | rfl | rfl | rfl | rfl | rfl | rfl | rfl | rfl <;> exact iv_lit (by decide)
    have h2 : iv 0 511 (if p n = true then bitI n else 0) := by
      split
      · exact hb9 n (by omega)
      · exact iv_lit (by decide)
    exact iv_or 9 (mkB_iv n (by omega)) h2 (by decide)
theorem or_0 (x : Int32) : x ||| 0 = x := by
  apply hb_eq
  intro k hk
  rw [hb_or, hb_0, Bool.or_false]
/-- bitCount -/
def bcF (x0 : Int32) : Int32 :=
  let v1 := x0 - ((Int32.toUInt32 x0 >>> (Int32.toUInt32 1 &&& Int32.toUInt32 31)).toInt32 &&& 1431655765)
  let v2 := (v1 &&& 858993459) + ((Int32.toUInt32 v1 >>> (Int32.toUInt32 2 &&& Int32.toUInt32 31)).toInt32 &&& 858993459)
  let v3 := (v2 + (Int32.toUInt32 v2 >>> (Int32.toUInt32 4 &&& Int32.toUInt32 31)).toInt32) &&& 252645135
  let v4 := v3 + (Int32.toUInt32 v3 >>> (Int32.toUInt32 8 &&& Int32.toUInt32 31)).toInt32
  let v5 := v4 + (Int32.toUInt32 v4 >>> (Int32.toUInt32 16 &&& Int32.toUInt32 31)).toInt32
  v5 &&& 63
theorem bc_tab : ((List.range 512).all fun n => bcF (nI n) == nI (cntB (hb (nI n)) 9)) = true := by decide +kernel
theorem e_bc {s : Int32} {post : Int32 → Prop} (hs : iv 0 511 s) (hp : post (nI (cntB (hb s) 9))) : q_z_J6_bitCount_0f7a4_0 s post := by
  intro v1 e1 v2 e2 v3 e3 v4 e4 v5 e5
  obtain ⟨n, rfl, -, hn, -⟩ := iv_nI hs (by decide)
  have h : bcF (nI n) = nI (cntB (hb (nI n)) 9) := eq_of_beq (List.all_eq_true.mp bc_tab n (List.mem_range.mpr (by omega)))
  rw [← h] at hp
  subst e1 e2 e3 e4 e5
  exact hp
theorem e_onesM {s : Int32} {post : Int32 → Prop} (hp : post (nI (cntB (hb s) 9))) : q_m_ones_0 s post := by
  intro P hP
  have loop : ∀ m j, m = 9 - j → j ≤ 9 → P (nI (cntB (hb s) j)) (nI j) := by
    intro m
    induction m using Nat.strongRecOn with
    | ind m ih =>
      intro j hm hj
      apply hP
      refine pk_le 9 j (fun h9 => ?_) (fun h9 => ?_)
      · rw [show j = 9 by omega]; exact hp
      · have nx : ∀ y : Int32, nI (cntB (hb s) j) + y = nI (cntB (hb s) (j + 1)) → q_m_ones_24 P s (nI j) (nI (cntB (hb s) j)) y post := by
          intro y hy v e v2 e2
          rw [e, e2, hy, nI_1]
          exact ih (9 - (j + 1)) (by omega) (j + 1) rfl (by omega)
        have e : cntB (hb s) (j + 1) = cntB (hb s) j + (if hb s j = true then 1 else 0) := rfl
        refine e_hasM (by omega) (fun h0 => iz (nx 0 ?_)) (fun h1 => oi (nx 1 ?_))
        · rw [e, if_neg (by rw [h0]; decide)]; exact Int32.add_zero _
        · rw [e, if_pos h1, nI_1]
  exact loop _ 0 rfl (by omega)
/-- the least set that holds f and is closed under E -/
noncomputable def clB (E : Nat → Nat → Bool) (n f h : Nat) : Bool := @decide (∀ C : Nat → Bool, C f = true → (∀ a b, a < n → b < n → C a = true → E a b = true → C b = true) → C h = true) (Classical.propDecidable _)
theorem cl_eq {E : Nat → Nat → Bool} {n f : Nat} {S : Nat → Bool} (h1 : S f = true) (h2 : ∀ a b, a < n → b < n → S a = true → E a b = true → S b = true) (h3 : ∀ C : Nat → Bool, C f = true → (∀ a b, a < n → b < n → C a = true → E a b = true → C b = true) → ∀ h, h < n → S h = true → C h = true) (h : Nat) (hh : h < n) : S h = clB E n f h := by
  unfold clB
  by_cases hs : S h = true
  · rw [hs]
    exact (@decide_eq_true _ (Classical.propDecidable _) (fun C c1 c2 => h3 C c1 c2 h hh hs)).symm
  · have e : S h = false := by rw [← Bool.not_eq_true]; exact hs
    rw [e]
    exact (@decide_eq_false _ (Classical.propDecidable _) (fun hc => hs (hc S h1 h2))).symm
end
section
def cS (s : Int32) : Nat := cntB (hb s) 9
theorem hb_nI {s k : Nat} (hs : s < 2 ^ 31) : hb (nI s) k = s.testBit k := by
  unfold hb
  rw [BitVec.getLsbD, iv_tn hs]
theorem pow_b {n : Nat} (hn : n ≤ 9) : 2 ^ n ≤ 512 := Nat.le_trans (Nat.pow_le_pow_right (by decide) hn) (by decide)
theorem hb_lo {s n k : Nat} (hs : s < 2 ^ n) (hn : n ≤ 9) (hk : n ≤ k) : hb (nI s) k = false := by
  have := pow_b hn
  rw [hb_nI (by omega)]
  exact Nat.testBit_lt_two_pow (Nat.lt_of_lt_of_le hs (Nat.pow_le_pow_right (by decide) hk))
theorem cntB_cut {p : Nat → Bool} {n : Nat} (h : ∀ k, n ≤ k → p k = false) : ∀ m, cntB p (n + m) = cntB p n
  | 0 => rfl
  | m + 1 => by
    show cntB p (n + m) + (if p (n + m) = true then 1 else 0) = _
    rw [h (n + m) (by omega), if_neg (by decide), cntB_cut h m]
    rfl
theorem cS_le {s n : Nat} (hs : s < 2 ^ n) (hn : n ≤ 9) : cS (nI s) ≤ n := by
  unfold cS
  have e : cntB (hb (nI s)) (n + (9 - n)) = cntB (hb (nI s)) n := cntB_cut (fun k hk => hb_lo hs hn hk) (9 - n)
  rw [show n + (9 - n) = 9 by omega] at e
  rw [e]
  exact cnt_le _ n
theorem sh_pow {n : Nat} (hn : n ≤ 9) : (1 : Int32) <<< (nI n &&& 31) = nI (2 ^ n) := iv_sh1 n (by omega)
theorem full_bit {n k : Nat} (hn : n ≤ 9) (hk : k < n) : hb (nI (2 ^ n - 1)) k = true := by
  have := pow_b hn
  rw [hb_nI (by omega), Nat.testBit_two_pow_sub_one]
  exact decide_eq_true hk
theorem nIm1' {h : Nat} (hh : h < 1000) : ¬ nI h = -1 := fun e => by
  have := congrArg Int32.toInt e
  rw [nI_toInt (by omega)] at this
  have e1 : (-1 : Int32).toInt = -1 := rfl
  omega
end
section
/-- sums, greatest, least over the huts -/
def sm (g : Nat → Nat) : Nat → Nat
  | 0 => 0
  | m + 1 => sm g m + g m
theorem sm_ext {g g' : Nat → Nat} : ∀ m, (∀ a, a < m → g a = g' a) → sm g m = sm g' m
  | 0, _ => rfl
  | m + 1, h => by
    show sm g m + g m = sm g' m + g' m
    rw [sm_ext m (fun a ha => h a (by omega)), h m (by omega)]
theorem sm_add {g g' : Nat → Nat} : ∀ m, sm (fun a => g a + g' a) m = sm g m + sm g' m
  | 0 => rfl
  | m + 1 => by
    show sm (fun a => g a + g' a) m + (g m + g' m) = (sm g m + g m) + (sm g' m + g' m)
    rw [sm_add m]
    omega
theorem sm_z {g : Nat → Nat} : ∀ m, (∀ a, a < m → g a = 0) → sm g m = 0
  | 0, _ => rfl
  | m + 1, h => by
    show sm g m + g m = 0
    rw [sm_z m (fun a ha => h a (by omega)), h m (by omega)]
theorem sm_ex {g : Nat → Nat} : ∀ m, 0 < sm g m → ∃ a, a < m ∧ 0 < g a
  | 0, h => absurd h (Nat.lt_irrefl 0)
  | m + 1, h => by
    have h' : 0 < sm g m + g m := h
    by_cases q : 0 < g m
    · exact ⟨m, by omega, q⟩
    · obtain ⟨a, ha, hg⟩ := sm_ex (g := g) m (by omega)
      exact ⟨a, by omega, hg⟩
theorem sm_ge {g : Nat → Nat} {a : Nat} : ∀ m, a < m → g a ≤ sm g m
  | 0, h => absurd h (Nat.not_lt_zero a)
  | m + 1, h => by
    show g a ≤ sm g m + g m
    by_cases q : a = m
    · subst q; omega
    · have := sm_ge (g := g) (a := a) m (by omega); omega
theorem sm_le {g : Nat → Nat} {c : Nat} : ∀ m, (∀ a, a < m → g a ≤ c) → sm g m ≤ m * c
  | 0, _ => by rw [Nat.zero_mul]; exact Nat.le_refl _
  | m + 1, h => by
    show sm g m + g m ≤ (m + 1) * c
    have h1 := sm_le m (fun a ha => h a (by omega))
    have h2 := h m (by omega)
    rw [Nat.succ_mul]
    omega
theorem sm_mono {g g' : Nat → Nat} : ∀ m, (∀ a, a < m → g a ≤ g' a) → sm g m ≤ sm g' m
  | 0, _ => Nat.le_refl _
  | m + 1, h => by
    show sm g m + g m ≤ sm g' m + g' m
    have h1 := sm_mono m (fun a ha => h a (by omega))
    have h2 := h m (by omega)
    omega
theorem sm_upd {g g' : Nat → Nat} {x v : Nat} : ∀ m, x < m → (∀ a, a < m → ¬ a = x → g' a = g a) → g' x = g x + v → sm g' m = sm g m + v
  | 0, h, _, _ => absurd h (Nat.not_lt_zero x)
  | m + 1, h, h1, h2 => by
    show sm g' m + g' m = sm g m + g m + v
    by_cases q : x = m
    · subst q
      rw [sm_ext (g := g') (g' := g) x (fun a ha => h1 a (by omega) (by omega)), h2]
      omega
    · rw [sm_upd m (by omega) (fun a ha => h1 a (by omega)) h2, h1 m (by omega) (fun e => q e.symm)]
      omega
def mx (g : Nat → Nat) : Nat → Nat
  | 0 => 0
  | m + 1 => max (mx g m) (g m)
theorem mx_ext {g g' : Nat → Nat} : ∀ m, (∀ a, a < m → g a = g' a) → mx g m = mx g' m
  | 0, _ => rfl
  | m + 1, h => by
    show max (mx g m) (g m) = max (mx g' m) (g' m)
    rw [mx_ext m (fun a ha => h a (by omega)), h m (by omega)]
theorem mx_ge {g : Nat → Nat} {a : Nat} : ∀ m, a < m → g a ≤ mx g m
  | 0, h => absurd h (Nat.not_lt_zero a)
  | m + 1, h => by
    show g a ≤ max (mx g m) (g m)
    by_cases q : a = m
    · subst q; omega
    · have := mx_ge (g := g) (a := a) m (by omega); omega
theorem mx_ex {g : Nat → Nat} : ∀ m, mx g m = 0 ∨ ∃ a, a < m ∧ mx g m = g a
  | 0 => Or.inl rfl
  | m + 1 => by
    have e : mx g (m + 1) = max (mx g m) (g m) := rfl
    rcases mx_ex (g := g) m with h | ⟨a, ha, h⟩
    · by_cases q : g m = 0
      · exact Or.inl (by omega)
      · exact Or.inr ⟨m, by omega, by omega⟩
    · by_cases q : mx g m ≤ g m
      · exact Or.inr ⟨m, by omega, by omega⟩
      · exact Or.inr ⟨a, by omega, by omega⟩
theorem mx_upd {g g' : Nat → Nat} {x v : Nat} : ∀ m, x < m → (∀ a, a < m → ¬ a = x → g' a = g a) → g x = 0 → g' x = v → mx g' m = max (mx g m) v
  | 0, h, _, _, _ => absurd h (Nat.not_lt_zero x)
  | m + 1, h, h1, h0, h2 => by
    show max (mx g' m) (g' m) = max (max (mx g m) (g m)) v
    by_cases q : x = m
    · subst q
      rw [mx_ext (g := g') (g' := g) x (fun a ha => h1 a (by omega) (by omega)), h2, h0]
      omega
    · rw [mx_upd m (by omega) (fun a ha => h1 a (by omega)) h0 h2, h1 m (by omega) (fun e => q e.symm)]
      omega
theorem mx_le {g : Nat → Nat} {c : Nat} : ∀ m, (∀ a, a < m → g a ≤ c) → mx g m ≤ c
  | 0, _ => Nat.zero_le _
  | m + 1, h => by
    show max (mx g m) (g m) ≤ c
    have h1 := mx_le m (fun a ha => h a (by omega))
    have h2 := h m (by omega)
    omega
def mn (g : Nat → Nat) : Nat → Nat
  | 0 => 1000
  | m + 1 => min (mn g m) (g m)
theorem mn_ext {g g' : Nat → Nat} : ∀ m, (∀ a, a < m → g a = g' a) → mn g m = mn g' m
  | 0, _ => rfl
  | m + 1, h => by
    show min (mn g m) (g m) = min (mn g' m) (g' m)
    rw [mn_ext m (fun a ha => h a (by omega)), h m (by omega)]
theorem mn_b {g : Nat → Nat} : ∀ m, mn g m ≤ 1000
  | 0 => Nat.le_refl _
  | m + 1 => by
    show min (mn g m) (g m) ≤ 1000
    have := mn_b (g := g) m
    omega
theorem mn_le {g : Nat → Nat} {a : Nat} : ∀ m, a < m → mn g m ≤ g a
  | 0, h => absurd h (Nat.not_lt_zero a)
  | m + 1, h => by
    show min (mn g m) (g m) ≤ g a
    by_cases q : a = m
    · subst q; omega
    · have := mn_le (g := g) (a := a) m (by omega); omega
theorem mn_hi {g : Nat → Nat} : ∀ m, (∀ a, a < m → 1000 ≤ g a) → mn g m = 1000
  | 0, _ => rfl
  | m + 1, h => by
    show min (mn g m) (g m) = 1000
    have h1 := mn_hi m (fun a ha => h a (by omega))
    have h2 := h m (by omega)
    omega
theorem mn_mono {g g' : Nat → Nat} : ∀ m, (∀ a, a < m → g a ≤ g' a) → mn g m ≤ mn g' m
  | 0, _ => Nat.le_refl _
  | m + 1, h => by
    show min (mn g m) (g m) ≤ min (mn g' m) (g' m)
    have h1 := mn_mono m (fun a ha => h a (by omega))
    have h2 := h m (by omega)
    omega
theorem mn_upd {g g' : Nat → Nat} {x v : Nat} : ∀ m, x < m → (∀ a, a < m → ¬ a = x → g' a = g a) → 1000 ≤ g x → g' x = v → mn g' m = min (mn g m) v
  | 0, h, _, _, _ => absurd h (Nat.not_lt_zero x)
  | m + 1, h, h1, h0, h2 => by
    show min (mn g' m) (g' m) = min (min (mn g m) (g m)) v
    by_cases q : x = m
    · subst q
      rw [mn_ext (g := g') (g' := g) x (fun a ha => h1 a (by omega) (by omega)), h2]
      have := mn_b (g := g) x
      omega
    · rw [mn_upd m (by omega) (fun a ha => h1 a (by omega)) h0 h2, h1 m (by omega) (fun e => q e.symm)]
      omega
end
section
/-- whether b may stand behind a -/
def flw (cd : Nat → Int32) (a b : Nat) : Bool := !decide (cd (1 + 2 * a) = cd (1 + 2 * b)) && !decide (cd (2 + 2 * a) + cd 19 < cd (2 + 2 * b))
/-- the ways to go on: k voices are left, those of s stand, the last of them is `last` -/
def RW (cd : Nat → Int32) (n : Nat) : Nat → Int32 → Nat → Nat
  | 0, _, _ => 1
  | k + 1, s, last => sm (fun v => if (!hb s v && flw cd last v) = true then RW cd n k (s ||| bitI v) v else 0) n
theorem RW_le {cd : Nat → Int32} {n : Nat} (hn : n ≤ 9) : ∀ k s last, RW cd n k s last ≤ 9 ^ k
  | 0, _, _ => Nat.le_refl _
  | k + 1, s, last => by
    show sm (fun v => if (!hb s v && flw cd last v) = true then RW cd n k (s ||| bitI v) v else 0) n ≤ 9 ^ (k + 1)
    have g := sm_le (g := fun v => if (!hb s v && flw cd last v) = true then RW cd n k (s ||| bitI v) v else 0) (c := 9 ^ k) n (fun v _ => by
      show (if (!hb s v && flw cd last v) = true then RW cd n k (s ||| bitI v) v else 0) ≤ 9 ^ k
      split
      · exact RW_le hn k _ _
      · exact Nat.zero_le _)
    have : n * 9 ^ k ≤ 9 * 9 ^ k := Nat.mul_le_mul_right _ hn
    rw [Nat.pow_succ, Nat.mul_comm (9 ^ k) 9]
    omega
def CRg (cd : Nat → Int32) : Prop := iv 0 9 (cd 0) ∧ iv 0 9 (cd 19) ∧ ∀ j, j < 9 → iv 0 3 (cd (1 + 2 * j)) ∧ iv 0 9 (cd (2 + 2 * j))
theorem e_stepX {cd parts heights : Nat → Int32} {a b n : Nat} {post : Int32 → Prop} (hC : CRg cd) (hn9 : n ≤ 9) (ha : a < n) (hb1 : b < n) (hp1 : ∀ j, j < n → parts j = cd (1 + 2 * j)) (hp2 : ∀ j, j < n → heights j = cd (2 + 2 * j)) (hp : ∀ r, (¬ cd 19 < r ↔ flw cd a b = true) → post r) : q_wc_X0_stepBetween_0 parts heights (nI a) (nI b) post := by
  have via : vp_in (nI a) 9 := vp_in_nI (by omega) (by omega)
  have vib : vp_in (nI b) 9 := vp_in_nI (by omega) (by omega)
  obtain ⟨x, ex, -, hx9, -⟩ := iv_nI (hC.2.2 a (by omega)).2 (by decide)
  obtain ⟨y, ey, -, hy9, -⟩ := iv_nI (hC.2.2 b (by omega)).2 (by decide)
  obtain ⟨st, est, -, hs9, -⟩ := iv_nI hC.2.1 (by decide)
  refine ⟨via, vib, ?_⟩
  rw [nI_clamp (by omega), nI_clamp (by omega), hp1 a ha, hp1 b hb1, hp2 a ha, hp2 b hb1, ex, ey]
  refine ⟨fun hne => ⟨vib, via, hp _ ?_⟩, fun heq => hp _ ?_⟩
  · unfold flw
    rw [decide_eq_false hne, ex, ey, est, Bool.not_false, Bool.true_and, Bool.not_eq_true', decide_eq_false_iff_not, nI_add]
    by_cases q : x < y
    · rw [pk_sub (by omega), if_pos (show (0 : Int32) < nI (y - x) from nI_lt (a := 0) (show 0 < y - x by omega) (by omega)), nI_ltI (by omega) (by omega), nI_ltI (by omega) (by omega)]
      omega
    · rw [if_neg (fun h => by
        have h1 := Int32.lt_iff_toInt_lt.mp h
        rw [pk_sub_toInt (by omega) (by omega)] at h1
        have z0 : (0 : Int32).toInt = 0 := rfl
        omega)]
      have e1 : ¬ nI st < 0 := nI_pos (by omega)
      have e2 : ¬ nI (x + st) < nI y := fun h => by
        have := (nI_ltI (by omega) (by omega)).mp h
        omega
      exact ⟨fun _ => e2, fun _ => e1⟩
  · unfold flw
    rw [decide_eq_true heq, est]
    constructor
    · intro h
      exact absurd (nI_lt (b := 1000) (show st < 1000 by omega) (by omega)) h
    · intro h
      exact absurd h (by simp)
theorem e_measureX {cd parts heights gaps behind : Nat → Int32} {voices step : Int32} {n : Nat} {post : (Nat → Int32) → (Nat → Int32) → Prop} (hC : CRg cd) (hn9 : n ≤ 9) (h0 : voices = nI n) (hst : step = cd 19) (hp1 : ∀ j, j < n → parts j = cd (1 + 2 * j)) (hp2 : ∀ j, j < n → heights j = cd (2 + 2 * j)) (hp : ∀ gaps' behind', (∀ a b, a < n → b < 32 → hb (behind' a) b = (decide (b < n) && flw cd a b)) → post gaps' behind') : q_wk_X5_measure_3_0 gaps behind voices step parts heights post := by
  intro P hP
  have loop : ∀ d a (gaps behind : Nat → Int32), d = n - a → a ≤ n → (∀ a' b, a' < a → b < 32 → hb (behind a') b = (decide (b < n) && flw cd a' b)) → P (nI a) gaps behind := by
    intro d
    induction d using Nat.strongRecOn with
    | ind d ih =>
      intro a gaps behind hd ha hI
      apply hP
      refine pk_le n a (fun h9 => hp gaps behind (fun a' b ha' hb1 => hI a' b (by omega) hb1)) (fun h9 => ⟨vp_in_nI (by omega) (by omega), fun be1 e1 => ?_⟩) h0
      rw [nI_clamp (by omega)] at e1
      intro P2 hP2
      have loop2 : ∀ d b (gaps behind : Nat → Int32), d = n - b → b ≤ n → (∀ a' b, a' < a → b < 32 → hb (behind a') b = (decide (b < n) && flw cd a' b)) → (∀ b', b' < 32 → hb (behind a) b' = (decide (b' < b) && flw cd a b')) → P2 (nI b) gaps behind := by
        intro d
        induction d using Nat.strongRecOn with
        | ind d ih2 =>
          intro b gaps behind hd2 hbn hI2 hrow
          apply hP2
          refine pk_le n b (fun h8 v ev => ?_) (fun h8 => ?_) h0
          · rw [ev, nI_1]
            refine ih (n - (a + 1)) (by omega) (a + 1) gaps behind rfl (by omega) (fun a' b' ha' hb1 => ?_)
            by_cases e : a' = a
            · subst e
              rw [hrow b' hb1, show b = n by omega]
            · exact hI2 a' b' (by omega) hb1
          · have ei : (nI a * 9) + nI b = nI (9 * a + b) := by rw [jx9, Nat.mul_comm]
            have via : vp_in (nI a) 9 := vp_in_nI (by omega) (by omega)
            refine e_stepX hC hn9 h9 h8 hp1 hp2 (fun r hr => ?_)
            rw [ei]
            refine ⟨vp_in_nI (by omega) (by omega), fun g1 eg => ?_⟩
            have nx : ∀ be' : Nat → Int32, (∀ a' b, a' < a → b < 32 → hb (be' a') b = (decide (b < n) && flw cd a' b)) → (∀ b', b' < 32 → hb (be' a) b' = (decide (b' < b + 1) && flw cd a b')) → q_wk_X5_measure_3_69 P P2 g1 be' voices step parts heights (nI a) (nI b) post := by
              intro be' k1 k2 v ev
              rw [ev, nI_1]
              exact ih2 (n - (b + 1)) (by omega) (b + 1) g1 be' rfl (by omega) k1 k2
            have ext : ∀ b', ¬ b' = b → decide (b' < b + 1) = decide (b' < b) := fun b' e => by
              by_cases e2 : b' < b
              · rw [decide_eq_true e2, decide_eq_true (by omega)]
              · rw [decide_eq_false e2, decide_eq_false (by omega)]
            rw [hst]
            refine ⟨fun hlt => nx behind hI2 (fun b' hb1 => ?_), fun hge => ⟨via, fun v ev => ⟨via, fun be' ebe => nx be' (fun a' b' ha' hb1 => ?_) (fun b' hb1 => ?_)⟩⟩⟩
            · rw [hrow b' hb1]
              by_cases e : b' = b
              · subst e
                have hf : flw cd a b' = false := by
                  rw [← Bool.not_eq_true]
                  exact fun h => hr.mpr h hlt
                rw [hf, Bool.and_false, Bool.and_false]
              · rw [ext b' e]
            · rw [ebe, nI_clamp (by omega), up_n (by omega)]; exact hI2 a' b' ha' hb1
            · rw [nI_clamp (by omega)] at ev ebe
              rw [ebe, up_s, ev, hb_or, hrow b' hb1, show hb ((1 : Int32) <<< (nI b &&& 31)) b' = decide (b = b') from hb_b32' (by omega) hb1]
              by_cases e : b' = b
              · subst e
                rw [hr.mp hge, decide_eq_true (rfl : b' = b'), decide_eq_true (show b' < b' + 1 by omega)]
                simp
              · rw [decide_eq_false (show ¬ b = b' from fun h => e h.symm), Bool.or_false, ext b' e]
      exact loop2 _ 0 gaps be1 rfl (by omega) (fun a' b ha' hb1 => by rw [e1, up_n (by omega)]; exact hI a' b ha' hb1) (fun b' hb1 => by rw [e1, up_s, hb_0, decide_eq_false (Nat.not_lt_zero b')]; rfl)
  exact loop _ 0 gaps behind rfl (by omega) (fun a' b ha' => absurd ha' (Nat.not_lt_zero a'))
end
section
theorem or_nI {s v : Nat} (hs : s < 512) (hv : v < 9) : nI s ||| bitI v = nI (s ||| 2 ^ v) := by
  have hb2 : 2 ^ v < 2 ^ 9 := Nat.pow_lt_pow_right (by decide) hv
  have ho : s ||| 2 ^ v < 2 ^ 9 := Nat.or_lt_two_pow (by omega) hb2
  apply hb_eq
  intro k hk
  rw [hb_or, hb_nI (by omega), hb_nI (by omega), hb_b32' (by omega) hk, Nat.testBit_or, Nat.testBit_two_pow]
theorem or_gt {s v : Nat} (hv : s.testBit v = false) : s < s ||| 2 ^ v := by
  have h1 : s ≤ s ||| 2 ^ v := Nat.left_le_or
  apply Nat.lt_of_le_of_ne h1
  intro e
  have : (s ||| 2 ^ v).testBit v = false := by rw [← e]; exact hv
  rw [Nat.testBit_or, Nat.testBit_two_pow_self, Bool.or_true] at this
  exact absurd this (by decide)
theorem cS_or {s v n : Nat} (hn : n ≤ 9) (hs : s < 2 ^ n) (hv : v < n) (hv0 : s.testBit v = false) : cS (nI (s ||| 2 ^ v)) = cS (nI s) + 1 := by
  have hp := pow_b hn
  have ho : s ||| 2 ^ v < 2 ^ n := Nat.or_lt_two_pow hs (Nat.pow_lt_pow_right (by decide) hv)
  have key : ∀ m, m ≤ 9 → cntB (hb (nI (s ||| 2 ^ v))) m = cntB (hb (nI s)) m + (if v < m then 1 else 0) := by
    intro m
    induction m with
    | zero => intro _; rfl
    | succ m ih =>
      intro hm
      show cntB (hb (nI (s ||| 2 ^ v))) m + (if hb (nI (s ||| 2 ^ v)) m = true then 1 else 0) = cntB (hb (nI s)) m + (if hb (nI s) m = true then 1 else 0) + (if v < m + 1 then 1 else 0)
      rw [ih (by omega), hb_nI (by omega), hb_nI (by omega), Nat.testBit_or, Nat.testBit_two_pow]
      by_cases e : v = m
      · subst e
        rw [hv0, if_neg (Nat.lt_irrefl v), if_pos (show v < v + 1 by omega), decide_eq_true (rfl : v = v)]
        rfl
      · rw [decide_eq_false e, Bool.or_false]
        by_cases e2 : v < m
        · rw [if_pos e2, if_pos (show v < m + 1 by omega)]; omega
        · rw [if_neg e2, if_neg (show ¬ v < m + 1 by omega)]; omega
  have := key 9 (Nat.le_refl 9)
  rw [if_pos (show v < 9 by omega)] at this
  exact this
/-- the ways on behind the voices of s, the last of them v -/
def RN (cd : Nat → Int32) (n s v : Nat) : Nat := RW cd n (n - cS (nI s)) (nI s) v
theorem RN_full {cd : Nat → Int32} {n v : Nat} (hn : n ≤ 9) : RN cd n (2 ^ n - 1) v = 1 := by
  have hp := Nat.two_pow_pos n
  have hpw := pow_b hn
  have e : cS (nI (2 ^ n - 1)) = n := by
    have c := cntB_cut (p := hb (nI (2 ^ n - 1))) (n := n) (fun k hk => hb_lo (s := 2 ^ n - 1) (by omega) hn hk) (9 - n)
    rw [show n + (9 - n) = 9 by omega] at c
    unfold cS
    rw [c]
    have full : ∀ m, m ≤ n → cntB (hb (nI (2 ^ n - 1))) m = m := by
      intro m
      induction m with
      | zero => intro _; rfl
      | succ m ih =>
        intro hm
        show cntB (hb (nI (2 ^ n - 1))) m + (if hb (nI (2 ^ n - 1)) m = true then 1 else 0) = m + 1
        rw [ih (by omega), if_pos (full_bit hn (by omega))]
    exact full n (Nat.le_refl n)
  unfold RN
  rw [e, Nat.sub_self]
  rfl
theorem cS_part {s n : Nat} (hn : n ≤ 9) (hs : s < 2 ^ n) (hne : ¬ s = 2 ^ n - 1) : cS (nI s) < n := by
  have hp := Nat.two_pow_pos n
  have hpw := pow_b hn
  have hx : ∃ k, k < n ∧ hb (nI s) k = false := by
    apply Classical.byContradiction
    intro hno
    apply hne
    have e : nI s = nI (2 ^ n - 1) := by
      apply hb_eq
      intro k hk
      by_cases q : k < n
      · rw [full_bit hn q]
        apply Classical.byContradiction
        intro h
        exact hno ⟨k, q, by rw [← Bool.not_eq_true]; exact h⟩
      · rw [hb_lo hs hn (by omega), hb_lo (s := 2 ^ n - 1) (by omega) hn (by omega)]
    exact (nI_eq (by omega) (by omega)).mp e
  obtain ⟨k, hk, h0⟩ := hx
  have c := cntB_cut (p := hb (nI s)) (n := n) (fun k hk => hb_lo hs hn hk) (9 - n)
  rw [show n + (9 - n) = 9 by omega] at c
  unfold cS
  rw [c]
  have g := cnt_lt (p := hb (nI s)) (q := fun _ => true) n (fun _ _ _ => rfl) ⟨k, hk, rfl, h0⟩
  have l := cnt_le (fun _ => true) n
  omega
theorem RN_rec {cd : Nat → Int32} {n s v : Nat} (hn : n ≤ 9) (hs : s < 2 ^ n) (hne : ¬ s = 2 ^ n - 1) : RN cd n s v = sm (fun w => if (!s.testBit w && flw cd v w) = true then RN cd n (s ||| 2 ^ w) w else 0) n := by
  have hpw := pow_b hn
  have c := cS_part hn hs hne
  unfold RN
  rw [show n - cS (nI s) = (n - cS (nI s) - 1) + 1 by omega]
  show sm (fun w => if (!hb (nI s) w && flw cd v w) = true then RW cd n (n - cS (nI s) - 1) (nI s ||| bitI w) w else 0) n = _
  refine sm_ext n (fun w hw => ?_)
  show (if (!hb (nI s) w && flw cd v w) = true then RW cd n (n - cS (nI s) - 1) (nI s ||| bitI w) w else 0) = (if (!s.testBit w && flw cd v w) = true then RW cd n (n - cS (nI (s ||| 2 ^ w))) (nI (s ||| 2 ^ w)) w else 0)
  rw [hb_nI (by omega)]
  by_cases q : (!s.testBit w && flw cd v w) = true
  · rw [if_pos q, if_pos q, or_nI (by omega) (by omega)]
    rw [Bool.and_eq_true, Bool.not_eq_true'] at q
    rw [cS_or hn hs hw q.1, Nat.sub_sub]
  · rw [if_neg q, if_neg q]
theorem RN_b {cd : Nat → Int32} {n s v : Nat} (hn : n ≤ 9) (h1 : 1 ≤ cS (nI s)) : RN cd n s v ≤ 43046721 := by
  have g := RW_le (cd := cd) hn (n - cS (nI s)) (nI s) v
  have g2 : 9 ^ (n - cS (nI s)) ≤ 9 ^ 8 := Nat.pow_le_pow_right (by decide) (by omega)
  exact Nat.le_trans g g2
def ORD (cd : Nat → Int32) (n : Nat) : Nat := if n = 0 then 1 else sm (fun v => RN cd n (2 ^ v) v) n
theorem sm_tab' : ∀ k, k < 31 → ((nI k &&& 31).toBitVec.smod 32).toNat = k := by decide +kernel
theorem e_waysOnX {tab : Nat → Int32} {g : Nat → Nat} {s c n : Nat} {x1 x2 : Int32} {post : Int32 → Prop} (hn : n ≤ 9) (hs : s < 2 ^ n) (hc : c < 2 ^ n) (e1 : x1 = nI s) (e2 : x2 = nI c) (ht : ∀ w, w < n → c.testBit w = true → tab ((s ||| 2 ^ w) * 9 + w) = nI (g w)) (hp : post (nI (sm (fun w => if c.testBit w = true then g w else 0) n))) : q_wk_X5_waysOn_6_0 tab x1 x2 post := by
  subst e1 e2
  have hpw := pow_b hn
  have hi : ∀ w, n ≤ w → c.testBit w = false := fun w hw => Nat.testBit_lt_two_pow (Nat.lt_of_lt_of_le hc (Nat.pow_le_pow_right (by decide) hw))
  have cut : ∀ m, (∀ w, m ≤ w → c.testBit w = false) → ∀ d, sm (fun w => if c.testBit w = true then g w else 0) (m + d) = sm (fun w => if c.testBit w = true then g w else 0) m := by
    intro m h d
    induction d with
    | zero => rfl
    | succ d ih =>
      show sm (fun w => if c.testBit w = true then g w else 0) (m + d) + (if c.testBit (m + d) = true then g (m + d) else 0) = _
      rw [ih, h (m + d) (by omega), if_neg (by decide), Nat.add_zero]
  intro P hP
  have loop : ∀ d w, d = 9 - w → w ≤ 9 → P (nI (sm (fun w => if c.testBit w = true then g w else 0) w)) (nI w) := by
    intro d
    induction d using Nat.strongRecOn with
    | ind d ih =>
      intro w hd hw
      apply hP
      refine pk_le 9 w (fun h9 => ?_) (fun h9 => ⟨fun q => ?_, fun q => ?_⟩)
      · have e := cut n hi (w - n)
        rw [show n + (w - n) = w by omega] at e
        rw [e]
        exact hp
      · have hz : ∀ u, w ≤ u → c.testBit u = false := by
          intro u hu
          rw [pk_shrN (n := c) (by omega) (nI w &&& 31) w (sm_tab' w (by omega))] at q
          have h0 : c / 2 ^ w = 0 := by
            have hb2 : c / 2 ^ w ≤ c := Nat.div_le_self _ _
            exact (nI_eq (b := 0) (by omega) (by omega)).mp q
          have h1 : c < 2 ^ w := by
            rcases Nat.div_eq_zero_iff.mp h0 with h | h
            · exact absurd h (Nat.pos_iff_ne_zero.mp (Nat.two_pow_pos w))
            · exact h
          exact Nat.testBit_lt_two_pow (Nat.lt_of_lt_of_le h1 (Nat.pow_le_pow_right (by decide) hu))
        by_cases hwn : w ≤ n
        · have e := cut w hz (n - w)
          rw [show w + (n - w) = n by omega] at e
          rw [← e]
          exact hp
        · have e := cut n hi (w - n)
          rw [show n + (w - n) = w by omega] at e
          rw [e]
          exact hp
      · have e : sm (fun w => if c.testBit w = true then g w else 0) (w + 1) = sm (fun w => if c.testBit w = true then g w else 0) w + (if c.testBit w = true then g w else 0) := rfl
        have nx : ∀ y : Int32, y = nI (sm (fun w => if c.testBit w = true then g w else 0) (w + 1)) → q_wk_X5_waysOn_6_45 P tab (nI s) (nI c) y (nI w) post := by
          intro y hy v ev
          rw [ev, nI_1, hy]
          exact ih (9 - (w + 1)) (by omega) (w + 1) rfl (by omega)
        refine e_hasX (by omega) (fun h0 => iz (nx _ ?_)) (fun h1 => oi ?_)
        · rw [hb_nI (by omega)] at h0
          rw [e, if_neg (by rw [h0]; decide)]; rfl
        · rw [hb_nI (by omega)] at h1
          have hwn : w < n := by
            apply Classical.byContradiction
            intro h
            rw [hi w (by omega)] at h1
            exact absurd h1 (by decide)
          have ei : ((nI s ||| ((1 : Int32) <<< (nI w &&& 31))) * 9) + nI w = nI ((s ||| 2 ^ w) * 9 + w) := by
            rw [show nI s ||| ((1 : Int32) <<< (nI w &&& 31)) = nI (s ||| 2 ^ w) from or_nI (by omega) (by omega), jx9]
          have ho : s ||| 2 ^ w < 2 ^ 9 := Nat.or_lt_two_pow (by omega) (Nat.pow_lt_pow_right (by decide) (by omega))
          rw [ei]
          refine ⟨vp_in_nI (by omega) (by omega), fun v ev => nx _ ?_⟩
          rw [nI_clamp (by omega), ht w hwn h1, nI_add] at ev
          rw [ev, e, if_pos h1]
  exact loop _ 0 rfl (by omega)
end
section
theorem nI_ofbits {x : Int32} {n : Nat} (hn : n ≤ 9) (h : ∀ k, k < 32 → n ≤ k → hb x k = false) : ∃ c, c < 2 ^ n ∧ x = nI c := by
  refine ⟨x.toBitVec.toNat, ?_, ?_⟩
  · apply Nat.lt_pow_two_of_testBit
    intro k hk
    by_cases q : k < 32
    · exact h k q hk
    · exact Nat.testBit_lt_two_pow (Nat.lt_of_lt_of_le x.toBitVec.isLt (Nat.pow_le_pow_right (by decide) (by omega)))
  · apply hb_eq
    intro k hk
    show x.toBitVec.toNat.testBit k = (nI x.toBitVec.toNat).toBitVec.toNat.testBit k
    rw [show (nI x.toBitVec.toNat).toBitVec.toNat = x.toBitVec.toNat % 2 ^ 32 from rfl, Nat.mod_eq_of_lt x.toBitVec.isLt]
/-- the class's table is right above m -/
def TOK (cd : Nat → Int32) (n m : Nat) (tab : Nat → Int32) : Prop := ∀ s, m < s → s < 2 ^ n → ∀ v, v < n → s.testBit v = true → tab (s * 9 + v) = nI (RN cd n s v)
theorem e_fillX {cd parts heights gaps behind tab : Nat → Int32} {voices step : Int32} {n : Nat} {post : (Nat → Int32) → (Nat → Int32) → (Nat → Int32) → Prop} (hC : CRg cd) (hn9 : n ≤ 9) (h0 : voices = nI n) (hst : step = cd 19) (hp1 : ∀ j, j < n → parts j = cd (1 + 2 * j)) (hp2 : ∀ j, j < n → heights j = cd (2 + 2 * j)) (hp : ∀ gaps' behind' tab', (∀ a b, a < n → b < 32 → hb (behind' a) b = (decide (b < n) && flw cd a b)) → TOK cd n 0 tab' → post gaps' behind' tab') : q_wk_X5_fill_3_0 gaps behind voices step parts heights tab post := by
  have hpw := pow_b hn9
  have hp0 := Nat.two_pow_pos n
  refine e_measureX hC hn9 h0 hst hp1 hp2 (fun ga be hbe => ?_)
  show q_wk_X5_table_0 _
  refine ⟨fun h => absurd h (by decide), fun _ => ?_⟩
  intro v1 ev1
  rw [h0, sh_pow hn9, show nI (2 ^ n) - 1 = nI (2 ^ n - 1) from pk_sub (b := 1) hp0] at ev1
  subst ev1
  intro P hP
  have loop : ∀ m (tab : Nat → Int32), m < 2 ^ n → TOK cd n m tab → P (nI m) tab := by
    intro m
    induction m with
    | zero =>
      intro tab _ hT
      apply hP
      exact pk_le 0 0 (fun _ => hp ga be tab hbe hT) (fun h => absurd h (by omega))
    | succ m ih =>
      intro tab hm hT
      apply hP
      refine pk_le (m + 1) 0 (fun h => absurd h (by omega)) (fun _ => ?_) rfl rfl (by omega) (by omega)
      intro P2 hP2
      have loop2 : ∀ d v (tab : Nat → Int32), d = n - v → v ≤ n → TOK cd n (m + 1) tab → (∀ w, w < v → (m + 1).testBit w = true → tab ((m + 1) * 9 + w) = nI (RN cd n (m + 1) w)) → P2 (nI v) tab := by
        intro d
        induction d using Nat.strongRecOn with
        | ind d ih2 =>
          intro v tab hd hv hT2 hrow
          apply hP2
          refine pk_le n v (fun h9 w ew => ?_) (fun h9 => ?_) h0
          · rw [ew, pk_m1]
            refine ih tab (by omega) (fun s hs1 hs2 w hw hb1 => ?_)
            by_cases e : s = m + 1
            · subst e
              exact hrow w (by omega) hb1
            · exact hT2 s (by omega) hs2 w hw hb1
          · have nx : ∀ tab' : Nat → Int32, TOK cd n (m + 1) tab' → (∀ w, w < v + 1 → (m + 1).testBit w = true → tab' ((m + 1) * 9 + w) = nI (RN cd n (m + 1) w)) → q_wk_X5_fill_3_87 P P2 ga be voices step parts heights tab' (nI (2 ^ n - 1)) (nI (m + 1)) (nI v) post := by
              intro tab' k1 k2 w ew
              rw [ew, nI_1]
              exact ih2 (n - (v + 1)) (by omega) (v + 1) tab' rfl (by omega) k1 k2
            have put : ∀ y : Int32, (m + 1).testBit v = true → y = nI (RN cd n (m + 1) v) → q_wk_X5_fill_3_86 P P2 ga be voices step parts heights tab (nI (2 ^ n - 1)) (nI (m + 1)) (nI v) ((nI (m + 1) * 9) + nI v) y post := by
              intro y hbv hy
              rw [jx9]
              refine ⟨vp_in_nI (by omega) (by omega), fun tab' et => ?_⟩
              rw [nI_clamp (by omega)] at et
              refine nx tab' (fun s hs1 hs2 w hw hb1 => ?_) (fun w hw hb1 => ?_)
              · rw [et, up_n (by omega)]
                exact hT2 s hs1 hs2 w hw hb1
              · rw [et]
                by_cases e : w = v
                · subst e; rw [up_s, hy]
                · rw [up_n (by omega)]
                  exact hrow w (by omega) hb1
            refine e_hasX (by omega) (fun q => iz (nx tab hT2 (fun w hw hb1 => ?_))) (fun q => oi ⟨fun hne => ⟨vp_in_nI (by omega) (by omega), ?_⟩, fun heq => put 1 ?_ ?_⟩)
            · rw [hb_nI (by omega)] at q
              by_cases e : w = v
              · subst e; rw [q] at hb1; exact absurd hb1 (by decide)
              · exact hrow w (by omega) hb1
            · rw [hb_nI (by omega)] at q
              have hne2 : ¬ m + 1 = 2 ^ n - 1 := fun e => hne (by rw [e])
              rw [nI_clamp (by omega)]
              have hcb : ∀ k, k < 32 → hb (be v &&& (nI (m + 1) ^^^ (-1))) k = ((decide (k < n) && flw cd v k) && !(m + 1).testBit k) := fun k hk => by rw [hb_and, hb_not _ hk, hbe v k h9 hk, hb_nI (by omega)]
              obtain ⟨c, hc, ec⟩ := nI_ofbits (x := be v &&& (nI (m + 1) ^^^ (-1))) hn9 (fun k hk hnk => by rw [hcb k hk, decide_eq_false (by omega)]; rfl)
              have hct : ∀ k, k < n → c.testBit k = (flw cd v k && !(m + 1).testBit k) := fun k hk => by
                rw [← hb_nI (by omega), ← ec, hcb k (by omega), decide_eq_true hk, Bool.true_and]
              rw [ec]
              refine e_waysOnX (g := fun w => RN cd n ((m + 1) ||| 2 ^ w) w) hn9 hm hc rfl rfl (fun w hw hcw => ?_) (put _ q ?_)
              · rw [hct w hw, Bool.and_eq_true, Bool.not_eq_true'] at hcw
                have ho : (m + 1) ||| 2 ^ w < 2 ^ n := Nat.or_lt_two_pow hm (Nat.pow_lt_pow_right (by decide) hw)
                exact hT2 _ (or_gt hcw.2) ho w hw (by rw [Nat.testBit_or, Nat.testBit_two_pow_self, Bool.or_true])
              · rw [RN_rec hn9 hm hne2]
                congr 1
                refine sm_ext n (fun w hw => ?_)
                show (if c.testBit w = true then RN cd n ((m + 1) ||| 2 ^ w) w else 0) = (if (!(m + 1).testBit w && flw cd v w) = true then RN cd n ((m + 1) ||| 2 ^ w) w else 0)
                rw [hct w hw, Bool.and_comm]
            · rw [hb_nI (by omega)] at q
              exact q
            · have e : m + 1 = 2 ^ n - 1 := (nI_eq (by omega) (by omega)).mp heq
              rw [e, RN_full hn9]
              rfl
      exact loop2 _ 0 tab rfl (by omega) hT (fun w hw => absurd hw (Nat.not_lt_zero w))
  exact loop (2 ^ n - 1) tab (by omega) (fun s hs1 hs2 => by omega)
theorem tb1 (v : Nat) : (2 ^ v).testBit v = true := by rw [Nat.testBit_two_pow]; exact decide_eq_true rfl
theorem p_lt {v n : Nat} (h : v < n) : 2 ^ v < 2 ^ n := Nat.pow_lt_pow_right (by decide) h
theorem e_totalX {cd tab : Nat → Int32} {voices : Int32} {n : Nat} {post : Int32 → Prop} (hn9 : n ≤ 9) (h0 : voices = nI n) (hT : TOK cd n 0 tab) (hp : post (nI (ORD cd n))) : q_wk_X5_total_3_0 voices tab post := by
  have hpw := pow_b hn9
  unfold ORD at hp
  refine ⟨fun hne => ⟨fun h => absurd h (by decide), fun _ => ?_⟩, fun heq => ?_⟩
  · rw [h0] at hne
    rw [if_neg (fun e => hne (by rw [e]; rfl))] at hp
    intro P hP
    have loop : ∀ d v, d = n - v → v ≤ n → P (nI (sm (fun v => RN cd n (2 ^ v) v) v)) (nI v) := by
      intro d
      induction d using Nat.strongRecOn with
      | ind d ih =>
        intro v hd hv
        apply hP
        refine pk_le n v (fun h9 => by rw [show v = n by omega]; exact hp) (fun h9 => ?_) h0
        have l := p_lt h9
        have ei : (((1 : Int32) <<< (nI v &&& 31)) * 9) + nI v = nI (2 ^ v * 9 + v) := by rw [sh_pow (by omega), jx9]
        rw [ei]
        refine ⟨vp_in_nI (by omega) (by omega), fun w ew w2 ew2 => ?_⟩
        rw [nI_clamp (by omega), hT (2 ^ v) (Nat.two_pow_pos v) l v h9 (tb1 v), nI_add] at ew
        rw [ew, ew2, nI_1]
        exact ih (n - (v + 1)) (by omega) (v + 1) rfl (by omega)
    exact loop _ 0 rfl (by omega)
  · rw [h0] at heq
    rw [if_pos ((nI_eq (b := 0) (by omega) (by omega)).mp heq)] at hp
    exact hp
end
section
/-- the reference's table is right above m -/
def TOM (cd : Nat → Int32) (n m : Nat) (tab : Nat → Int64) : Prop := ∀ s, m < s → s < 2 ^ n → ∀ v, v < n → tab (9 * s + v) = if s.testBit v = true then lN (RN cd n s v) else 0
theorem chM_row {M : Nat → Nat → Int32} {k j : Nat} (hk : k < 2) : rowM M 3 (nI k) j = M 8 (20 * k + j) := by
  unfold rowM
  rw [nI_clamp (by omega)]
  rfl
theorem CRg_of {M : Nat → Nat → Int32} {k : Nat} (hC : mCho (M 8)) (hk : k < 2) : CRg (rowM M 3 (nI k)) := by
  have g := hC k (by omega)
  refine ⟨by rw [chM_row hk, Nat.add_zero]; exact g.1, by rw [chM_row hk]; exact g.2.1, fun j hj => ?_⟩
  have g2 := g.2.2 j hj
  refine ⟨?_, ?_⟩
  · rw [chM_row hk, show 20 * k + (1 + 2 * j) = 20 * k + 1 + 2 * j by omega]; exact g2.1
  · rw [chM_row hk, show 20 * k + (2 + 2 * j) = 20 * k + 1 + 2 * j + 1 by omega]; exact g2.2
theorem e_voiceM {M : Nat → Nat → Int32} {k j i z : Nat} {x : Int32} {post : Int32 → Prop} (hk : k < 2) (hj : j < 9) (hi : i < 2) (hx : x = nI i) (hz : z = 1 + i + 2 * j) (hp : post (rowM M 3 (nI k) z)) : q_m_voice_0 (M 8) (nI k) (nI j) x post := by
  subst hx hz
  have e : ((((20 : Int32) * nI k) + (1 : Int32)) + ((2 : Int32) * nI j)) + nI i = nI (20 * k + 1 + 2 * j + i) := by
    rw [show (20 : Int32) * nI k = nI (20 * k) from pk_mul 20 k, show (2 : Int32) * nI j = nI (2 * j) from pk_mul 2 j, nI_1, nI_add, nI_add]
  refine ⟨by rw [e]; exact vp_in_nI (by omega) (by omega), ?_⟩
  rw [e, nI_clamp (by omega)]
  rw [chM_row hk, show 20 * k + (1 + i + 2 * j) = 20 * k + 1 + 2 * j + i by omega] at hp
  exact hp
theorem e_stepOfM {M : Nat → Nat → Int32} {k : Nat} {post : Int32 → Prop} (hk : k < 2) (hp : post (rowM M 3 (nI k) 19)) : q_m_stepOf_0 (M 8) (nI k) post := by
  have e : ((20 : Int32) * nI k) + (19 : Int32) = nI (20 * k + 19) := by
    rw [show (20 : Int32) * nI k = nI (20 * k) from pk_mul 20 k, show (19 : Int32) = nI 19 from rfl, nI_add]
  refine ⟨by rw [e]; exact vp_in_nI (by omega) (by omega), ?_⟩
  rw [e, nI_clamp (by omega)]
  rw [chM_row hk] at hp
  exact hp
theorem e_followsM {M : Nat → Nat → Int32} {k a b : Nat} {x3 : Int32} {post : Int32 → Prop} (hk : k < 2) (ha : a < 9) (hb1 : b < 9) (h3 : x3 = rowM M 3 (nI k) 19) (h0 : flw (rowM M 3 (nI k)) a b = false → post 0) (h1 : flw (rowM M 3 (nI k)) a b = true → post 1) : q_m_follows_0 (M 8) (nI k) (nI a) (nI b) x3 post := by
  subst h3
  unfold flw at h0 h1
  refine e_voiceM hk ha (i := 0) (z := 1 + 2 * a) (by omega) rfl (by omega) (e_voiceM hk hb1 (i := 0) (z := 1 + 2 * b) (by omega) rfl (by omega) ⟨fun q => h0 (by rw [decide_eq_true q]; rfl), fun q => ?_⟩)
  rw [decide_eq_false q, Bool.not_false, Bool.true_and] at h0 h1
  refine e_voiceM hk hb1 (i := 1) (z := 2 + 2 * b) (by omega) rfl (by omega) (e_voiceM hk ha (i := 1) (z := 2 + 2 * a) (by omega) rfl (by omega) ⟨fun q2 => h0 (by rw [decide_eq_true q2]; rfl), fun q2 => h1 (by rw [decide_eq_false q2]; rfl)⟩)
theorem e_findRestM {M : Nat → Nat → Int32} {rest : Nat → Int64} {k n : Nat} {voices x1 : Int32} {post : Int64 → (Nat → Int64) → Prop} (hk : k < 2) (hn9 : n ≤ 9) (h0 : voices = nI n) (h1 : x1 = rowM M 3 (nI k) 19) (hp : ∀ rest', TOM (rowM M 3 (nI k)) n 0 rest' → post (lN (ORD (rowM M 3 (nI k)) n)) rest') : q_m_findRest_0 (M 8) (nI k) voices rest x1 post := by
  have hpw := pow_b hn9
  have hp0 := Nat.two_pow_pos n
  intro v1 ev1
  rw [h0, sh_pow hn9, show nI (2 ^ n) - 1 = nI (2 ^ n - 1) from pk_sub (b := 1) hp0] at ev1
  subst ev1
  have tot : ∀ rest' : Nat → Int64, TOM (rowM M 3 (nI k)) n 0 rest' → ∀ (z : Nat), z + sm (fun v => RN (rowM M 3 (nI k)) n (2 ^ v) v) n = ORD (rowM M 3 (nI k)) n → q_m_findRest_155 (M 8) (nI k) voices rest' (lN z) post := by
    intro rest' hT z hz
    intro P hP
    have loop : ∀ d v, d = n - v → v ≤ n → P (lN (z + sm (fun v => RN (rowM M 3 (nI k)) n (2 ^ v) v) v)) (nI v) := by
      intro d
      induction d using Nat.strongRecOn with
      | ind d ih =>
        intro v hd hv
        apply hP
        refine pk_le n v (fun h9 => ?_) (fun h9 => ?_) h0
        · rw [show v = n by omega, hz]
          exact hp rest' hT
        · have l := p_lt h9
          have ei : ((9 : Int32) * ((1 : Int32) <<< (nI v &&& 31))) + nI v = nI (9 * 2 ^ v + v) := by rw [sh_pow (by omega), show (9 : Int32) * nI (2 ^ v) = nI (9 * 2 ^ v) from pk_mul 9 _, nI_add]
          rw [ei]
          refine ⟨vp_in_nI (by omega) (by omega), fun w ew w2 ew2 => ?_⟩
          rw [nI_clamp (by omega), hT (2 ^ v) (Nat.two_pow_pos v) l v h9, if_pos (tb1 v), lN_add] at ew
          rw [ew, ew2, nI_1, Nat.add_assoc]
          exact ih (n - (v + 1)) (by omega) (v + 1) rfl (by omega)
    exact loop _ 0 rfl (by omega)
  intro P hP
  have loop : ∀ m (rest : Nat → Int64), m < 2 ^ n → TOM (rowM M 3 (nI k)) n m rest → P (nI m) rest := by
    intro m
    induction m with
    | zero =>
      intro rest _ hT
      apply hP
      refine pk_le 0 0 (fun _ => ⟨fun hne => ?_, fun heq => ?_⟩) (fun h => absurd h (by omega))
      · rw [h0] at hne
        have hn0 : ¬ n = 0 := fun e => hne (by rw [e]; rfl)
        exact tot rest hT 0 (by unfold ORD; rw [if_neg hn0, Nat.zero_add])
      · rw [h0] at heq
        have hn0 : n = 0 := (nI_eq (b := 0) (by omega) (by omega)).mp heq
        exact tot rest hT 1 (by unfold ORD; rw [if_pos hn0, hn0]; rfl)
    | succ m ih =>
      intro rest hm hT
      apply hP
      refine pk_le (m + 1) 0 (fun h => absurd h (by omega)) (fun _ => ?_) rfl rfl (by omega) (by omega)
      intro P2 hP2
      have loop2 : ∀ d v (rest : Nat → Int64), d = n - v → v ≤ n → TOM (rowM M 3 (nI k)) n (m + 1) rest → (∀ w, w < v → rest (9 * (m + 1) + w) = if (m + 1).testBit w = true then lN (RN (rowM M 3 (nI k)) n (m + 1) w) else 0) → P2 (nI v) rest := by
        intro d
        induction d using Nat.strongRecOn with
        | ind d ih2 =>
          intro v rest hd hv hT2 hrow
          apply hP2
          refine pk_le n v (fun h9 w ew => ?_) (fun h9 => ?_) h0
          · rw [ew, pk_m1]
            refine ih rest (by omega) (fun s hs1 hs2 w hw => ?_)
            by_cases e : s = m + 1
            · subst e
              exact hrow w (by omega)
            · exact hT2 s (by omega) hs2 w hw
          · have put : ∀ y : Int64, y = (if (m + 1).testBit v = true then lN (RN (rowM M 3 (nI k)) n (m + 1) v) else 0) → q_m_findRest_130 P P2 (M 8) (nI k) voices rest x1 (nI (2 ^ n - 1)) (nI (m + 1)) (nI v) (((9 : Int32) * nI (m + 1)) + nI v) y post := by
              intro y hy
              have ei : ((9 : Int32) * nI (m + 1)) + nI v = nI (9 * (m + 1) + v) := by rw [show (9 : Int32) * nI (m + 1) = nI (9 * (m + 1)) from pk_mul 9 _, nI_add]
              rw [ei]
              refine ⟨vp_in_nI (by omega) (by omega), fun r1 er w ew => ?_⟩
              rw [nI_clamp (by omega)] at er
              rw [ew, nI_1]
              refine ih2 (n - (v + 1)) (by omega) (v + 1) r1 rfl (by omega) (fun s hs1 hs2 w hw => ?_) (fun w hw => ?_)
              · rw [er, pk_uLn (by omega)]
                exact hT2 s hs1 hs2 w hw
              · rw [er]
                by_cases e : w = v
                · subst e; rw [pk_uLs, hy]
                · rw [pk_uLn (by omega)]
                  exact hrow w (by omega)
            have sums : ∀ z : Nat, z + (sm (fun w => if (!(m + 1).testBit w && flw (rowM M 3 (nI k)) v w) = true then RN (rowM M 3 (nI k)) n ((m + 1) ||| 2 ^ w) w else 0) n) = RN (rowM M 3 (nI k)) n (m + 1) v → q_m_findRest_37 P P2 (M 8) (nI k) voices rest x1 (nI (2 ^ n - 1)) (nI (m + 1)) (nI v) (lN z) post := by
              intro z hz P3 hP3
              have lw : ∀ d w, d = n - w → w ≤ n → P3 (lN (z + sm (fun w => if (!(m + 1).testBit w && flw (rowM M 3 (nI k)) v w) = true then RN (rowM M 3 (nI k)) n ((m + 1) ||| 2 ^ w) w else 0) w)) (nI w) := by
                intro d
                induction d using Nat.strongRecOn with
                | ind d ih3 =>
                  intro w hd3 hw
                  apply hP3
                  refine pk_le n w (fun h8 => ?_) (fun h8 => ?_) h0
                  · rw [show w = n by omega, hz]
                    refine e_hasM (by omega) (fun q => iz (put 0 ?_)) (fun q => oi (put _ ?_))
                    · rw [hb_nI (by omega)] at q
                      rw [if_neg (by rw [q]; decide)]
                    · rw [hb_nI (by omega)] at q
                      rw [if_pos q]
                  · have e : sm (fun w => if (!(m + 1).testBit w && flw (rowM M 3 (nI k)) v w) = true then RN (rowM M 3 (nI k)) n ((m + 1) ||| 2 ^ w) w else 0) (w + 1) = sm (fun w => if (!(m + 1).testBit w && flw (rowM M 3 (nI k)) v w) = true then RN (rowM M 3 (nI k)) n ((m + 1) ||| 2 ^ w) w else 0) w + (if (!(m + 1).testBit w && flw (rowM M 3 (nI k)) v w) = true then RN (rowM M 3 (nI k)) n ((m + 1) ||| 2 ^ w) w else 0) := rfl
                    have nx : ∀ y : Nat, y = (if (!(m + 1).testBit w && flw (rowM M 3 (nI k)) v w) = true then RN (rowM M 3 (nI k)) n ((m + 1) ||| 2 ^ w) w else 0) → q_m_findRest_95 P P2 P3 (M 8) (nI k) voices rest x1 (nI (2 ^ n - 1)) (nI (m + 1)) (nI v) (nI w) (lN (z + sm (fun w => if (!(m + 1).testBit w && flw (rowM M 3 (nI k)) v w) = true then RN (rowM M 3 (nI k)) n ((m + 1) ||| 2 ^ w) w else 0) w)) (lN y) post := by
                      intro y hy u1 eu1 u2 eu2
                      rw [eu1, eu2, nI_1, lN_add, hy, Nat.add_assoc, ← e]
                      exact ih3 (n - (w + 1)) (by omega) (w + 1) rfl (by omega)
                    refine e_hasM (by omega) (fun q => zi (e_followsM hk (by omega) (by omega) h1 (fun f0 => iz (nx 0 ?_)) (fun f1 => oi ?_))) (fun q => io (nx 0 ?_))
                    · rw [if_neg (by rw [f0, Bool.and_false]; decide)]
                    · rw [hb_nI (by omega)] at q
                      have ho : (m + 1) ||| 2 ^ w < 2 ^ n := Nat.or_lt_two_pow hm (p_lt h8)
                      have ei : ((9 : Int32) * (nI (m + 1) ||| ((1 : Int32) <<< (nI w &&& 31)))) + nI w = nI (9 * ((m + 1) ||| 2 ^ w) + w) := by
                        rw [show nI (m + 1) ||| ((1 : Int32) <<< (nI w &&& 31)) = nI ((m + 1) ||| 2 ^ w) from or_nI (by omega) (by omega), show (9 : Int32) * nI ((m + 1) ||| 2 ^ w) = nI (9 * ((m + 1) ||| 2 ^ w)) from pk_mul 9 _, nI_add]
                      rw [ei]
                      refine ⟨vp_in_nI (by omega) (by omega), ?_⟩
                      rw [nI_clamp (by omega), hT2 _ (or_gt q) ho w h8, if_pos (by rw [Nat.testBit_or, Nat.testBit_two_pow_self, Bool.or_true])]
                      exact nx _ (by rw [if_pos (by rw [q, f1]; rfl)])
                    · rw [hb_nI (by omega)] at q
                      rw [if_neg (by rw [q]; simp)]
              exact lw _ 0 rfl (by omega)
            refine ⟨fun hne => ?_, fun heq => ?_⟩
            · have hne2 : ¬ m + 1 = 2 ^ n - 1 := fun e => hne (by rw [e])
              exact sums 0 (by rw [Nat.zero_add, RN_rec hn9 hm hne2])
            · have e : m + 1 = 2 ^ n - 1 := (nI_eq (by omega) (by omega)).mp heq
              refine sums 1 ?_
              rw [e, RN_full hn9, sm_z n (fun w hw => by
                show (if (!(2 ^ n - 1).testBit w && flw (rowM M 3 (nI k)) v w) = true then RN (rowM M 3 (nI k)) n ((2 ^ n - 1) ||| 2 ^ w) w else 0) = 0
                rw [if_neg (by rw [Nat.testBit_two_pow_sub_one, decide_eq_true hw]; simp)])]
      exact loop2 _ 0 rest rfl (by omega) hT (fun w hw => absurd hw (Nat.not_lt_zero w))
  exact loop (2 ^ n - 1) rest (by omega) (fun s hs1 hs2 => by omega)
def AN_orders (M : Nat → Nat → Int32) (a : Int32) : Int64 := if 0 ≤ a ∧ a < M 4 3 then lN (ORD (rowM M 3 a) (cN (rowM M 3 a 0))) else -1
set_option maxRecDepth 40000 in
set_option maxHeartbeats 4000000 in
theorem e_m_orders {M : Nat → Nat → Int32} {f_code f_choir f_voices a : Int32} {rest : Nat → Int64} {post : Int64 → Int32 → Int32 → Int32 → (Nat → Int64) → Prop} (hc : ∀ o, iv 0 2 (M 4 o)) (hC : mCho (M 8)) (hp : ∀ z0 z1 z2 z3, post (AN_orders M a) z0 z1 z2 z3) : q_m_orders_0 f_code (M 4) (M 8) f_choir f_voices rest a post := by
  unfold AN_orders at hp
  refine e_is (o := 3) (by decide) (hc 3) (fun hn => zi (iz ?_)) (fun hy => io ?_)
  · rw [if_neg hn] at hp; exact hp _ _ _ _
  · rw [if_pos hy] at hp
    obtain ⟨k, hk, ea⟩ := lt_nI (m := 2) (hc 3) hy
    subst ea
    have hR := CRg_of hC hk
    obtain ⟨n, hn, -, hn9, -⟩ := iv_nI hR.1 (by decide)
    have e : (20 : Int32) * nI k = nI (20 * k) := pk_mul 20 k
    rw [hn, cN_nI (by omega)] at hp
    rw [e]
    refine ⟨vp_in_nI (by omega) (by omega), fun v ev => ?_⟩
    rw [nI_clamp (by omega)] at ev
    have ev2 : v = nI n := by rw [ev, ← hn, chM_row hk, Nat.add_zero]
    exact oi (e_stepOfM hk (e_findRestM hk (by omega) ev2 rfl (fun rest' _ => hp _ _ _ _)))
end
section
/-- the first that does -/
def ff (p : Nat → Bool) : Nat → Nat
  | 0 => 0
  | m + 1 => if ff p m < m then ff p m else if p m = true then m else m + 1
theorem ff_ok {p : Nat → Bool} : ∀ m, (ff p m = m ∧ ∀ u, u < m → p u = false) ∨ (ff p m < m ∧ p (ff p m) = true ∧ ∀ u, u < ff p m → p u = false)
  | 0 => Or.inl ⟨rfl, fun u hu => absurd hu (Nat.not_lt_zero u)⟩
  | m + 1 => by
    have e : ff p (m + 1) = if ff p m < m then ff p m else if p m = true then m else m + 1 := rfl
    rcases ff_ok (p := p) m with ⟨h1, h2⟩ | ⟨h1, h2, h3⟩
    · rw [e, if_neg (by omega)]
      by_cases q : p m = true
      · rw [if_pos q]
        exact Or.inr ⟨by omega, q, h2⟩
      · rw [if_neg q]
        refine Or.inl ⟨rfl, fun u hu => ?_⟩
        by_cases e2 : u = m
        · subst e2; rw [← Bool.not_eq_true]; exact q
        · exact h2 u (by omega)
    · rw [e, if_pos h1]
      exact Or.inr ⟨by omega, h2, h3⟩
theorem ff_ex {p : Nat → Bool} {m : Nat} (h : ∃ v, v < m ∧ p v = true) : ff p m < m ∧ p (ff p m) = true ∧ ∀ u, u < ff p m → p u = false := by
  rcases ff_ok (p := p) m with ⟨_, h2⟩ | h2
  · obtain ⟨v, hv, hp⟩ := h
    rw [h2 v hv] at hp
    exact absurd hp (by decide)
  · exact h2
/-- whether v may stand next -/
def okV (cd : Nat → Int32) (n j s last v : Nat) : Bool := !s.testBit v && ((decide (j = 0) || flw cd last v) && decide (¬ RN cd n (s ||| 2 ^ v) v = 0))
def oa (cd : Nat → Int32) (n : Nat) : Nat → Nat × Nat
  | 0 => (0, 0)
  | j + 1 => ((oa cd n j).1 ||| 2 ^ ff (okV cd n j (oa cd n j).1 (oa cd n j).2) n, ff (okV cd n j (oa cd n j).1 (oa cd n j).2) n)
theorem cS_full {n : Nat} (hn : n ≤ 9) : cS (nI (2 ^ n - 1)) = n := by
  have hp := Nat.two_pow_pos n
  have c := cntB_cut (p := hb (nI (2 ^ n - 1))) (n := n) (fun k hk => hb_lo (s := 2 ^ n - 1) (by omega) hn hk) (9 - n)
  rw [show n + (9 - n) = 9 by omega] at c
  unfold cS
  rw [c]
  have full : ∀ m, m ≤ n → cntB (hb (nI (2 ^ n - 1))) m = m := by
    intro m
    induction m with
    | zero => intro _; rfl
    | succ m ih =>
      intro hm
      show cntB (hb (nI (2 ^ n - 1))) m + (if hb (nI (2 ^ n - 1)) m = true then 1 else 0) = m + 1
      rw [ih (by omega), if_pos (full_bit hn (by omega))]
  exact full n (Nat.le_refl n)
def oI (cd : Nat → Int32) (n j : Nat) : Prop := (oa cd n j).1 < 2 ^ n ∧ cS (nI (oa cd n j).1) = j ∧ (0 < j → (oa cd n j).2 < n ∧ ¬ RN cd n (oa cd n j).1 (oa cd n j).2 = 0)
theorem oa_next {cd : Nat → Int32} {n j : Nat} (hn : n ≤ 9) (hO : ¬ ORD cd n = 0) (hj : j < n) (hI : oI cd n j) : ff (okV cd n j (oa cd n j).1 (oa cd n j).2) n < n ∧ okV cd n j (oa cd n j).1 (oa cd n j).2 (ff (okV cd n j (oa cd n j).1 (oa cd n j).2) n) = true ∧ ∀ u, u < ff (okV cd n j (oa cd n j).1 (oa cd n j).2) n → okV cd n j (oa cd n j).1 (oa cd n j).2 u = false := by
  obtain ⟨i1, i2, i3⟩ := hI
  apply ff_ex
  by_cases q : j = 0
  · subst q
    unfold ORD at hO
    rw [if_neg (by omega)] at hO
    obtain ⟨v, hv, g⟩ := sm_ex n (Nat.pos_of_ne_zero hO)
    refine ⟨v, hv, ?_⟩
    show (!(0 : Nat).testBit v && ((decide ((0 : Nat) = 0) || flw cd 0 v) && decide (¬ RN cd n (0 ||| 2 ^ v) v = 0))) = true
    rw [Nat.zero_testBit, decide_eq_true (rfl : (0 : Nat) = 0), Nat.zero_or, decide_eq_true (show ¬ RN cd n (2 ^ v) v = 0 by omega)]
    rfl
  · obtain ⟨l1, l2⟩ := i3 (by omega)
    have hne : ¬ (oa cd n j).1 = 2 ^ n - 1 := fun e => by
      rw [e, cS_full hn] at i2
      omega
    rw [RN_rec hn i1 hne] at l2
    obtain ⟨v, hv, g⟩ := sm_ex n (Nat.pos_of_ne_zero l2)
    by_cases q2 : (!(oa cd n j).1.testBit v && flw cd (oa cd n j).2 v) = true
    · rw [if_pos q2] at g
      rw [Bool.and_eq_true] at q2
      refine ⟨v, hv, ?_⟩
      unfold okV
      rw [q2.1, q2.2, Bool.or_true, decide_eq_true (show ¬ RN cd n ((oa cd n j).1 ||| 2 ^ v) v = 0 by omega)]
      rfl
    · rw [if_neg q2] at g
      exact absurd g (Nat.lt_irrefl 0)
theorem oa_I {cd : Nat → Int32} {n : Nat} (hn : n ≤ 9) (hO : ¬ ORD cd n = 0) : ∀ j, j ≤ n → oI cd n j
  | 0, _ => ⟨Nat.two_pow_pos n, by
    show cntB (hb (nI 0)) 9 = 0
    have z : ∀ m, cntB (hb (nI 0)) m = 0 := by
      intro m
      induction m with
      | zero => rfl
      | succ m ih =>
        show cntB (hb (nI 0)) m + (if hb (nI 0) m = true then 1 else 0) = 0
        rw [ih, show hb (nI 0) m = false from hb_0 m]
        rfl
    exact z 9, fun h => absurd h (Nat.lt_irrefl 0)⟩
  | j + 1, hj => by
    have hI := oa_I hn hO j (by omega)
    obtain ⟨f1, f2, _⟩ := oa_next hn hO (by omega) hI
    unfold okV at f2
    rw [Bool.and_eq_true, Bool.and_eq_true, Bool.not_eq_true'] at f2
    refine ⟨Nat.or_lt_two_pow hI.1 (p_lt f1), ?_, fun _ => ⟨f1, of_decide_eq_true f2.2.2⟩⟩
    show cS (nI ((oa cd n j).1 ||| 2 ^ ff (okV cd n j (oa cd n j).1 (oa cd n j).2) n)) = j + 1
    rw [cS_or hn hI.1 f1 f2.1, hI.2.1]
def ORA (cd : Nat → Int32) (n : Nat) (x : Nat) : Int32 := if ORD cd n = 0 then -1 else nI (oa cd n (x + 1)).2
def AN_order (M : Nat → Nat → Int32) (a b : Int32) : Int32 := if 0 ≤ a ∧ a < M 4 3 then (if 0 ≤ b ∧ b < rowM M 3 a 0 then ORA (rowM M 3 a) (cN (rowM M 3 a 0)) (cN b) else -1) else -1
theorem e_firstX {cd tab : Nat → Int32} {n j c : Nat} {x1 x2 : Int32} {post : Int32 → Prop} (hn : n ≤ 9) (hO : ¬ ORD cd n = 0) (hj : j < n) (hT : TOK cd n 0 tab) (e1 : x1 = nI (oa cd n j).1) (e2 : x2 = nI c) (hc : c < 2 ^ n) (hcb : ∀ v, v < n → c.testBit v = (!(oa cd n j).1.testBit v && (decide (j = 0) || flw cd (oa cd n j).2 v))) (hp : post (nI (ff (okV cd n j (oa cd n j).1 (oa cd n j).2) n))) : q_wk_X5_firstOf_0 tab x1 x2 post := by
  subst e1 e2
  have hpw := pow_b hn
  have hI := oa_I hn hO j (by omega)
  obtain ⟨f1, f2, f3⟩ := oa_next hn hO hj hI
  refine ⟨fun h => absurd h (by decide), fun _ => ?_⟩
  intro P hP
  have loop : ∀ d v, d = ff (okV cd n j (oa cd n j).1 (oa cd n j).2) n - v → v ≤ ff (okV cd n j (oa cd n j).1 (oa cd n j).2) n → P (nI v) := by
    intro d
    induction d using Nat.strongRecOn with
    | ind d ih =>
      intro v hd hv
      apply hP
      refine pk_le 9 v (fun h9 => absurd h9 (by omega)) (fun h9 => ?_)
      have hvn : v < n := by omega
      have nx : okV cd n j (oa cd n j).1 (oa cd n j).2 v = false → q_wk_X5_firstOf_44 P tab (nI (oa cd n j).1) (nI c) (nI v) post := by
        intro h w ew
        rw [ew, nI_1]
        have hne : ¬ v = ff (okV cd n j (oa cd n j).1 (oa cd n j).2) n := fun e => by
          rw [← e] at f2
          rw [h] at f2
          exact absurd f2 (by decide)
        exact ih _ (by omega) (v + 1) rfl (by omega)
      refine e_hasX (by omega) (fun q => iz (nx ?_)) (fun q => oi ?_)
      · rw [hb_nI (by omega), hcb v hvn] at q
        unfold okV
        rw [← Bool.and_assoc, q, Bool.false_and]
      · rw [hb_nI (by omega), hcb v hvn] at q
        have q2 := q
        rw [Bool.and_eq_true, Bool.not_eq_true'] at q2
        have ho : (oa cd n j).1 ||| 2 ^ v < 2 ^ n := Nat.or_lt_two_pow hI.1 (p_lt hvn)
        have ei : ((nI (oa cd n j).1 ||| ((1 : Int32) <<< (nI v &&& 31))) * 9) + nI v = nI (((oa cd n j).1 ||| 2 ^ v) * 9 + v) := by
          rw [show nI (oa cd n j).1 ||| ((1 : Int32) <<< (nI v &&& 31)) = nI ((oa cd n j).1 ||| 2 ^ v) from or_nI (by have := hI.1; omega) (by omega), jx9]
        rw [ei]
        have gt := or_gt q2.1
        have rb := RN_b (cd := cd) (s := (oa cd n j).1 ||| 2 ^ v) (v := v) hn (by rw [cS_or hn hI.1 hvn q2.1]; omega)
        have et := hT _ (by omega) ho v hvn (by rw [Nat.testBit_or, Nat.testBit_two_pow_self, Bool.or_true])
        refine ⟨vp_in_nI (by omega) (by omega), ?_⟩
        rw [nI_clamp (by omega), et]
        refine pk_le (RN cd n ((oa cd n j).1 ||| 2 ^ v) v) 0 (fun h => nx ?_) (fun h => ?_) rfl rfl (by omega) (by omega)
        · unfold okV
          rw [decide_eq_false (show ¬ ¬ RN cd n ((oa cd n j).1 ||| 2 ^ v) v = 0 by omega), Bool.and_false, Bool.and_false]
        · have hy : okV cd n j (oa cd n j).1 (oa cd n j).2 v = true := by
            unfold okV
            rw [← Bool.and_assoc, q, decide_eq_true (show ¬ RN cd n ((oa cd n j).1 ||| 2 ^ v) v = 0 by omega)]
            rfl
          have e : v = ff (okV cd n j (oa cd n j).1 (oa cd n j).2) n := by
            apply Classical.byContradiction
            intro hne
            rw [f3 v (by omega)] at hy
            exact absurd hy (by decide)
          rw [e]
          exact hp
  exact loop _ 0 rfl (Nat.zero_le _)
theorem e_voiceAtX {cd behind tab : Nat → Int32} {n x : Nat} {voices x2 : Int32} {post : Int32 → Prop} (hn : n ≤ 9) (hO : ¬ ORD cd n = 0) (hx : x < n) (h0 : voices = nI n) (e2 : x2 = nI x) (hT : TOK cd n 0 tab) (hbe : ∀ a b, a < n → b < 32 → hb (behind a) b = (decide (b < n) && flw cd a b)) (hp : post (nI (oa cd n (x + 1)).2)) : q_wk_X5_voiceAt_3_0 behind voices tab x2 post := by
  have hpw := pow_b hn
  have hp0 := Nat.two_pow_pos n
  subst e2
  intro v1 ev1
  rw [h0, sh_pow hn, show nI (2 ^ n) - 1 = nI (2 ^ n - 1) from pk_sub (b := 1) hp0] at ev1
  subst ev1
  intro P hP
  have loop : ∀ d j (c : Nat) (l : Int32), d = x + 1 - j → j ≤ x + 1 → c < 2 ^ n → (∀ v, v < n → c.testBit v = (!(oa cd n j).1.testBit v && (decide (j = 0) || flw cd (oa cd n j).2 v))) → (0 < j → l = nI (oa cd n j).2) → P (nI (oa cd n j).1) (nI c) l (nI j) := by
    intro d
    induction d using Nat.strongRecOn with
    | ind d ih =>
      intro j c l hd hj hc hcb hl
      apply hP
      refine pk_lt x j (fun h9 => ?_) (fun h9 => ?_) rfl rfl (by omega) (by omega)
      · have e : j = x + 1 := by omega
        subst e
        rw [hl (by omega)]
        exact hp
      · have hI := oa_I hn hO j (by omega)
        obtain ⟨f1, f2, _⟩ := oa_next hn hO (by omega) hI
        have hI2 := oa_I hn hO (j + 1) (by omega)
        refine e_firstX hn hO (by omega) hT rfl rfl hc hcb ⟨fun _ w1 ew1 => ⟨vp_in_nI (by omega) (by omega), fun w2 ew2 w3 ew3 => ?_⟩, fun h => absurd h (nIm1' (by omega))⟩
        have e1 : w1 = nI (oa cd n (j + 1)).1 := by
          rw [ew1]
          exact or_nI (by have := hI.1; omega) (by omega)
        have l2 : (oa cd n (j + 1)).2 = ff (okV cd n j (oa cd n j).1 (oa cd n j).2) n := rfl
        have hb2 : ∀ k, k < 32 → hb (behind (ff (okV cd n j (oa cd n j).1 (oa cd n j).2) n) &&& (nI (oa cd n (j + 1)).1 ^^^ (-1))) k = ((decide (k < n) && flw cd (ff (okV cd n j (oa cd n j).1 (oa cd n j).2) n) k) && !(oa cd n (j + 1)).1.testBit k) := fun k hk => by rw [hb_and, hb_not _ hk, hbe _ k f1 hk, hb_nI (by have := hI2.1; omega)]
        obtain ⟨c2, hc2, ec2⟩ := nI_ofbits (x := behind (ff (okV cd n j (oa cd n j).1 (oa cd n j).2) n) &&& (nI (oa cd n (j + 1)).1 ^^^ (-1))) hn (fun k hk hnk => by rw [hb2 k hk, decide_eq_false (by omega)]; rfl)
        rw [nI_clamp (by omega), e1, ec2] at ew2
        rw [e1, ew2, ew3, nI_1]
        refine ih _ (by omega) (j + 1) c2 _ rfl (by omega) hc2 (fun v hv => ?_) (fun _ => rfl)
        rw [← hb_nI (by omega), ← ec2, hb2 v (by omega), decide_eq_true hv, Bool.true_and, decide_eq_false (show ¬ j + 1 = 0 by omega), Bool.false_or, l2, Bool.and_comm]
  refine loop _ 0 (2 ^ n - 1) (-1) rfl (by omega) (by omega) (fun v hv => ?_) (fun h => absurd h (Nat.lt_irrefl 0))
  show (2 ^ n - 1).testBit v = (!(0 : Nat).testBit v && (decide ((0 : Nat) = 0) || flw cd 0 v))
  rw [Nat.testBit_two_pow_sub_one, decide_eq_true hv, Nat.zero_testBit]
  rfl
end
section
set_option maxRecDepth 40000 in
set_option maxHeartbeats 4000000 in
theorem e_m_order {M : Nat → Nat → Int32} {f_code f_choir f_voices a b : Int32} {rest : Nat → Int64} {post : Int32 → Int32 → Int32 → Int32 → (Nat → Int64) → Prop} (hc : ∀ o, iv 0 2 (M 4 o)) (hC : mCho (M 8)) (hp : ∀ z0 z1 z2 z3, post (AN_order M a b) z0 z1 z2 z3) : q_m_order_0 f_code (M 4) (M 8) f_choir f_voices rest a b post := by
  unfold AN_order at hp
  refine e_is (o := 3) (by decide) (hc 3) (fun hn => zi (iz ?_)) (fun hy => io ?_)
  · rw [if_neg hn] at hp; exact hp _ _ _ _
  rw [if_pos hy] at hp
  obtain ⟨k, hk, ea⟩ := lt_nI (m := 2) (hc 3) hy
  subst ea
  have hR := CRg_of hC hk
  obtain ⟨n, hn, -, hn9, -⟩ := iv_nI hR.1 (by decide)
  have hn9' : n ≤ 9 := by omega
  have hpw := pow_b hn9'
  have e : (20 : Int32) * nI k = nI (20 * k) := pk_mul 20 k
  rw [hn, cN_nI (by omega)] at hp
  rw [e]
  refine ⟨vp_in_nI (by omega) (by omega), fun v ev => ?_⟩
  rw [nI_clamp (by omega)] at ev
  have ev2 : v = nI n := by rw [ev, ← hn, chM_row hk, Nat.add_zero]
  subst ev2
  have hi : iv 0 1000 (nI n) := iv_ofN (by omega) (by omega) (by omega)
  refine oi (sp_in (fun h => iz ?_) (fun g1 g2 => oi (e_stepOfM hk (e_findRestM hk hn9' rfl rfl (fun rest' hT => ⟨fun hne => ?_, fun heq => ?_⟩)))))
  · rw [if_neg (fun h9 => h ((in_lt hi).mpr h9))] at hp; exact hp _ _ _ _
  · have hlt := (in_lt hi).mp ⟨g1, g2⟩
    rw [if_pos hlt] at hp
    obtain ⟨x, hx, ex⟩ := lt_nI (m := 9) (iv_ofN (l := 0) (h := 9) (by omega) (by omega) (by omega)) hlt
    subst ex
    have hxn : x < n := (nI_ltI (by omega) (by omega)).mp hlt.2
    have hO : ¬ ORD (rowM M 3 (nI k)) n = 0 := fun e0 => hne (by rw [e0]; exact (lg_cmp_eq _ _).mpr rfl)
    unfold ORA at hp
    rw [if_neg hO, cN_nI (by omega)] at hp
    intro P hP
    have loop : ∀ d j (l : Int32), d = x + 1 - j → j ≤ x + 1 → (j = 0 → l = -1) → (0 < j → l = nI (oa (rowM M 3 (nI k)) n j).2) → P (nI (oa (rowM M 3 (nI k)) n j).1) l (nI j) := by
      intro d
      induction d using Nat.strongRecOn with
      | ind d ih =>
        intro j l hd hj hl0 hl
        apply hP
        refine pk_lt x j (fun h9 => ?_) (fun h9 => ?_) rfl rfl (by omega) (by omega)
        · have ej : j = x + 1 := by omega
          subst ej
          rw [hl (by omega)]
          exact hp _ _ _ _
        · have hI := oa_I hn9' hO j (by omega)
          obtain ⟨f1, f2, f3⟩ := oa_next hn9' hO (by omega) hI
          intro P2 hP2
          have lv : ∀ d v, d = ff (okV (rowM M 3 (nI k)) n j (oa (rowM M 3 (nI k)) n j).1 (oa (rowM M 3 (nI k)) n j).2) n - v → v ≤ ff (okV (rowM M 3 (nI k)) n j (oa (rowM M 3 (nI k)) n j).1 (oa (rowM M 3 (nI k)) n j).2) n → P2 (nI v) := by
            intro d
            induction d using Nat.strongRecOn with
            | ind d ih2 =>
              intro v hd2 hv
              apply hP2
              have hvn : v < n := by omega
              have nx : okV (rowM M 3 (nI k)) n j (oa (rowM M 3 (nI k)) n j).1 (oa (rowM M 3 (nI k)) n j).2 v = false → q_m_order_111 P P2 0 (M 4) (M 8) (nI k) (nI n) rest' (nI x) (nI (oa (rowM M 3 (nI k)) n j).1) l (nI j) (nI v) post := by
                intro h w ew
                rw [ew, nI_1]
                have hne : ¬ v = ff (okV (rowM M 3 (nI k)) n j (oa (rowM M 3 (nI k)) n j).1 (oa (rowM M 3 (nI k)) n j).2) n := fun e => by
                  rw [← e] at f2
                  rw [h] at f2
                  exact absurd f2 (by decide)
                exact ih2 _ (by omega) (v + 1) rfl (by omega)
              have try_ : (!(oa (rowM M 3 (nI k)) n j).1.testBit v && (decide (j = 0) || flw (rowM M 3 (nI k)) (oa (rowM M 3 (nI k)) n j).2 v)) = true → q_m_order_89 P P2 0 (M 4) (M 8) (nI k) (nI n) rest' (nI x) (nI (oa (rowM M 3 (nI k)) n j).1) l (nI j) (nI v) post := by
                intro q
                have q2 := q
                rw [Bool.and_eq_true, Bool.not_eq_true'] at q2
                have ho : (oa (rowM M 3 (nI k)) n j).1 ||| 2 ^ v < 2 ^ n := Nat.or_lt_two_pow hI.1 (p_lt hvn)
                have ei : ((9 : Int32) * (nI (oa (rowM M 3 (nI k)) n j).1 ||| ((1 : Int32) <<< (nI v &&& 31)))) + nI v = nI (9 * ((oa (rowM M 3 (nI k)) n j).1 ||| 2 ^ v) + v) := by
                  rw [show nI (oa (rowM M 3 (nI k)) n j).1 ||| ((1 : Int32) <<< (nI v &&& 31)) = nI ((oa (rowM M 3 (nI k)) n j).1 ||| 2 ^ v) from or_nI (by have := hI.1; omega) (by omega), show (9 : Int32) * nI ((oa (rowM M 3 (nI k)) n j).1 ||| 2 ^ v) = nI (9 * ((oa (rowM M 3 (nI k)) n j).1 ||| 2 ^ v)) from pk_mul 9 _, nI_add]
                have gt := or_gt q2.1
                have rb := RN_b (cd := rowM M 3 (nI k)) (s := (oa (rowM M 3 (nI k)) n j).1 ||| 2 ^ v) (v := v) hn9' (by rw [cS_or hn9' hI.1 hvn q2.1]; omega)
                have et := hT _ (by omega) ho v hvn
                rw [if_pos (by rw [Nat.testBit_or, Nat.testBit_two_pow_self, Bool.or_true])] at et
                have l0 : ∀ z : Nat, z ≤ 43046721 → (lg_cmp (lN z) 0 = 0 ↔ z = 0) := fun z hz => (lg_cmp_eq (lN z) 0).trans (lN_eq (a := z) (b := 0) (by omega) (by omega))
                show vp_in (((9 : Int32) * (nI (oa (rowM M 3 (nI k)) n j).1 ||| ((1 : Int32) <<< (nI v &&& 31)))) + nI v) 4608 ∧ _
                refine ⟨by rw [ei]; exact vp_in_nI (by omega) (by omega), ?_⟩
                rw [ei, nI_clamp (by omega), et]
                refine ⟨fun h w1 ew1 w2 ew2 => ?_, fun h => nx ?_⟩
                · have hy : okV (rowM M 3 (nI k)) n j (oa (rowM M 3 (nI k)) n j).1 (oa (rowM M 3 (nI k)) n j).2 v = true := by
                    unfold okV
                    rw [← Bool.and_assoc, q, decide_eq_true (show ¬ RN (rowM M 3 (nI k)) n ((oa (rowM M 3 (nI k)) n j).1 ||| 2 ^ v) v = 0 from fun e0 => h ((l0 _ rb).mpr e0))]
                    rfl
                  have ev : v = ff (okV (rowM M 3 (nI k)) n j (oa (rowM M 3 (nI k)) n j).1 (oa (rowM M 3 (nI k)) n j).2) n := by
                    apply Classical.byContradiction
                    intro hne
                    rw [f3 v (by omega)] at hy
                    exact absurd hy (by decide)
                  have e1 : w1 = nI (oa (rowM M 3 (nI k)) n (j + 1)).1 := by
                    rw [ew1, ev]
                    exact or_nI (by have := hI.1; omega) (by omega)
                  rw [e1, ew2, nI_1]
                  exact ih _ (by omega) (j + 1) (nI v) rfl (by omega) (fun h => absurd h (by omega)) (fun _ => by rw [ev]; rfl)
                · unfold okV
                  rw [decide_eq_false (show ¬ ¬ RN (rowM M 3 (nI k)) n ((oa (rowM M 3 (nI k)) n j).1 ||| 2 ^ v) v = 0 from fun h9 => h9 ((l0 _ rb).mp h)), Bool.and_false, Bool.and_false]
              refine e_hasM (by omega) (fun q => zi ⟨fun hm1 => ?_, fun hm1 => ?_⟩) (fun q => io (nx ?_))
              · rw [hb_nI (by have := hI.1; omega)] at q
                have j0 : j = 0 := by
                  apply Classical.byContradiction
                  intro h
                  rw [hl (by omega)] at hm1
                  have := hI.2.2 (by omega)
                  exact nIm1' (by omega) hm1
                exact try_ (by rw [q, decide_eq_true j0]; rfl)
              · rw [hb_nI (by have := hI.1; omega)] at q
                have j0 : ¬ j = 0 := fun h => hm1 (hl0 h)
                have li := hI.2.2 (by omega)
                refine e_stepOfM hk ?_
                rw [hl (by omega)]
                refine e_followsM hk (by omega) (by omega) rfl (fun f0 => iz ?_) (fun f1 => oi ?_)
                · have h := nx (by
                    unfold okV
                    rw [f0, decide_eq_false j0]
                    simp)
                  rw [hl (by omega)] at h
                  exact h
                · have h := try_ (by rw [q, f1, Bool.or_true]; rfl)
                  rw [hl (by omega)] at h
                  exact h
              · rw [hb_nI (by have := hI.1; omega)] at q
                unfold okV
                rw [q]
                simp
          exact lv _ 0 rfl (Nat.zero_le _)
    exact loop _ 0 (-1) rfl (by omega) (fun _ => rfl) (fun h => absurd h (Nat.lt_irrefl 0))
  · have hlt := (in_lt hi).mp ⟨g1, g2⟩
    rw [if_pos hlt] at hp
    have hO : ORD (rowM M 3 (nI k)) n = 0 := by
      have h1 := (lg_cmp_eq _ _).mp heq
      have rb : ORD (rowM M 3 (nI k)) n < 2 ^ 31 := by
        unfold ORD
        split
        · omega
        · have g := sm_le (g := fun v => RN (rowM M 3 (nI k)) n (2 ^ v) v) (c := 43046721) n (fun v hv => by
            have c1 := cS_or (s := 0) (v := v) hn9' (Nat.two_pow_pos n) hv (Nat.zero_testBit v)
            rw [Nat.zero_or] at c1
            exact RN_b hn9' (by omega))
          omega
      exact (lN_eq (b := 0) rb (by omega)).mp h1
    unfold ORA at hp
    rw [if_pos hO] at hp
    exact hp _ _ _ _
end
section
theorem i2l {z : Nat} (h : z < 2 ^ 31) : Int32.toInt64 (nI z) = lN z := Int64.toInt_inj.mp (by rw [Int32.toInt_toInt64, nI_toInt h, lN_toInt h])
theorem ORD_b {cd : Nat → Int32} {n : Nat} (hn : n ≤ 9) : ORD cd n < 2 ^ 31 := by
  unfold ORD
  split
  · omega
  · have g := sm_le (g := fun v => RN cd n (2 ^ v) v) (c := 43046721) n (fun v hv => by
      have c1 := cS_or (s := 0) (v := v) hn (Nat.two_pow_pos n) hv (Nat.zero_testBit v)
      rw [Nat.zero_or] at c1
      exact RN_b hn (by omega))
    omega
theorem e_ordX {cd parts heights gaps behind tab : Nat → Int32} {voices step : Int32} {post : Int64 → (Nat → Int32) → (Nat → Int32) → (Nat → Int32) → Prop} (hR : CDR voices step parts heights cd) (hC : CRg cd) (hp : ∀ g b t, post (lN (ORD cd (cN (cd 0)))) g b t) : q_wk_X5_fill_3_0 gaps behind voices step parts heights tab (fun g b t => q_wk_X5_total_3_0 voices t (fun r => post (Int32.toInt64 r) g b t)) := by
  obtain ⟨n, hn, -, hn9, -⟩ := iv_nI hC.1 (by decide)
  have hn9' : n ≤ 9 := by omega
  have hcl : cN (cd 0) = n := by rw [hn]; exact nI_clamp (by omega)
  have h0 : voices = nI n := hR.1.trans hn
  rw [hcl] at hp
  refine e_fillX hC hn9' h0 hR.2.1 (fun j hj => (hR.2.2 j (by rw [show (cd 0).toNatClampNeg = n from hcl]; exact hj)).1) (fun j hj => (hR.2.2 j (by rw [show (cd 0).toNatClampNeg = n from hcl]; exact hj)).2) (fun g b t _ hT => e_totalX hn9' h0 hT ?_)
  rw [i2l (ORD_b hn9')]
  exact hp _ _ _
theorem e_ordC {cd parts heights gaps behind tab : Nat → Int32} {voices step x2 : Int32} {post : Int32 → (Nat → Int32) → (Nat → Int32) → (Nat → Int32) → Prop} (hR : CDR voices step parts heights cd) (hC : CRg cd) (hp : ∀ g b t, post (if 0 ≤ x2 ∧ x2 < cd 0 then ORA cd (cN (cd 0)) (cN x2) else -1) g b t) : (x2 < 0 → post (-1) gaps behind tab) ∧ (¬ x2 < 0 → ((x2 < voices → q_wk_X5_fill_3_0 gaps behind voices step parts heights tab (fun g b t => q_wk_X5_total_3_0 voices t (fun r => (¬ r = 0 → q_wk_X5_voiceAt_3_0 b voices t x2 (fun r2 => post r2 g b t)) ∧ (r = 0 → post (-1) g b t)))) ∧ (¬ x2 < voices → post (-1) gaps behind tab))) := by
  obtain ⟨n, hn, -, hn9, -⟩ := iv_nI hC.1 (by decide)
  have hn9' : n ≤ 9 := by omega
  have hcl : cN (cd 0) = n := by rw [hn]; exact nI_clamp (by omega)
  have h0 : voices = nI n := hR.1.trans hn
  rw [hcl] at hp
  refine ⟨fun hneg => ?_, fun hnn => ⟨fun hlt => ?_, fun hge => ?_⟩⟩
  · have h := hp gaps behind tab
    rw [if_neg (fun h9 => absurd hneg (Int32.not_lt.mpr h9.1))] at h
    exact h
  · have hlt' : 0 ≤ x2 ∧ x2 < cd 0 := ⟨Int32.not_lt.mp hnn, by rw [← hR.1]; exact hlt⟩
    rw [if_pos hlt'] at hp
    obtain ⟨x, hx, ex⟩ := lt_nI (m := 9) hC.1 hlt'
    subst ex
    have hxn : x < n := by
      have h := hlt'.2
      rw [hn] at h
      exact (nI_ltI (by omega) (by omega)).mp h
    unfold ORA at hp
    rw [cN_nI (by omega)] at hp
    refine e_fillX hC hn9' h0 hR.2.1 (fun j hj => (hR.2.2 j (by rw [show (cd 0).toNatClampNeg = n from hcl]; exact hj)).1) (fun j hj => (hR.2.2 j (by rw [show (cd 0).toNatClampNeg = n from hcl]; exact hj)).2) (fun g b t hbe hT => e_totalX hn9' h0 hT ⟨fun hne => ?_, fun heq => ?_⟩)
    · have hO : ¬ ORD cd n = 0 := fun e => hne (by rw [e]; rfl)
      have h := hp g b t
      rw [if_neg hO] at h
      exact e_voiceAtX hn9' hO hxn h0 rfl hT hbe h
    · have hO : ORD cd n = 0 := (nI_eq (b := 0) (ORD_b hn9') (by omega)).mp heq
      have h := hp g b t
      rw [if_pos hO] at h
      exact h
  · have h := hp gaps behind tab
    rw [if_neg (fun h9 => hge (by rw [hR.1]; exact h9.2))] at h
    exact h
set_option maxRecDepth 40000 in
theorem e_x_orders {T : TT} {M : Nat → Nat → Int32} {a : Int32} {gaps behind tab : Nat → Int32} {post : Int64 → (Nat → Int32) → (Nat → Int32) → (Nat → Int32) → Prop} (h : TM T M 0) (hB : tB T) (hC : mCho (M 8)) (hp : ∀ g b t, post (AN_orders M a) g b t) : q_wxt_X10_orders_0 (T.2 1) (T.1 21) (T.1 22) (T.2 30) (T.2 31) (T.1 23) (T.1 24) (T.2 32) (T.2 33) gaps behind tab a post := by
  unfold AN_orders at hp
  rw [TM_cnt h 3 (by decide)] at hp
  refine e_at (hB.2.2.1 3) (fun (hn : ¬ (0 ≤ a ∧ a < T.2 1 3)) => ?_) (fun ea hl => ?_) (fun ea hl => ?_)
  · rw [if_neg hn] at hp
    exact ⟨fun _ => hp _ _ _, fun h9 => absurd h9 (by decide), fun h9 => absurd rfl h9⟩
  · rw [if_pos (by rw [ea]; exact ⟨by decide, hl⟩), ea] at hp
    have hR : CDR (T.1 21) (T.1 22) (T.2 30) (T.2 31) (rowM M 3 (nI 0)) := TM_sl h 3 0 (by decide) (by decide) hl
    exact ⟨fun h9 => absurd h9 (by decide), fun h9 => absurd h9 (by decide), fun _ _ => e_ordX hR (CRg_of hC (by decide)) hp⟩
  · rw [if_pos (by rw [ea]; exact ⟨by decide, hl⟩), ea] at hp
    have hR : CDR (T.1 23) (T.1 24) (T.2 32) (T.2 33) (rowM M 3 (nI 1)) := TM_sl h 3 1 (by decide) (by decide) hl
    exact ⟨fun h9 => absurd h9 (by decide), fun _ => e_ordX hR (CRg_of hC (by decide)) hp, fun _ h9 => absurd rfl h9⟩
set_option maxRecDepth 40000 in
theorem e_x_order {T : TT} {M : Nat → Nat → Int32} {a b : Int32} {gaps behind tab : Nat → Int32} {post : Int32 → (Nat → Int32) → (Nat → Int32) → (Nat → Int32) → Prop} (h : TM T M 0) (hB : tB T) (hC : mCho (M 8)) (hp : ∀ g b' t, post (AN_order M a b) g b' t) : q_wxt_X10_order_0 (T.2 1) (T.1 21) (T.1 22) (T.2 30) (T.2 31) (T.1 23) (T.1 24) (T.2 32) (T.2 33) gaps behind tab a b post := by
  unfold AN_order at hp
  rw [TM_cnt h 3 (by decide)] at hp
  refine e_at (hB.2.2.1 3) (fun (hn : ¬ (0 ≤ a ∧ a < T.2 1 3)) => ?_) (fun ea hl => ?_) (fun ea hl => ?_)
  · rw [if_neg hn] at hp
    exact ⟨fun _ => hp _ _ _, fun h9 => absurd h9 (by decide), fun h9 => absurd rfl h9⟩
  · rw [if_pos (by rw [ea]; exact ⟨by decide, hl⟩), ea] at hp
    have hR : CDR (T.1 21) (T.1 22) (T.2 30) (T.2 31) (rowM M 3 (nI 0)) := TM_sl h 3 0 (by decide) (by decide) hl
    exact ⟨fun h9 => absurd h9 (by decide), fun h9 => absurd h9 (by decide), fun _ _ => e_ordC hR (CRg_of hC (by decide)) hp⟩
  · rw [if_pos (by rw [ea]; exact ⟨by decide, hl⟩), ea] at hp
    have hR : CDR (T.1 23) (T.1 24) (T.2 32) (T.2 33) (rowM M 3 (nI 1)) := TM_sl h 3 1 (by decide) (by decide) hl
    exact ⟨fun h9 => absurd h9 (by decide), fun _ => e_ordC hR (CRg_of hC (by decide)) hp, fun _ h9 => absurd rfl h9⟩
end
