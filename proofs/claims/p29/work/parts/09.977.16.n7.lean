section
/-- the class's night is as a state -/
def XG (td : Nat → Int32) (S : Nat → Nat → Int32) (mi av be cl : Int32) (hu kn lv sn : Nat → Int32) : Prop := (∀ j, j < 6 → hb cl j = decide (S 2 j = 1)) ∧ (∀ j, j < 6 → nI j < td 1 → hu j = S 0 j) ∧ (∀ j, j < 6 → kn j = S 1 j) ∧ (∀ t, t < 5 → lv t = S 4 t) ∧ (∀ j, j < 9 → sn j = S 3 j) ∧ be = S 5 0 ∧ mi = S 5 1 ∧ av = S 5 2
/-- the class's land is as a row; its heights, homes, talls in their places -/
def LX (td : Nat → Int32) (huts singers dams echoes deep : Int32) (heights ladders minutes echoFrom echoTo talls : Nat → Int32) : Prop := huts = td 0 ∧ singers = td 1 ∧ dams = td 3 ∧ echoes = td 4 ∧ deep = td 5 ∧ (∀ j : Nat, j < 9 → nI j < td 0 → heights j = td (7 + j)) ∧ (∀ j, j < 9 → ladders j = td (16 + j)) ∧ (∀ j, j < 81 → minutes j = td (51 + j)) ∧ (∀ j : Nat, j < 4 → nI j < td 4 → echoFrom j = td (43 + 2 * j) ∧ echoTo j = td (44 + 2 * j)) ∧ (∀ j : Nat, j < 6 → nI j < td 1 → talls j = td (31 + j))
theorem lt_cln {j m : Nat} {x : Int32} (hx : iv 0 m x) (hm : m < 1000) (h : nI j < x) (hj : j < 1000) : j < x.toNatClampNeg := by
  obtain ⟨n, rfl, -, hn, hn2⟩ := iv_nI hx (by decide)
  rw [nI_clamp hn2]
  exact (nI_ltI (by omega) hn2).mp h
theorem LX_of {td : Nat → Int32} {huts singers villages dams echoes deep slide : Int32} {heights ladders minutes echoFrom echoTo homes talls known : Nat → Int32} (hR : RNG td) (h : LDR huts singers villages dams echoes deep slide heights ladders minutes echoFrom echoTo homes talls known td) : LX td huts singers dams echoes deep heights ladders minutes echoFrom echoTo talls := by
  obtain ⟨e0, e1, e2, e3, e4, e5, e6, f1, f2, f3, f4, f5, f6⟩ := h
  have b0 : iv 0 (9 : Nat) (td 0) := hR 0 (by omega)
  have b1 : iv 0 (6 : Nat) (td 1) := hR 1 (by omega)
  have b4 : iv 0 (4 : Nat) (td 4) := hR 4 (by omega)
  exact ⟨e0, e1, e3, e4, e5, fun j hj hl => f1 j (lt_cln b0 (by omega) hl (by omega)), f2, f3, fun j hj hl => f4 j (lt_cln b4 (by omega) hl (by omega)), fun j hj hl => (f5 j (lt_cln b1 (by omega) hl (by omega))).2⟩
section
variable {td : Nat → Int32} {S : Nat → Nat → Int32} {mi av be cl : Int32} {hu kn lv sn : Nat → Int32} {huts singers dams echoes deep : Int32} {heights ladders minutes echoFrom echoTo talls : Nat → Int32}
theorem e_highX {s : Nat} {post : Int32 → Prop} (hR : RNG td) (hN : NOK td S) (hG : XG td S mi av be cl hu kn lv sn) (hD : LX td huts singers dams echoes deep heights ladders minutes echoFrom echoTo talls) (hs : s < 6) (hl : nI s < td 1) (hp : post (hgh td (S 0) (S 2) s)) : q_wn_X3_high_6_0 cl hu heights ladders talls (nI s) post := by
  obtain ⟨a, ea, -, ha8, -⟩ := iv_nI (hN.1 s hs) (by decide)
  have hin : vp_in (nI s) 6 := vp_in_nI hs (by omega)
  have ha0 : nI a < td 0 := by rw [← ea]; exact hN.2.2.2.2.1 s hs hl
  unfold hgh at hp
  rw [ea, cN_nI (by omega)] at hp
  refine ⟨hin, fun v1 e1 => ?_⟩
  rw [nI_clamp (by omega), hG.2.1 s hs hl, ea] at e1
  subst e1
  have hin9 : vp_in (nI a) 9 := vp_in_nI (by omega) (by omega)
  refine ⟨hin9, hin, fun v2 e2 => ?_⟩
  rw [nI_clamp (by omega), nI_clamp (by omega), hD.2.2.2.2.2.1 a (by omega) ha0, hD.2.2.2.2.2.2.2.2.2 s hs hl] at e2
  subst e2
  refine e_hasX (by omega) (fun h0 => iz ?_) (fun h1 => oi ⟨hin9, ?_⟩)
  · rw [hG.1 s hs] at h0
    have hz : S 2 s = 0 := by
      rcases hN.2.2.1 s hs with h | h
      · exact h
      · rw [h] at h0; exact absurd h0 (by decide)
    rw [hz, Int32.zero_mul, Int32.add_zero] at hp
    exact hp
  · rw [hG.1 s hs] at h1
    rw [of_decide_eq_true h1, Int32.one_mul] at hp
    rw [nI_clamp (by omega), hD.2.2.2.2.2.2.1 a (by omega)]
    exact hp
theorem e_earX {h : Nat} {post : Int32 → Prop} (hR : RNG td) (hd : dams = td 3) (he : echoes = td 4) (hf : ∀ j : Nat, j < 4 → nI j < td 4 → echoFrom j = td (43 + 2 * j) ∧ echoTo j = td (44 + 2 * j)) (hh : h < 9) (hp : ∀ set, (∀ x, x < 31 → hb set x = hear td h x) → post set) : q_wl_X2_earshot_0 dams echoes echoFrom echoTo (nI h) post := by
  have h4 : iv 0 4 (td 4) := hR 4 (by omega)
  obtain ⟨c, hc, -, hc4, -⟩ := iv_nI h4 (by decide)
  have st : ∀ y : Int32, (∀ x, x < 31 → hb y x = (!dam td x && decide (x = h))) → q_wl_X2_earshot_15 dams echoes echoFrom echoTo (nI h) y post := by
    intro y hy P hP
    have loop : ∀ m j (x2 : Int32), m = c - j → j ≤ c → (∀ x, x < 31 → hb x2 x = (!dam td x && (decide (x = h) || ech td h x j))) → P x2 (nI j) := by
      intro m
      induction m using Nat.strongRecOn with
      | ind m ih =>
        intro j x2 hm hj hx
        apply hP
        rw [he, hc]
        refine pk_le c j (fun h9 => ?_) (fun h9 => ?_)
        · refine hp x2 (fun x hx9 => ?_)
          rw [hx x hx9]
          unfold hear
          rw [hc, cN_nI (by omega), show j = c by omega]
        · have hin : vp_in (nI j) 4 := vp_in_nI (by omega) (by omega)
          have hl4 : nI j < td 4 := by rw [hc]; exact nI_lt h9 (by omega)
          obtain ⟨f1, f2⟩ := hf j (by omega) hl4
          have nx : ∀ x2' : Int32, (∀ x, x < 31 → hb x2' x = (!dam td x && (decide (x = h) || ech td h x (j + 1)))) → q_wl_X2_earshot_60 P dams (nI c) echoFrom echoTo (nI h) x2' (nI j) post := by
            intro x2' h2 v ev
            rw [ev, nI_1]
            exact ih (c - (j + 1)) (by omega) (j + 1) x2' rfl (by omega) h2
          have st1 : ∀ x, ech td h x (j + 1) = (ech td h x j || (decide (td (43 + 2 * j) = nI h) && decide (td (44 + 2 * j) = nI x))) := fun x => rfl
          refine ⟨hin, ?_⟩
          rw [nI_clamp (by omega), f1, f2]
          refine ⟨fun hne => nx x2 (fun x hx9 => ?_), fun heq => ⟨hin, ?_⟩⟩
          · rw [hx x hx9, st1, decide_eq_false hne, Bool.false_and, Bool.or_false]
          · have hy8 : iv 0 8 (td (44 + 2 * j)) := iv_w (hR (44 + 2 * j) (by omega)) (by
              have hcs : j = 0 ∨ j = 1 ∨ j = 2 ∨ j = 3 := by omega
              rcases hcs with rfl | rfl | rfl | rfl <;> decide)
            obtain ⟨y2, ey, -, hy2, -⟩ := iv_nI hy8 (by decide)
            rw [ey]
            have ex : ∀ x, x < 31 → (decide (td (43 + 2 * j) = nI h) && decide (td (44 + 2 * j) = nI x)) = decide (y2 = x) := by
              intro x hx9
              rw [decide_eq_true heq, Bool.true_and, ey]
              by_cases e : y2 = x
              · subst e; rw [decide_eq_true rfl, decide_eq_true rfl]
              · rw [decide_eq_false e, decide_eq_false (fun h8 => e ((nI_eq (by omega) (by omega)).mp h8))]
            refine e_damX (by omega) (fun hd0 => zi ⟨hin, fun v ev => nx v (fun x hx9 => ?_)⟩) (fun hd1 => io (nx x2 (fun x hx9 => ?_)))
            · rw [ev, hb_or, hx x hx9, hb_bit (by omega) hx9, st1, ex x hx9]
              rw [hd] at hd0
              by_cases e : y2 = x
              · subst e
                unfold dam
                rw [hd0, decide_eq_true rfl]
                simp
              · rw [decide_eq_false e, Bool.or_false, Bool.or_false]
            · rw [hx x hx9, st1, ex x hx9]
              rw [hd] at hd1
              by_cases e : y2 = x
              · subst e
                unfold dam
                rw [hd1]
                rfl
              · rw [decide_eq_false e, Bool.or_false]
    exact loop _ 0 y rfl (by omega) (fun x hx9 => by rw [hy x hx9]; show _ = (!dam td x && (decide (x = h) || false)); rw [Bool.or_false])
  refine e_damX (by omega) (fun hd0 => iz (st _ (fun x hx9 => ?_))) (fun hd1 => oi (st 0 (fun x hx9 => ?_)))
  · rw [hb_bit (by omega) hx9]
    rw [hd] at hd0
    by_cases e : h = x
    · subst e
      unfold dam
      rw [hd0, decide_eq_true rfl]
      rfl
    · rw [decide_eq_false e, de_ne e, Bool.and_false]
  · rw [hb_0]
    rw [hd] at hd1
    by_cases e : h = x
    · subst e
      unfold dam
      rw [hd1]
      rfl
    · rw [de_ne e, Bool.and_false]
theorem e_singersInX {bits : Int32} {post : Int32 → Prop} (hR : RNG td) (hN : NOK td S) (hG : XG td S mi av be cl hu kn lv sn) (hd : singers = td 1) (hp : ∀ set, (∀ o, o < 31 → hb set o = (decide (nI o < td 1) && hb bits (cN (S 0 o)))) → post set) : q_wn_X3_singersIn_6_0 hu singers bits post := by
  have h1 : iv 0 6 (td 1) := hR 1 (by omega)
  obtain ⟨c, hc, -, hc6, -⟩ := iv_nI h1 (by decide)
  intro P hP
  have loop : ∀ m j (x3 : Int32), m = c - j → j ≤ c → (∀ o, o < 31 → hb x3 o = (decide (o < j) && hb bits (cN (S 0 o)))) → P x3 (nI j) := by
    intro m
    induction m using Nat.strongRecOn with
    | ind m ih =>
      intro j x3 hm hj hx
      apply hP
      rw [hd, hc]
      refine pk_le c j (fun h9 => ?_) (fun h9 => ?_)
      · refine hp x3 (fun o ho => ?_)
        rw [hx o ho, hc, show j = c by omega]
        by_cases e : o < c
        · rw [decide_eq_true e, decide_eq_true (nI_lt e (by omega))]
        · rw [decide_eq_false e, decide_eq_false (fun h8 => e ((nI_ltI (by omega) (by omega)).mp h8))]
      · have hin : vp_in (nI j) 6 := vp_in_nI (by omega) (by omega)
        have hl : nI j < td 1 := by rw [hc]; exact nI_lt h9 (by omega)
        obtain ⟨a, ea, -, ha8, -⟩ := iv_nI (hN.1 j (by omega)) (by decide)
        have nx : ∀ x3' : Int32, (∀ o, o < 31 → hb x3' o = (decide (o < j + 1) && hb bits (cN (S 0 o)))) → q_wn_X3_singersIn_6_35 P hu (nI c) bits x3' (nI j) post := by
          intro x3' h2 v ev
          rw [ev, nI_1]
          exact ih (c - (j + 1)) (by omega) (j + 1) x3' rfl (by omega) h2
        have ex : ∀ o, ¬ o = j → decide (o < j + 1) = decide (o < j) := by
          intro o ho
          by_cases e : o < j
          · rw [decide_eq_true e, decide_eq_true (by omega)]
          · rw [decide_eq_false e, decide_eq_false (by omega)]
        refine ⟨hin, ?_⟩
        rw [nI_clamp (by omega), hG.2.1 j (by omega) hl, ea]
        refine e_hasX (by omega) (fun h0 => iz (nx x3 (fun o ho => ?_))) (fun h0 => oi (fun v ev => nx v (fun o ho => ?_)))
        · rw [hx o ho]
          by_cases e : o = j
          · subst e
            rw [ea, cN_nI (by omega), h0, Bool.and_false, Bool.and_false]
          · rw [ex o e]
        · rw [ev, hb_or, hx o ho, hb_bit (by omega) ho]
          by_cases e : o = j
          · subst e
            rw [ea, cN_nI (by omega), h0, decide_eq_true rfl, decide_eq_true (show o < o + 1 by omega)]
            simp
          · rw [ex o e, de_ne e, Bool.or_false]
  exact loop _ 0 0 rfl (by omega) (fun o ho => by rw [hb_0, decide_eq_false (by omega)]; rfl)
theorem i_le {x y : Int32} : (x ≤ y) ↔ ¬ y < x := by
  rw [Int32.le_iff_toInt_le, Int32.lt_iff_toInt_lt]; omega
theorem i_eq {x y : Int32} : (x = y) ↔ (¬ y < x ∧ ¬ x < y) := by
  rw [Int32.lt_iff_toInt_lt, Int32.lt_iff_toInt_lt, ← Int32.toInt_inj]; omega
/-- whether it is wrong -/
theorem e_wrongX {K h l : Int32} {post : Int32 → Prop} (hK : K = 0 ∨ K = 1 ∨ K = 2) (hp : ∀ w : Bool, w = (!decide (K = 0) && (decide (l < h) || (!decide (K = 2) && decide (h = l)))) → post (bI w)) : q_z_X3_isWrong_0 K h l post := by
  rcases hK with rfl | rfl | rfl
  · exact ⟨fun _ => ⟨fun _ => hp false (by rfl), fun h9 => absurd h9 (by decide)⟩, fun h9 => absurd h9 (by decide)⟩
  · refine ⟨fun h9 => absurd rfl h9, fun _ => ⟨fun hlt => hp false ?_, fun hlt => hp true ?_⟩⟩
    · rw [decide_eq_false (fun h9 : l < h => by have := r_lt h9; have := r_lt hlt; omega), decide_eq_false (fun h9 : h = l => by rw [h9] at hlt; have := r_lt hlt; omega)]
      rfl
    · by_cases e : l < h
      · rw [decide_eq_true e]; rfl
      · rw [decide_eq_true (i_eq.mpr ⟨e, hlt⟩)]
        rw [decide_eq_false e]; rfl
  · refine ⟨fun _ => ⟨fun h9 => absurd rfl h9, fun _ => ⟨fun hle => hp false ?_, fun hle => hp true ?_⟩⟩, fun h9 => absurd h9 (by decide)⟩
    · rw [decide_eq_false (i_le.mp hle)]
      rfl
    · rw [decide_eq_true (Decidable.not_not.mp (fun h9 => hle (i_le.mpr h9)))]
      rfl
def wI (b : Bool) : Int32 := if b = true then 1 else 0
theorem e_raiseX {K x : Int32} {s : Nat} {b : Bool} {post : Int32 → Int32 → Int32 → (Nat → Int32) → (Nat → Int32) → (Nat → Int32) → Prop} (hR : RNG td) (hN : NOK td S) (hG : XG td S mi av be cl hu kn lv sn) (hD : LX td huts singers dams echoes deep heights ladders minutes echoFrom echoTo talls) (hs : s < 6) (hl : nI s < td 1) (hK : K = 0 ∨ K = 1 ∨ K = 2) (hb1 : b = !decide (K = 0))
    (h0 : mayR td (S 0) (S 1) (S 5 0) s x b = false → post 0 av be kn lv sn)
    (h1 : ∀ t, t < 5 → x = nI t → mayR td (S 0) (S 1) (S 5 0) s (nI t) b = true → ∀ w, w = (!decide (K = 0) && wrongR td (S 0) (S 2) (S 4) s t (decide (K = 2))) → ∀ kn' lv' sn', (∀ j, j < 6 → kn' j = knS td (S 0) (S 1) s t j) → (∀ j, j < 5 → lv' j = upd (S 4) t (hgh td (S 0) (S 2) s) j) → (∀ j, j < 9 → sn' j = upd (S 3) (cN (S 0 s)) (S 3 (cN (S 0 s)) + wI w) j) → post 1 (S 5 2 + wI w) (S 5 0 ||| bitI t) kn' lv' sn') :
    q_wn_X3_raise_6_0 av be cl hu kn lv sn singers dams echoes heights ladders echoFrom echoTo talls K (nI s) x post := by
  obtain ⟨a, ea, -, ha8, -⟩ := iv_nI (hN.1 s hs) (by decide)
  have hin : vp_in (nI s) 6 := vp_in_nI hs (by omega)
  have hin9 : vp_in (nI a) 9 := vp_in_nI (by omega) (by omega)
  refine ⟨hin, fun v1 e1 => ?_⟩
  rw [nI_clamp (by omega), hG.2.1 s hs hl, ea] at e1
  subst e1
  refine ⟨fun hneg => h0 ?_, fun hneg => ⟨fun h5 => h0 ?_, fun h5 => ⟨hin, ?_⟩⟩⟩
  · unfold mayR
    rw [decide_eq_false (fun h9 => absurd hneg (Int32.not_lt.mpr h9.1))]
    rfl
  · unfold mayR
    rw [decide_eq_false (fun h9 => absurd h9.2 (Int32.not_lt.mpr h5))]
    rfl
  obtain ⟨t, ht, rfl⟩ := lt_nI (c := 5) (m := 5) (iv_lit (by decide)) ⟨Int32.not_lt.mp hneg, Int32.not_le.mp h5⟩
  have em : ∀ b, mayR td (S 0) (S 1) (S 5 0) s (nI t) b = (hb (S 1 s) t && (hb (S 5 0) t == b) && !dam td a) := by
    intro b
    unfold mayR
    rw [decide_eq_true ⟨nI_pos' (by omega), nI_lt (b := 5) ht (by omega)⟩, cN_nI (by omega), ea, cN_nI (by omega), Bool.true_and]
  rw [em] at h0
  rw [nI_clamp (by omega), hG.2.2.1 s hs]
  refine e_hasX (by omega) (fun hk0 => iz (h0 (by rw [hk0]; rfl))) (fun hk1 => oi ?_)
  rw [hD.2.2.1]
  refine e_damX (by omega) (fun hd0 => iz ?_) (fun hd1 => oi (h0 (by unfold dam; rw [hd1, Bool.not_true, Bool.and_false])))
  rw [hG.2.2.2.2.2.1]
  have hd0' : dam td a = false := hd0
  -- the sound itself
  have go : ∀ y0 y1 : Int32, ¬ y0 = y1 → (hb (S 5 0) t == b) = true → q_wn_X3_raise_6_62 av (S 5 0) cl hu kn lv sn singers (td 3) echoes heights ladders echoFrom echoTo talls K (nI s) (nI t) (nI a) y0 y1 post := by
    intro y0 y1 hy hbb
    refine ⟨fun _ => ?_, fun h9 => absurd h9 hy⟩
    have hm : mayR td (S 0) (S 1) (S 5 0) s (nI t) b = true := by rw [em, hk1, hbb, hd0']; rfl
    refine e_highX hR hN hG hD hs hl ⟨vp_in_nI ht (by omega), ?_⟩
    rw [nI_clamp (by omega), hG.2.2.2.1 t ht]
    refine e_wrongX hK (fun w ew => ?_)
    have h1' := h1 t ht rfl hm w (by rw [ew]; rfl)
    rw [ea, cN_nI (by omega)] at h1'
    have s112 : ∀ sn' : Nat → Int32, (∀ j, j < 9 → sn' j = upd (S 3) a (S 3 a + wI w) j) → q_wn_X3_raise_6_112 (S 5 2 + wI w) (S 5 0) cl hu kn lv sn' singers (td 3) echoes heights ladders echoFrom echoTo talls (nI t) (nI a) (hgh td (S 0) (S 2) s) post := by
      intro sn' hsn v1 e1
      refine ⟨vp_in_nI ht (by omega), fun lv1 e2 => ?_⟩
      rw [nI_clamp (by omega)] at e2
      refine e_earX hR rfl hD.2.2.2.1 hD.2.2.2.2.2.2.2.2.1 (by omega) (fun set hset => ?_)
      refine e_singersInX hR hN hG hD.2.1 (fun set2 hset2 => ?_)
      have b1 : iv 0 6 (td 1) := hR 1 (by omega)
      obtain ⟨c, hc, -, hc6, -⟩ := iv_nI b1 (by decide)
      have e1' : v1 = S 5 0 ||| bitI t := e1
      have e2' : ∀ j, j < 5 → lv1 j = upd (S 4) t (hgh td (S 0) (S 2) s) j := by
        intro j hj
        rw [e2]
        by_cases e : j = t
        · rw [e, up_s, up_s]
        · rw [up_n e, up_n e]; exact hG.2.2.2.1 j hj
      intro P hP
      have loop : ∀ m j (kn1 : Nat → Int32), m = c - j → j ≤ c → (∀ o, o < 6 → kn1 o = if o < j ∧ hear td a (cN (S 0 o)) = true then S 1 o ||| bitI t else S 1 o) → P (nI j) kn1 := by
        intro m
        induction m using Nat.strongRecOn with
        | ind m ih =>
          intro j kn1 hm2 hj hx
          apply hP
          rw [hD.2.1, hc]
          refine pk_le c j (fun h9 => ?_) (fun h9 => ?_)
          · rw [e1']
            refine h1' kn1 lv1 sn' (fun o ho => ?_) e2' hsn
            rw [hx o ho]
            unfold knS
            rw [hc, cN_nI (by omega), ea, cN_nI (by omega), show j = c by omega]
          · have hinj : vp_in (nI j) 6 := vp_in_nI (by omega) (by omega)
            have hlj : nI j < td 1 := by rw [hc]; exact nI_lt h9 (by omega)
            obtain ⟨a2, ea2, -, ha28, -⟩ := iv_nI (hN.1 j (by omega)) (by decide)
            have hs2 : hb set2 j = hear td a a2 := by
              rw [hset2 j (by omega), decide_eq_true hlj, Bool.true_and, ea2, cN_nI (by omega), hset a2 (by omega)]
            have nx : ∀ kn2 : Nat → Int32, (∀ o, o < 6 → kn2 o = if o < j + 1 ∧ hear td a (cN (S 0 o)) = true then S 1 o ||| bitI t else S 1 o) → q_wn_X3_raise_6_183 P (S 5 2 + wI w) v1 cl hu kn2 lv1 sn' (nI c) (td 3) echoes heights ladders echoFrom echoTo talls (nI t) set2 (nI j) post := by
              intro kn2 h2 v ev
              rw [ev, nI_1]
              exact ih (c - (j + 1)) (by omega) (j + 1) kn2 rfl (by omega) h2
            have ot : ∀ o, o < 6 → ¬ o = j → (if o < j + 1 ∧ hear td a (cN (S 0 o)) = true then S 1 o ||| bitI t else S 1 o) = (if o < j ∧ hear td a (cN (S 0 o)) = true then S 1 o ||| bitI t else S 1 o) := by
              intro o ho hoj
              by_cases e : o < j ∧ hear td a (cN (S 0 o)) = true
              · rw [if_pos e, if_pos ⟨by omega, e.2⟩]
              · rw [if_neg e, if_neg (fun h8 => e ⟨by omega, h8.2⟩)]
            refine e_hasX (by omega) (fun hh0 => iz (nx kn1 (fun o ho => ?_))) (fun hh1 => oi ⟨hinj, fun v ev => ⟨hinj, fun kn2 ek => nx kn2 (fun o ho => ?_)⟩⟩)
            · by_cases e : o = j
              · subst e
                rw [hx o ho, if_neg (fun h8 => absurd h8.1 (by omega)), if_neg (fun h8 => ?_)]
                rw [ea2, cN_nI (by omega), ← hs2, hh0] at h8
                exact absurd h8.2 (by decide)
              · rw [hx o ho, ot o ho e]
            · rw [nI_clamp (by omega)] at ev ek
              rw [ek]
              by_cases e : o = j
              · subst e
                rw [up_s, ev, hx o ho, if_neg (fun h8 => absurd h8.1 (by omega)), if_pos ⟨by omega, by rw [ea2, cN_nI (by omega), ← hs2, hh1]⟩]
                rfl
              · rw [up_n e, hx o ho, ot o ho e]
      exact loop _ 0 kn rfl (by omega) (fun o ho => by rw [if_neg (fun h8 => absurd h8.1 (by omega))]; exact hG.2.2.1 o ho)
    cases w with
    | false =>
      refine iz ?_
      have e9 : av = S 5 2 + wI false := by rw [hG.2.2.2.2.2.2.2]; show S 5 2 = S 5 2 + 0; rw [Int32.add_zero]
      rw [e9]
      refine s112 sn (fun j hj => ?_)
      show sn j = upd (S 3) a (S 3 a + 0) j
      rw [Int32.add_zero, hG.2.2.2.2.1 j hj]
      by_cases e : j = a
      · rw [e, up_s]
      · rw [up_n e]
    | true =>
      refine oi (fun v2 e2 => ⟨hin9, fun v3 e3 => ⟨hin9, fun sn1 e4 => ?_⟩⟩)
      rw [nI_clamp (by omega)] at e3 e4
      have e9 : v2 = S 5 2 + wI true := by rw [e2, hG.2.2.2.2.2.2.2]; rfl
      rw [e9]
      refine s112 sn1 (fun j hj => ?_)
      rw [e4, e3]
      by_cases e : j = a
      · rw [e, up_s, up_s, hG.2.2.2.2.1 a (by omega)]; rfl
      · rw [up_n e, up_n e]; exact hG.2.2.2.2.1 j hj
  have no : ∀ y : Int32, (hb (S 5 0) t == b) = false → q_wn_X3_raise_6_62 av (S 5 0) cl hu kn lv sn singers (td 3) echoes heights ladders echoFrom echoTo talls K (nI s) (nI t) (nI a) y y post := by
    intro y hbb
    refine ⟨fun h9 => absurd rfl h9, fun _ => ?_⟩
    have := h0 (by rw [hbb, Bool.and_false]; rfl)
    rw [hG.2.2.2.2.2.1] at this
    exact this
  refine e_hasX (by omega) (fun hb0 => ⟨fun hk0 => no 0 ?_, fun hk0 => go 0 1 (by decide) ?_⟩) (fun hb0 => ⟨fun hk0 => go 1 0 (by decide) ?_, fun hk0 => no 1 ?_⟩)
  · rw [hb0, hb1, decide_eq_false hk0]; rfl
  · rw [hb0, hb1, decide_eq_true hk0]; rfl
  · rw [hb0, hb1, decide_eq_false hk0]; rfl
  · rw [hb0, hb1, decide_eq_true hk0]; rfl
end
end
section
theorem e_hsX {c x : Int32} {post : Int32 → Prop} (h0 : ¬ (0 ≤ x ∧ x < c) → post 0) (h1 : 0 ≤ x ∧ x < c → post 1) : q_wl_X2_hasSinger_0 c x post := ⟨fun h => h0 (fun h9 => absurd h (Int32.not_lt.mpr h9.1)), fun h => ⟨fun h9 => h0 (fun h8 => absurd h8.2 (Int32.not_lt.mpr h9)), fun h9 => h1 ⟨Int32.not_lt.mp h, Int32.not_le.mp h9⟩⟩⟩
theorem e_hhX {c x : Int32} {post : Int32 → Prop} (h0 : ¬ (0 ≤ x ∧ x < c) → post 0) (h1 : 0 ≤ x ∧ x < c → post 1) : q_wl_X2_hasHut_0 c x post := ⟨fun h => h0 (fun h9 => absurd h (Int32.not_lt.mpr h9.1)), fun h => ⟨fun h9 => h0 (fun h8 => absurd h8.2 (Int32.not_lt.mpr h9)), fun h9 => h1 ⟨Int32.not_lt.mp h, Int32.not_le.mp h9⟩⟩⟩
section
variable {td : Nat → Int32} {S : Nat → Nat → Int32} {mi av be cl : Int32} {hu kn lv sn : Nat → Int32} {huts singers dams echoes deep : Int32} {heights ladders minutes echoFrom echoTo talls : Nat → Int32}
theorem e_cutX {h : Nat} {sn' : Nat → Int32} {post : Int32 → Prop} (hd : deep = td 5) (hh : h < 9) (hs : sn h = sn' h) (h0 : decide (sn' h < td 5) = true → post 0) (h1 : decide (sn' h < td 5) = false → post 1) : q_wn_X3_isCut_6_0 sn deep (nI h) post := by
  refine ⟨vp_in_nI hh (by omega), ?_⟩
  rw [nI_clamp (by omega), hd, hs]
  exact ⟨fun h => h0 (decide_eq_true h), fun h => h1 (decide_eq_false h)⟩
theorem e_walkX {s : Nat} {x : Int32} {post : Int32 → Int32 → (Nat → Int32) → Prop} (hR : RNG td) (hN : NOK td S) (hG : XG td S mi av be cl hu kn lv sn) (hD : LX td huts singers dams echoes deep heights ladders minutes echoFrom echoTo talls) (hs : s < 6) (hl : nI s < td 1)
    (h0 : mayW td (S 0) (S 2) (S 3) s x = false → post 0 mi hu) (h1 : mayW td (S 0) (S 2) (S 3) s x = true → ∀ hu', (∀ j, j < 6 → nI j < td 1 → hu' j = upd (S 0) s x j) → post 1 (S 5 1 + td (51 + 9 * cN (S 0 s) + cN x)) hu') : q_wn_X3_walk_6_0 mi cl hu sn huts deep minutes (nI s) x post := by
  obtain ⟨a, ea, -, ha8, -⟩ := iv_nI (hN.1 s hs) (by decide)
  have hin : vp_in (nI s) 6 := vp_in_nI hs (by omega)
  unfold mayW at h0 h1
  refine ⟨hin, fun v1 e1 => ?_⟩
  rw [nI_clamp (by omega), hG.2.1 s hs hl, ea] at e1
  subst e1
  rw [hD.1]
  refine e_hhX (fun hn => iz (h0 (by rw [decide_eq_false hn]; rfl))) (fun hy => oi ?_)
  obtain ⟨y, hy9, rfl⟩ := lt_nI (m := 9) (hR 0 (by omega)) hy
  rw [decide_eq_true hy, ea, cN_nI (by omega), cN_nI (by omega)] at h0 h1
  have ec : decide (S 2 s = 1) = hb cl s := (hG.1 s hs).symm
  rw [ec] at h0 h1
  refine e_hasX (by omega) (fun hc => zi ?_) (fun hc => io (h0 (by rw [hc]; simp)))
  rw [hc] at h0 h1
  refine e_cutX hD.2.2.2.2.1 (by omega) (hG.2.2.2.2.1 a (by omega)) (fun q1 => zi ?_) (fun q1 => io (h0 (by rw [q1]; simp)))
  rw [q1] at h0 h1
  refine e_cutX hD.2.2.2.2.1 (by omega) (hG.2.2.2.2.1 y (by omega)) (fun q2 => iz ?_) (fun q2 => oi (h0 (by rw [q2]; simp)))
  rw [q2] at h0 h1
  have ei : (nI a * 9) + nI y = nI (9 * a + y) := by rw [jx9, Nat.mul_comm]
  rw [ei]
  refine ⟨vp_in_nI (by omega) (by omega), fun v2 e2 => ?_⟩
  rw [nI_clamp (by omega), hD.2.2.2.2.2.2.2.1 (9 * a + y) (by omega), show 51 + (9 * a + y) = 51 + 9 * a + y by omega] at e2
  subst e2
  refine ⟨fun hz => fun v3 e3 => ⟨hin, fun hu1 e4 => ?_⟩, fun hz => h0 (by rw [decide_eq_true hz]; rfl)⟩
  rw [decide_eq_false hz] at h1
  rw [nI_clamp (by omega)] at e4
  rw [e3, hG.2.2.2.2.2.2.1]
  refine h1 rfl hu1 (fun j hj hlj => ?_)
  rw [e4]
  by_cases e : j = s
  · rw [e, up_s, up_s]
  · rw [up_n e, up_n e]; exact hG.2.1 j hj hlj
theorem e_actX {K s x : Int32} {post : Int32 → Int32 → Int32 → Int32 → Int32 → (Nat → Int32) → (Nat → Int32) → (Nat → Int32) → (Nat → Int32) → Prop} (hR : RNG td) (hN : NOK td S) (hG : XG td S mi av be cl hu kn lv sn) (hD : LX td huts singers dams echoes deep heights ladders minutes echoFrom echoTo talls) (hK : iv 0 5 K)
    (hp : ∀ mi' av' be' cl' hu' kn' lv' sn', XG td (actS td K s x S).2 mi' av' be' cl' hu' kn' lv' sn' → post (bI (actS td K s x S).1) mi' av' be' cl' hu' kn' lv' sn') : q_wn_X3_act_6_0 mi av be cl hu kn lv sn huts singers dams echoes deep heights ladders minutes echoFrom echoTo talls K s x post := by
  have h1 : iv 0 6 (td 1) := hR 1 (by omega)
  unfold actS act at hp
  refine e_hsX (fun hn => zi ?_) (fun hy => io ?_)
  · rw [hD.2.1] at hn
    rw [if_pos hn] at hp
    exact hp mi av be cl hu kn lv sn hG
  rw [hD.2.1] at hy
  rw [if_neg (fun h9 => h9 hy)] at hp
  obtain ⟨s', hs', rfl⟩ := lt_nI (m := 6) h1 hy
  rw [cN_nI (by omega)] at hp
  have hl : nI s' < td 1 := hy.2
  have hin : vp_in (nI s') 6 := vp_in_nI hs' (by omega)
  refine ⟨fun hr => ?_, fun h3 => ?_, fun h4 => ?_, fun h5 => ?_⟩
  · have hK3 : K = 0 ∨ K = 1 ∨ K = 2 := by
      have := hK.1
      have := hK.2
      have e0 : (0 : Int32).toInt = 0 := rfl
      have e1 : (1 : Int32).toInt = 1 := rfl
      have e2 : (2 : Int32).toInt = 2 := rfl
      have hc : K.toInt = 0 ∨ K.toInt = 1 ∨ K.toInt = 2 := by omega
      rcases hc with h | h | h
      · exact Or.inl (Int32.toInt_inj.mp (h.trans e0.symm))
      · exact Or.inr (Or.inl (Int32.toInt_inj.mp (h.trans e1.symm)))
      · exact Or.inr (Or.inr (Int32.toInt_inj.mp (h.trans e2.symm)))
    refine e_raiseX hR hN hG hD hs' hl hK3 rfl (fun hf => ⟨rfl, ?_⟩) (fun t ht ex hm w ew kn' lv' sn' ekn elv esn => ⟨rfl, ?_⟩)
    · rcases hK3 with rfl | rfl | rfl
      · rw [if_pos rfl, if_neg (by rw [show mayR td (S 0) (S 1) (S 5 0) s' x false = false from hf]; decide)] at hp
        exact hp mi av be cl hu kn lv sn hG
      · rw [if_neg (by decide), if_pos (Or.inl rfl), if_neg (by rw [show mayR td (S 0) (S 1) (S 5 0) s' x true = false from hf]; decide)] at hp
        exact hp mi av be cl hu kn lv sn hG
      · rw [if_neg (by decide), if_pos (Or.inr rfl), if_neg (by rw [show mayR td (S 0) (S 1) (S 5 0) s' x true = false from hf]; decide)] at hp
        exact hp mi av be cl hu kn lv sn hG
    · subst ex
      rw [cN_nI (by omega)] at hp
      rcases hK3 with rfl | rfl | rfl
      · rw [if_pos rfl, if_pos (show mayR td (S 0) (S 1) (S 5 0) s' (nI t) false = true from hm)] at hp
        have ew' : w = false := ew
        subst ew'
        refine hp mi _ _ cl hu kn' lv' sn' ⟨hG.1, hG.2.1, ekn, elv, fun j hj => ?_, rfl, hG.2.2.2.2.2.2.1, ?_⟩
        · rw [esn j hj]
          show upd (S 3) _ (S 3 _ + 0) j = S 3 j
          rw [Int32.add_zero]
          by_cases e : j = cN (S 0 s')
          · rw [e, up_s]
          · rw [up_n e]
        · show S 5 2 + 0 = S 5 2
          rw [Int32.add_zero]
      · rw [if_neg (by decide), if_pos (Or.inl rfl), if_pos (show mayR td (S 0) (S 1) (S 5 0) s' (nI t) true = true from hm)] at hp
        have ew' : w = wrongR td (S 0) (S 2) (S 4) s' t (decide ((1 : Int32) = 2)) := ew
        subst ew'
        exact hp mi _ _ cl hu kn' lv' sn' ⟨hG.1, hG.2.1, ekn, elv, esn, rfl, hG.2.2.2.2.2.2.1, rfl⟩
      · rw [if_neg (by decide), if_pos (Or.inr rfl), if_pos (show mayR td (S 0) (S 1) (S 5 0) s' (nI t) true = true from hm)] at hp
        have ew' : w = wrongR td (S 0) (S 2) (S 4) s' t (decide ((2 : Int32) = 2)) := ew
        subst ew'
        exact hp mi _ _ cl hu kn' lv' sn' ⟨hG.1, hG.2.1, ekn, elv, esn, rfl, hG.2.2.2.2.2.2.1, rfl⟩
  · subst h3
    rw [if_neg (by decide), if_neg (by decide), if_pos rfl] at hp
    refine e_walkX hR hN hG hD hs' hl (fun hf => ⟨rfl, ?_⟩) (fun ht hu' ehu => ⟨rfl, ?_⟩)
    · rw [if_neg (by rw [hf]; decide)] at hp
      exact hp mi av be cl hu kn lv sn hG
    · rw [if_pos ht] at hp
      exact hp _ av be cl hu' kn lv sn ⟨hG.1, ehu, hG.2.2.1, hG.2.2.2.1, hG.2.2.2.2.1, hG.2.2.2.2.2.1, rfl, hG.2.2.2.2.2.2.2⟩
  · subst h4
    rw [if_neg (by decide), if_neg (by decide), if_neg (by decide), if_pos rfl] at hp
    obtain ⟨a, ea, -, ha8, -⟩ := iv_nI (hN.1 s' hs') (by decide)
    rw [ea, cN_nI (by omega)] at hp
    refine e_hasX (by omega) (fun hc => zi ⟨hin, ?_⟩) (fun hc => io ⟨rfl, ?_⟩)
    · rw [nI_clamp (by omega), hG.2.1 s' hs' hl, ea]
      refine ⟨vp_in_nI (by omega) (by omega), ?_⟩
      rw [nI_clamp (by omega), hD.2.2.2.2.2.2.1 a (by omega)]
      rw [hG.1 s' hs'] at hc
      have hc1 := of_decide_eq_false hc
      refine ⟨fun hz v ev => ⟨rfl, ?_⟩, fun hz => ⟨rfl, ?_⟩⟩
      · rw [if_pos ⟨hz, hc1⟩] at hp
        refine hp mi av be v hu kn lv sn ⟨fun j hj => ?_, hG.2⟩
        show hb v j = decide (upd (S 2) s' 1 j = 1)
        rw [ev, hb_or, hb_bit (by omega) (by omega), hG.1 j hj]
        by_cases e : j = s'
        · subst e; rw [up_s, decide_eq_true (rfl : j = j), Bool.or_true]; rfl
        · rw [up_n e, de_ne e, Bool.or_false]
      · rw [if_neg (fun h9 => h9.1 hz)] at hp
        exact hp mi av be cl hu kn lv sn hG
    · rw [hG.1 s' hs'] at hc
      rw [if_neg (fun h9 => h9.2 (of_decide_eq_true hc))] at hp
      exact hp mi av be cl hu kn lv sn hG
  · subst h5
    rw [if_neg (by decide), if_neg (by decide), if_neg (by decide), if_neg (by decide)] at hp
    have hz2 : S 2 s' = 0 ↔ hb cl s' = false := by
      rw [hG.1 s' hs']
      rcases hN.2.2.1 s' hs' with h | h
      · rw [h]; decide
      · rw [h]; decide
    refine e_hasX (by omega) (fun hc => zi ⟨rfl, ?_⟩) (fun hc => io (fun v ev => ⟨rfl, ?_⟩))
    · rw [if_neg (fun h9 => h9 (hz2.mpr hc))] at hp
      exact hp mi av be cl hu kn lv sn hG
    · rw [if_pos (fun h9 => by rw [hz2.mp h9] at hc; exact absurd hc (by decide))] at hp
      refine hp mi av be v hu kn lv sn ⟨fun j hj => ?_, hG.2⟩
      show hb v j = decide (upd (S 2) s' 0 j = 1)
      rw [ev, hb_and, hb_not _ (by omega), hb_bit (by omega) (by omega), hG.1 j hj]
      by_cases e : j = s'
      · subst e; rw [up_s, decide_eq_true (rfl : j = j), Bool.not_true, Bool.and_false]; rfl
      · rw [up_n e, de_ne e, Bool.not_false, Bool.and_true]
theorem e_startX {homes known : Nat → Int32} {post : Int32 → Int32 → Int32 → Int32 → (Nat → Int32) → (Nat → Int32) → (Nat → Int32) → (Nat → Int32) → Prop} (hh : ∀ j : Nat, j < 6 → nI j < td 1 → homes j = td (25 + j)) (hk : ∀ j, j < 6 → known j = td (37 + j)) (hp : ∀ hu' kn' lv' sn', XG td (S0 td) 0 0 0 0 hu' kn' lv' sn' → post 0 0 0 0 hu' kn' lv' sn') : q_wn_X3_start_6_0 mi av be cl hu kn lv sn homes known post := by
  intro hu1 e1 kn1 e2
  have c1 : ∀ j, j < 6 → hu1 j = homes j := cpy0 e1 rfl
  have c2 : ∀ j, j < 6 → kn1 j = known j := cpy0 e2 rfl
  intro P hP
  have loop : ∀ m i (lv1 : Nat → Int32), m = 5 - i → i ≤ 5 → (∀ j, j < i → lv1 j = -1) → P (nI i) lv1 := by
    intro m
    induction m using Nat.strongRecOn with
    | ind m ih =>
      intro i lv1 hm hi hI
      apply hP
      refine pk_le 5 i (fun h5 => ?_) (fun h5 => ⟨vp_in_nI h5 (by omega), fun lv2 e3 v e4 => ?_⟩)
      · intro P2 hP2
        have loop2 : ∀ m i (sn1 : Nat → Int32), m = 9 - i → i ≤ 9 → (∀ j, j < i → sn1 j = 0) → P2 (nI i) sn1 := by
          intro m
          induction m using Nat.strongRecOn with
          | ind m ih2 =>
            intro i sn1 hm hi hS
            apply hP2
            refine pk_le 9 i (fun h9 => ?_) (fun h9 => ⟨vp_in_nI h9 (by omega), fun sn2 e1 v e2 => ?_⟩)
            · refine hp hu1 kn1 lv1 sn1 ⟨fun j hj => by rw [hb_0]; rfl, fun j hj hl => (c1 j hj).trans (hh j hj hl), fun j hj => (c2 j hj).trans (hk j hj), fun t ht => hI t (by omega), fun j hj => hS j (by omega), rfl, rfl, rfl⟩
            · rw [e2, nI_1]
              refine ih2 (9 - (i + 1)) (by omega) (i + 1) sn2 rfl (by omega) (fun j hj => ?_)
              rw [e1, nI_clamp (by omega)]
              by_cases hji : j = i
              · rw [hji, up_s]
              · rw [up_n hji]; exact hS j (by omega)
        exact loop2 _ 0 sn rfl (by omega) (fun j hj => absurd hj (by omega))
      · rw [e4, nI_1]
        refine ih (5 - (i + 1)) (by omega) (i + 1) lv2 rfl (by omega) (fun j hj => ?_)
        rw [e3, nI_clamp (by omega)]
        by_cases hji : j = i
        · rw [hji, up_s]
        · rw [up_n hji]; exact hI j (by omega)
  exact loop _ 0 lv rfl (by omega) (fun j hj => absurd hj (by omega))
theorem e_playX {ev : Nat → Int32} {villages slide : Int32} {homes known : Nat → Int32} {deeds : Int32} {kinds firsts seconds : Nat → Int32} {n : Nat} {post : Int32 → Int32 → Int32 → Int32 → Int32 → (Nat → Int32) → (Nat → Int32) → (Nat → Int32) → (Nat → Int32) → Prop} (hR : RNG td) (hO : LOK td) (hD : LDR huts singers villages dams echoes deep slide heights ladders minutes echoFrom echoTo homes talls known td) (hE : R3 deeds kinds firsts seconds ev) (hEi : iv 0 40 (ev 0)) (hEk : ∀ j, j < 40 → iv 0 5 (ev (1 + 3 * j))) {x : Int32} (hx : x = nI n) (hn : nI n ≤ deeds) (hn40 : n ≤ 40)
    (hp : ∀ mi' av' be' cl' hu' kn' lv' sn', XG td (plays td ev n 0 (S0 td)).2 mi' av' be' cl' hu' kn' lv' sn' → post (nI (plays td ev n 0 (S0 td)).1) mi' av' be' cl' hu' kn' lv' sn') : q_wn_X3_play_6_15_0 mi av be cl hu kn lv sn huts singers dams echoes deep heights ladders minutes echoFrom echoTo homes talls known deeds kinds firsts seconds x post := by
  subst hx
  have hX := LX_of hR hD
  obtain ⟨c, hc, -, hc40, -⟩ := iv_nI hEi (by decide)
  have hdc : deeds = nI c := hE.1.trans hc
  have hnc : n ≤ c := by rw [hdc] at hn; exact (nI_leI (by omega) (by omega)).mp hn
  have b1 : iv 0 (6 : Nat) (td 1) := hR 1 (by omega)
  refine e_startX (fun j hj hl => (hD.2.2.2.2.2.2.2.2.2.2.2.1 j (lt_cln b1 (by omega) hl (by omega))).1) hD.2.2.2.2.2.2.2.2.2.2.2.2 (fun hu1 kn1 lv1 sn1 hG1 => ?_)
  intro P hP
  have loop : ∀ m j (S : Nat → Nat → Int32) mi av be cl hu kn lv sn, m = n - j → j ≤ n → NOK td S → XG td S mi av be cl hu kn lv sn → (∀ mi' av' be' cl' hu' kn' lv' sn', XG td (plays td ev m j S).2 mi' av' be' cl' hu' kn' lv' sn' → post (nI (plays td ev m j S).1) mi' av' be' cl' hu' kn' lv' sn') → P (nI j) mi av be cl hu kn lv sn := by
    intro m
    induction m with
    | zero =>
      intro j S mi av be cl hu kn lv sn hm hj hN hG hq
      apply hP
      have e1 : j = n := by omega
      subst e1
      exact pk_le j j (fun _ => hq _ _ _ _ _ _ _ _ hG) (fun h9 => absurd h9 (by omega))
    | succ m ih =>
      intro j S mi av be cl hu kn lv sn hm hj hN hG hq
      apply hP
      refine pk_le n j (fun h9 => absurd h9 (by omega)) (fun h9 => ?_)
      rw [hdc]
      refine pk_le c j (fun h8 => absurd h8 (by omega)) (fun h8 => ?_)
      have hin : vp_in (nI j) 40 := vp_in_nI (by omega) (by omega)
      refine ⟨hin, hin, hin, ?_⟩
      obtain ⟨k1, k2, k3⟩ := hE.2 j (by rw [hc, nI_clamp (by omega)]; omega)
      rw [nI_clamp (by omega), k1, k2, k3]
      unfold plays at hq
      refine e_actX hR hN hG hX (hEk j (by omega)) (fun mi' av' be' cl' hu' kn' lv' sn' hG' => ?_)
      have ok := act_ok (k := ev (1 + 3 * j)) (s := ev (2 + 3 * j)) (x := ev (3 + 3 * j)) hR hN
      by_cases hb1 : (actS td (ev (1 + 3 * j)) (ev (2 + 3 * j)) (ev (3 + 3 * j)) S).1 = true
      · rw [hb1]
        rw [if_pos hb1] at hq
        refine ⟨fun _ v ev2 => ?_, fun h7 => absurd h7 (by decide)⟩
        rw [ev2, nI_1]
        exact ih (j + 1) _ _ _ _ _ _ _ _ _ (by omega) (by omega) ok hG' hq
      · rw [Bool.not_eq_true] at hb1
        rw [hb1]
        rw [if_neg (by rw [hb1]; decide)] at hq
        exact ⟨fun h7 => absurd rfl h7, fun _ => hq _ _ _ _ _ _ _ _ hG'⟩
  exact loop n 0 (S0 td) _ _ _ _ _ _ _ _ (by omega) (by omega) (S0_ok hR hO) hG1 hp
end
end
section
theorem bit32_tab' : ((List.range 31).all fun i => (List.range 32).all fun k => hb (bitI i) k == decide (i = k)) = true := by decide +kernel
theorem hb_b32' {i k : Nat} (hi : i < 31) (hk : k < 32) : hb (bitI i) k = decide (i = k) := by
  have h := List.all_eq_true.mp (List.all_eq_true.mp bit32_tab' i (List.mem_range.mpr hi)) k (List.mem_range.mpr hk)
  exact eq_of_beq h
theorem lt_le3 {x y z : Int32} (h : x ≤ y) (h2 : y < z) : x < z := by
  rw [Int32.lt_iff_toInt_lt]
  have := r_le h
  have := r_lt h2
  omega
theorem le_tr {x y z : Int32} (h : x ≤ y) (h2 : y ≤ z) : x ≤ z := by
  rw [Int32.le_iff_toInt_le]
  have := r_le h
  have := r_le h2
  omega
theorem le_rf (x : Int32) : x ≤ x := by rw [Int32.le_iff_toInt_le]; omega
theorem gr_l (a b : Int32) : a ≤ gr a b := by
  unfold gr
  split
  · exact le_rf a
  · next h => rw [Int32.le_iff_toInt_le]; exact r_nlt h
theorem gr_r (a b : Int32) : b ≤ gr a b := by
  unfold gr
  split
  · next h => rw [Int32.le_iff_toInt_le]; have := r_lt h; omega
  · exact le_rf b
theorem lH_ge (w : Nat) (a b fh : Int32) : fh ≤ lH w a b fh := by
  unfold lH
  split
  · exact le_tr (gr_l fh a) (gr_l _ b)
  · split
    · exact gr_l fh a
    · exact le_rf fh
/-- huts told of so far are not beyond fh -/
def GO (td : Nat → Int32) (fh : Int32) : Prop := CB 0 td ∧ (∀ s : Nat, s < 6 → nI s < td 1 → td (25 + s) ≤ fh) ∧ (∀ k : Nat, k < 4 → nI k < td 4 → td (43 + 2 * k) ≤ fh ∧ td (44 + 2 * k) ≤ fh) ∧ ∀ h : Nat, h < 32 → hb (td 2) h = true → nI h ≤ fh
theorem GO_of {t td : Nat → Int32} {fh fh' : Int32} (h : GO td fh) (hC : CB 0 t) (h1 : t 1 = td 1) (h4 : t 4 = td 4) (hs : ∀ j, 25 ≤ j → j ≤ 30 → t j = td j) (hk : ∀ j, 43 ≤ j → j ≤ 50 → t j = td j) (hf : fh ≤ fh') (hv : ∀ h : Nat, h < 32 → hb (t 2) h = true → nI h ≤ fh') : GO t fh' := by
  refine ⟨hC, fun s hs6 hl => ?_, fun k hk4 hl => ?_, hv⟩
  · rw [h1] at hl
    rw [hs _ (by omega) (by omega)]
    exact le_tr (h.2.1 s hs6 hl) hf
  · rw [h4] at hl
    rw [hk _ (by omega) (by omega), hk _ (by omega) (by omega)]
    exact ⟨le_tr (h.2.2.1 k hk4 hl).1 hf, le_tr (h.2.2.1 k hk4 hl).2 hf⟩
theorem GO_ln {B : Nat → Int32} {n r w : Nat} {td : Nat → Int32} {fh : Int32} (hw : w < 10) (h : GO td fh) : GO (lD w (gd B n r w (nW w)) (tV B n (ps B n r 1)) (tV B n (ps B n r 2)) (tV B n (ps B n r 3)) td) (lH w (tV B n (ps B n r 1)) (tV B n (ps B n r 2)) fh) := by
  have hC : CB 0 (lD w (gd B n r w (nW w)) (tV B n (ps B n r 1)) (tV B n (ps B n r 2)) (tV B n (ps B n r 3)) td) := CB_ln (by omega) ⟨Nat.zero_le _, hw⟩ h.1
  have hf := lH_ge w (tV B n (ps B n r 1)) (tV B n (ps B n r 2)) fh
  have vv : ∀ {t : Nat → Int32} {fh' : Int32}, fh ≤ fh' → t 2 = td 2 → ∀ h : Nat, h < 32 → hb (t 2) h = true → nI h ≤ fh' := by
    intro t fh' hf e x hx hb1
    rw [e] at hb1
    exact le_tr (h.2.2.2 x hx hb1) hf
  have c0 : iv 0 (9 : Nat) (td 0) := h.1.1
  have c1 : iv 0 (6 : Nat) (td 1) := (h.1.2 rfl).1
  have c4 : iv 0 (4 : Nat) (td 4) := (h.1.2 rfl).2
  obtain ⟨n0, e0, -, hn0, -⟩ := iv_nI c0 (by decide)
  obtain ⟨n1, e1, -, hn1, -⟩ := iv_nI c1 (by decide)
  obtain ⟨n4, e4, -, hn4, -⟩ := iv_nI c4 (by decide)
  have hg : gd B n r w (nW w) = true → ∀ k, k < nW w → cW w k (tV B n (ps B n r 1)) (tV B n (ps B n r (k + 1))) = true := fun hg k hk => gd_c _ hg k hk
  generalize eg : gd B n r w (nW w) = g at hC hg ⊢
  generalize ea : tV B n (ps B n r 1) = a at hC hf hg ⊢
  have hg0 : g = true → cW w 0 a a = true := fun hh => by
    have h9 := hg hh 0 (by have := (nW_tb w (by omega)).2.1; omega)
    rw [show 0 + 1 = 1 from rfl, ea] at h9
    exact h9
  have hg1 : g = true → w = 5 → cW w 1 a (tV B n (ps B n r 2)) = true := fun hh h5 => by
    have h9 := hg hh 1 (by rw [h5]; decide)
    exact h9
  generalize eb : tV B n (ps B n r 2) = b at hC hf hg1 ⊢
  generalize ec : tV B n (ps B n r 3) = c at hC ⊢
  clear hg eg ea eb ec
  have hc : w = 0 ∨ w = 1 ∨ w = 2 ∨ w = 3 ∨ w = 4 ∨ w = 5 ∨ w = 6 ∨ w = 7 ∨ w = 8 ∨ w = 9 := by omega
  rcases hc with rfl | rfl | rfl | rfl | rfl | rfl | rfl | rfl | rfl | rfl
  · have e : ∀ j, ¬ j = 0 → ¬ (7 ≤ j ∧ j ≤ 15) → lD 0 g a b c td j = td j := by
      intro j hj hj2
      show (if td 0 = 9 then td else upd (upd td 0 (td 0 + 1)) (Int32.toNatClampNeg (7 + td 0)) a) j = td j
      split
      · rfl
      · next h9 =>
        have : ¬ n0 = 9 := fun e => h9 (by rw [e0, e]; rfl)
        rw [e0, show (7 : Int32) + nI n0 = nI (7 + n0) from jx 7 n0, nI_clamp (by omega), up_n (by omega), up_n hj]
    exact GO_of h hC (e 1 (by omega) (by omega)) (e 4 (by omega) (by omega)) (fun j _ _ => e j (by omega) (by omega)) (fun j _ _ => e j (by omega) (by omega)) hf (vv hf (e 2 (by omega) (by omega)))
  · have e : ∀ j, ¬ j = 2 → lD 1 g a b c td j = td j := fun j hj => up_n hj
    refine GO_of h hC (e 1 (by omega)) (e 4 (by omega)) (fun j _ _ => e j (by omega)) (fun j _ _ => e j (by omega)) hf (fun x hx hbx => ?_)
    have e2 : lD 1 g a b c td 2 = td 2 ||| (if g = true then 1 <<< (a &&& 31) else 0) := by
      show upd td 2 (td 2 ||| (if g = true then 1 <<< (a &&& 31) else 0)) 2 = _
      rw [up_s]
    rw [e2, hb_or, Bool.or_eq_true] at hbx
    rcases hbx with hbx | hbx
    · exact le_tr (h.2.2.2 x hx hbx) hf
    · by_cases hh : g = true
      · rw [if_pos hh] at hbx
        obtain ⟨p, rfl, -, hp, -⟩ := iv_nI (iv_hut (hg0 hh) (by decide +kernel)) (by decide)
        have e3 : hb (bitI p) x = true := hbx
        rw [hb_b32' (by omega) hx] at e3
        rw [← of_decide_eq_true e3]
        exact gr_r fh (nI p)
      · rw [if_neg hh, hb_0] at hbx
        exact absurd hbx (by decide)
  · have e : ∀ j, ¬ j = 3 → lD 2 g a b c td j = td j := fun j hj => up_n hj
    exact GO_of h hC (e 1 (by omega)) (e 4 (by omega)) (fun j _ _ => e j (by omega)) (fun j _ _ => e j (by omega)) hf (vv hf (e 2 (by omega)))
  · have e : ∀ j, ¬ j = 5 → lD 3 g a b c td j = td j := fun j hj => up_n hj
    exact GO_of h hC (e 1 (by omega)) (e 4 (by omega)) (fun j _ _ => e j (by omega)) (fun j _ _ => e j (by omega)) hf (vv hf (e 2 (by omega)))
  · have e : ∀ j, ¬ j = 6 → lD 4 g a b c td j = td j := fun j hj => up_n hj
    exact GO_of h hC (e 1 (by omega)) (e 4 (by omega)) (fun j _ _ => e j (by omega)) (fun j _ _ => e j (by omega)) hf (vv hf (e 2 (by omega)))
  · have e : ∀ j, j ≤ 50 → lD 5 g a b c td j = td j := by
      intro j hj
      show (if g = true then upd (upd td (Int32.toNatClampNeg ((51 + 9 * a) + b)) c) (Int32.toNatClampNeg ((51 + 9 * b) + a)) c else td) j = td j
      split
      · next hh =>
        obtain ⟨p, rfl, -, hp, -⟩ := iv_nI (iv_hut (hg0 hh) (by decide +kernel)) (by decide)
        obtain ⟨q, rfl, -, hq, -⟩ := iv_nI (iv_hut (hg1 hh rfl) (by decide +kernel)) (by decide)
        rw [ix9, ix9, nI_clamp (by omega), nI_clamp (by omega), up_n (by omega), up_n (by omega)]
      · rfl
    exact GO_of h hC (e 1 (by omega)) (e 4 (by omega)) (fun j _ _ => e j (by omega)) (fun j _ _ => e j (by omega)) hf (vv hf (e 2 (by omega)))
  · have hl1 : a ≤ lH 6 a b fh := le_tr (gr_r fh a) (gr_l _ b)
    have hl2 : b ≤ lH 6 a b fh := gr_r _ b
    have ev : lD 6 g a b c td = (if td 4 = 4 then td else upd (upd (upd td 4 (td 4 + 1)) (Int32.toNatClampNeg (43 + 2 * td 4)) a) (Int32.toNatClampNeg (43 + 2 * td 4 + 1)) b) := rfl
    by_cases h9 : td 4 = 4
    · rw [if_pos h9] at ev
      rw [ev] at hC ⊢
      exact GO_of h hC rfl rfl (fun _ _ _ => rfl) (fun _ _ _ => rfl) hf (vv hf rfl)
    · rw [if_neg h9] at ev
      have hn : ¬ n4 = 4 := fun e => h9 (by rw [e4, e]; rfl)
      have hi : (43 : Int32) + 2 * nI n4 = nI (43 + 2 * n4) := by rw [show (43 : Int32) = nI 43 from rfl, show (2 : Int32) = nI 2 from rfl, pk_mul, nI_add]
      rw [e4, hi, nI_1 n4, nI_1 (43 + 2 * n4), nI_clamp (by omega), nI_clamp (by omega)] at ev
      rw [ev] at hC ⊢
      refine ⟨hC, fun s hs6 hl => ?_, fun k hk4 hl => ?_, vv hf (by rw [up_n (by omega), up_n (by omega), up_n (by omega)])⟩
      · rw [up_n (by omega), up_n (by omega), up_n (by omega)] at hl ⊢
        exact le_tr (h.2.1 s hs6 hl) hf
      · rw [up_n (by omega), up_n (by omega), up_s] at hl
        by_cases hkn : k = n4
        · subst hkn
          rw [up_n (by omega), up_s, show 44 + 2 * k = 43 + 2 * k + 1 by omega, up_s]
          exact ⟨hl1, hl2⟩
        · have hlt : nI k < td 4 := by
            rw [e4]
            have := (nI_ltI (by omega) (by omega)).mp hl
            exact nI_lt (by omega) (by omega)
          rw [up_n (by omega), up_n (by omega), up_n (by omega), up_n (by omega), up_n (by omega), up_n (by omega)]
          exact ⟨le_tr (h.2.2.1 k hk4 hlt).1 hf, le_tr (h.2.2.1 k hk4 hlt).2 hf⟩
  · have e : ∀ j, ¬ (16 ≤ j ∧ j ≤ 24) → lD 7 g a b c td j = td j := by
      intro j hj
      show (if g = true then upd td (Int32.toNatClampNeg (16 + a)) b else td) j = td j
      split
      · next hh =>
        obtain ⟨p, rfl, -, hp, -⟩ := iv_nI (iv_hut (hg0 hh) (by decide +kernel)) (by decide)
        rw [show (16 : Int32) + nI p = nI (16 + p) from jx 16 p, nI_clamp (by omega), up_n (by omega)]
      · rfl
    exact GO_of h hC (e 1 (by omega)) (e 4 (by omega)) (fun j _ _ => e j (by omega)) (fun j _ _ => e j (by omega)) hf (vv hf (e 2 (by omega)))
  · have hl1 : a ≤ lH 8 a b fh := gr_r fh a
    have ev : lD 8 g a b c td = (if td 1 = 6 then td else upd (upd (upd td 1 (td 1 + 1)) (Int32.toNatClampNeg (25 + td 1)) a) (Int32.toNatClampNeg (31 + td 1)) b) := rfl
    by_cases h9 : td 1 = 6
    · rw [if_pos h9] at ev
      rw [ev] at hC ⊢
      exact GO_of h hC rfl rfl (fun _ _ _ => rfl) (fun _ _ _ => rfl) hf (vv hf rfl)
    · rw [if_neg h9] at ev
      have hn : ¬ n1 = 6 := fun e => h9 (by rw [e1, e]; rfl)
      rw [e1, show (25 : Int32) + nI n1 = nI (25 + n1) from jx 25 n1, show (31 : Int32) + nI n1 = nI (31 + n1) from jx 31 n1, nI_1 n1, nI_clamp (by omega), nI_clamp (by omega)] at ev
      rw [ev] at hC ⊢
      refine ⟨hC, fun s hs6 hl => ?_, fun k hk4 hl => ?_, vv hf (by rw [up_n (by omega), up_n (by omega), up_n (by omega)])⟩
      · rw [up_n (by omega), up_n (by omega), up_s] at hl
        by_cases hsn : s = n1
        · subst hsn
          rw [up_n (by omega), up_s]
          exact hl1
        · have hlt : nI s < td 1 := by
            rw [e1]
            have := (nI_ltI (by omega) (by omega)).mp hl
            exact nI_lt (by omega) (by omega)
          rw [up_n (by omega), up_n (by omega), up_n (by omega)]
          exact le_tr (h.2.1 s hs6 hlt) hf
      · rw [up_n (by omega), up_n (by omega), up_n (by omega)] at hl
        rw [up_n (by omega), up_n (by omega), up_n (by omega), up_n (by omega), up_n (by omega), up_n (by omega)]
        exact ⟨le_tr (h.2.2.1 k hk4 hl).1 hf, le_tr (h.2.2.1 k hk4 hl).2 hf⟩
  · have e : ∀ j, ¬ (37 ≤ j ∧ j ≤ 42) → lD 9 g a b c td j = td j := by
      intro j hj
      show (if g = true then upd td (Int32.toNatClampNeg (37 + a)) (td (Int32.toNatClampNeg (37 + a)) ||| 1 <<< (b &&& 31)) else td) j = td j
      split
      · next hh =>
        have h5 : iv 0 5 a := iv_w (cW_iv (hg0 hh)) (by decide +kernel)
        obtain ⟨p, rfl, -, hp, -⟩ := iv_nI h5 (by decide)
        rw [show (37 : Int32) + nI p = nI (37 + p) from jx 37 p, nI_clamp (by omega), up_n (by omega)]
      · rfl
    exact GO_of h hC (e 1 (by omega)) (e 4 (by omega)) (fun j _ _ => e j (by omega)) (fun j _ _ => e j (by omega)) hf (vv hf (e 2 (by omega)))
theorem go_LO {B : Nat → Int32} {n : Nat} : ∀ m r fa pl td fh fs, r ≤ n → n < m + r → GO td fh → (go B n 0 m r fa pl td fh fs).1 = 0 → LOK (go B n 0 m r fa pl td fh fs).2.2 := by
  intro m
  induction m with
  | zero => intro r fa pl td fh fs hr hm; omega
  | succ m ih =>
    intro r fa pl td fh fs hr hm hG h0
    unfold go at h0 ⊢
    by_cases hk : tK B n r = 0
    · rw [if_pos hk] at h0 ⊢
      unfold fin4 at h0 ⊢
      by_cases h4 : fa = 0 ∧ 0 = 0 ∧ (td 0 ≤ fh ∨ td 1 ≤ fs)
      · rw [if_pos h4] at h0
        exact absurd (show (4 : Int32) = 0 from h0) (by decide)
      · rw [if_neg h4] at h0 ⊢
        have hlt : fh < td 0 := by
          rw [← Int32.not_le]
          intro h9
          exact h4 ⟨h0, rfl, Or.inl h9⟩
        exact ⟨fun s hs hl => lt_le3 (hG.2.1 s hs hl) hlt, fun k hk4 hl => ⟨lt_le3 (hG.2.2.1 k hk4 hl).1 hlt, lt_le3 (hG.2.2.1 k hk4 hl).2 hlt⟩, fun x hx hbx => lt_le3 (hG.2.2.2 x hx hbx) hlt⟩
    · rw [if_neg hk] at h0 ⊢
      by_cases h9 : lb B n r 0 = 9
      · rw [if_pos h9] at h0 ⊢
        have hw : wOf B n r 0 < 10 := by
          rcases wd_cases (B := B) (n := n) (r := r) (o := 0) (by omega) with ⟨e, _⟩ | ⟨_, hP⟩
          · unfold lb at h9
            rw [if_pos e] at h9
            omega
          · exact hP.2.1
        have hp1 := (ps_le (B := B) hr (nW (wOf B n r 0) + 2)).2
        have hp2 := ps_lt (B := B) hr hk (nW (wOf B n r 0) + 1)
        have hp3 : r + 1 ≤ ps B n r (nW (wOf B n r 0) + 2) := hp2
        exact ih _ _ _ _ _ _ hp1 (by omega) (GO_ln hw hG) h0
      · rw [if_neg h9] at h0
        exact absurd (show (1 : Int32) = 0 from h0) (by decide)
theorem tx_LO {B : Nat → Int32} {n : Nat} (h : (tx B n 0).1 = 0) : LOK (tx B n 0).2.2 := by
  unfold tx at h ⊢
  refine go_LO _ _ _ _ _ _ _ (Nat.zero_le _) (by omega) ⟨CB_ini (by omega) (fun _ _ => rfl), fun s hs hl => ?_, fun k hk hl => ?_, fun x _ hbx => by rw [show ini 0 2 = 0 from rfl, hb_0] at hbx; exact absurd hbx (by decide)⟩ h
  · exact absurd hl (nI_pos (by omega))
  · exact absurd hl (nI_pos (by omega))
theorem LOK_ext {td td' : Nat → Int32} (h : LOK td) (e : ∀ j, j < 132 → td' j = td j) : LOK td' := by
  refine ⟨fun s hs hl => ?_, fun k hk hl => ?_, fun x hx hbx => by rw [e 0 (by omega)]; rw [e 2 (by omega)] at hbx; exact h.2.2 x hx hbx⟩
  · rw [e 1 (by omega)] at hl
    rw [e _ (by omega), e 0 (by omega)]
    exact h.1 s hs hl
  · rw [e 4 (by omega)] at hl
    rw [e (43 + 2 * k) (by omega), e (44 + 2 * k) (by omega), e 0 (by omega)]
    exact h.2.1 k hk hl
/-- the lands of a slot are as told -/
def LKs (M : Nat → Nat → Int32) (s : Nat) : Prop := ∀ k : Nat, k < 2 → nI k < M 4 (4 * s) → LOK (fun j => M 5 (264 * s + 132 * k + j))
def LK (M : Nat → Nat → Int32) : Prop := LKs M 0 ∧ ∀ j, j < 3 → ¬ M 9 j = 0 → LKs M (j + 1)
theorem LKs_mv {M M' : Nat → Nat → Int32} {s s' : Nat} (h : ∀ c, c < 9 → ∀ i, i < wR c → M' c (wR c * s' + i) = M c (wR c * s + i)) (hT : LKs M s) : LKs M' s' := by
  intro k hk hl
  have e4 : M' 4 (4 * s') = M 4 (4 * s) := h 4 (by omega) 0 (by decide)
  rw [e4] at hl
  refine LOK_ext (hT k hk hl) (fun j hj => ?_)
  have g := h 5 (by omega) (132 * k + j) (by show 132 * k + j < 264; omega)
  have w5 : wR 5 = 264 := rfl
  rw [w5] at g
  show M' 5 (264 * s' + 132 * k + j) = M 5 (264 * s + 132 * k + j)
  rw [Nat.add_assoc, Nat.add_assoc]
  exact g
theorem LK_eq {M M' : Nat → Nat → Int32} (h : ∀ i, i < 10 → 2 ≤ i → M' i = M i) (hK : LK M) : LK M' := by
  refine ⟨fun k hk hl => ?_, fun j hj hn k hk hl => ?_⟩
  · rw [h 4 (by omega) (by omega)] at hl
    rw [h 5 (by omega) (by omega)]
    exact hK.1 k hk hl
  · rw [h 9 (by omega) (by omega)] at hn
    rw [h 4 (by omega) (by omega)] at hl
    rw [h 5 (by omega) (by omega)]
    exact hK.2 j hj hn k hk hl
theorem LK_fd {M M' : Nat → Nat → Int32} {a b c d e r : Int32} (h : mFD M M' a b c d e r) (hK : LK M) : LK M' := LK_eq (fun i h1 h2 => h.1.1 i h2 h1) hK
theorem LK_en {M M' : Nat → Nat → Int32} {a r : Int32} (h : mEN M M' a r) (hK : LK M) : LK M' := LK_eq (fun i h1 h2 => h.1.1 i h2 h1) hK
theorem LK_im {M M' : Nat → Nat → Int32} {a r : Int32} (h : mIM M M' a r) (hK : LK M) : LK M' := by
  by_cases hj : imJ a
  · obtain ⟨k, hk, e⟩ := imJ_nI.mp hj
    obtain ⟨_, hc, h1, hs⟩ := h.2 k hk e
    refine ⟨LKs_mv (mCP_out hc (by omega)) hK.1, fun j hj3 hn => ?_⟩
    by_cases hjk : j = k
    · subst hjk
      exact LKs_mv (fun c hc9 i hi => (hc c hc9).1 i hi) hK.1
    · rw [hs j hjk] at hn
      exact LKs_mv (mCP_out hc (by omega)) (hK.2 j hj3 hn)
  · exact LK_eq (fun i h1 _ => (h.1 hj).2 i h1) hK
theorem LK_ag {M M' : Nat → Nat → Int32} {a r : Int32} (h : mAG M M' a r) (hK : LK M) : LK M' := by
  by_cases hx : ∃ k, k < 3 ∧ a = nI k ∧ ¬ M 9 k = 0
  · obtain ⟨k, hk, e, hn⟩ := hx
    obtain ⟨_, hc, h9⟩ := h.2 k hk e hn
    refine ⟨LKs_mv (fun c hc9 i hi => (hc c hc9).1 i hi) (hK.2 k hk hn), fun j hj3 hn2 => ?_⟩
    rw [h9] at hn2
    exact LKs_mv (mCP_out hc (by omega)) (hK.2 j hj3 hn2)
  · exact LK_eq (fun i h1 _ => (h.1 hx).2 i h1) hK
theorem LK_tx {M M' : Nat → Nat → Int32} {a1 a2 r : Int32} (h : mTX M M' a1 a2 r) (hc : ∀ o, o < 4 → iv 0 2 (M 4 o)) (hK : LK M) : LK M' := by
  obtain ⟨m0, m9, ml, ms, mn, my⟩ := h
  have stay : (∀ i, 4 ≤ i → i < 9 → M' i = M i) → LK M' := by
    intro h
    refine ⟨fun k hk hl => ?_, fun j hj hn k hk hl => ?_⟩
    · rw [h 4 (by omega) (by omega)] at hl
      rw [h 5 (by omega) (by omega)]
      exact hK.1 k hk hl
    · rw [m9] at hn
      rw [h 4 (by omega) (by omega)] at hl
      rw [h 5 (by omega) (by omega)]
      exact hK.2 j hj hn k hk hl
  by_cases hx : ∃ o k, o < 4 ∧ k < 2 ∧ a1 = nI o ∧ NUM (M 4 o) a2 k
  · obtain ⟨o, k, ho, hk, e, hN⟩ := hx
    obtain ⟨_, _, hf, hg⟩ := my o k ho hk e hN
    by_cases h0 : (MXr M o).1 = 0
    · obtain ⟨_, e4, ein, eout, eo⟩ := hg h0
      by_cases ho0 : o = 0
      · subst ho0
        have w0 : wD 0 = 132 := rfl
        rw [w0] at ein eout
        refine ⟨fun k' hk' hl => ?_, fun j hj hn k' hk' hl => ?_⟩
        · by_cases hkk : k' = k
          · subst hkk
            refine LOK_ext (tx_LO h0) (fun j hj => ?_)
            have g := ein j hj
            show M' 5 (264 * 0 + 132 * k' + j) = _
            rw [Nat.mul_zero, Nat.zero_add]
            exact g
          · have hlt : nI k' < M 4 (4 * 0) := by
              rw [e4, up_s] at hl
              unfold cmx at hl
              obtain ⟨c, ec, -, hc2, -⟩ := iv_nI (hc 0 (by omega)) (by decide)
              show nI k' < M 4 0
              rw [ec] at hl ⊢
              rcases hN with ⟨_, q⟩ | ⟨_, _, q⟩
              · rw [ec] at q
                have : c = k := (nI_eq (by omega) (by omega)).mp q
                subst this
                rw [nI_1, if_pos (nI_lt (by omega) (by omega))] at hl
                have := (nI_ltI (by omega) (by omega)).mp hl
                exact nI_lt (by omega) (by omega)
              · rw [ec] at q
                have := (nI_ltI (by omega) (by omega)).mp q
                rw [nI_1, if_neg (fun h9 => by have := (nI_ltI (by omega) (by omega)).mp h9; omega)] at hl
                exact hl
            refine LOK_ext (hK.1 k' hk' hlt) (fun j hj => ?_)
            show M' 5 (264 * 0 + 132 * k' + j) = M 5 (264 * 0 + 132 * k' + j)
            exact eout _ (by omega)
        · rw [m9] at hn
          have e44 : M' 4 (4 * (j + 1)) = M 4 (4 * (j + 1)) := by rw [e4, up_n (by omega)]
          rw [e44] at hl
          refine LOK_ext (hK.2 j hj hn k' hk' hl) (fun i hi => ?_)
          show M' 5 (264 * (j + 1) + 132 * k' + i) = M 5 (264 * (j + 1) + 132 * k' + i)
          exact eout _ (by omega)
      · have e5 : M' 5 = M 5 := eo 5 (by omega) (by omega) (by omega)
        refine ⟨fun k' hk' hl => ?_, fun j hj hn k' hk' hl => ?_⟩
        · rw [e4, up_n (by omega)] at hl
          rw [e5]
          exact hK.1 k' hk' hl
        · rw [m9] at hn
          rw [e4, up_n (by omega)] at hl
          rw [e5]
          exact hK.2 j hj hn k' hk' hl
    · exact stay (hf h0).2
  · exact stay (mn hx).2.2.2
/-- land k of the reference's rows is as told -/
theorem LK_row {M : Nat → Nat → Int32} {k : Nat} (hK : LK M) (hk : k < 2) (hl : nI k < M 4 0) : LOK (rowM M 0 (nI k)) := by
  refine LOK_ext (hK.1 k hk hl) (fun j hj => ?_)
  unfold rowM
  rw [nI_clamp (by omega)]
  show M 5 (132 * k + j) = M 5 (264 * 0 + 132 * k + j)
  rw [Nat.mul_zero, Nat.zero_add]
/-- what all calls keep: both sides are told alike, lands as told -/
def RG (T : TT) (M : Nat → Nat → Int32) (I : Nat → TT) (mi : Nat → Option Nat) : Prop := RF T M I mi ∧ LK M
theorem RG_fd {T T' : TT} {M M' : Nat → Nat → Int32} {I : Nat → TT} {mi : Nat → Option Nat} {a b c d e r1 r2 : Int32} (h : RG T M I mi) (hB : tB T) (hI : tBI I mi) (h1 : xFD T T' a b c d e r1) (h2 : mFD M M' a b c d e r2) : r1 = r2 ∧ RG T' M' I mi := ⟨(RF_fd h.1 hB hI h1 h2).1, (RF_fd h.1 hB hI h1 h2).2, LK_fd h2 h.2⟩
theorem RG_en {T T' : TT} {M M' : Nat → Nat → Int32} {I : Nat → TT} {mi : Nat → Option Nat} {a r1 r2 : Int32} (h : RG T M I mi) (hB : tB T) (hI : tBI I mi) (h1 : xEN T T' a r1) (h2 : mEN M M' a r2) : r1 = r2 ∧ RG T' M' I mi := ⟨(RF_en h.1 hB hI h1 h2).1, (RF_en h.1 hB hI h1 h2).2, LK_en h2 h.2⟩
theorem RG_im {T : TT} {M M' : Nat → Nat → Int32} {I I' : Nat → TT} {mi mi' : Nat → Option Nat} {a r1 r2 : Int32} (h : RG T M I mi) (hB : tB T) (hI : tBI I mi) (h1 : xIM mi mi' I I' T a r1) (h2 : mIM M M' a r2) : r1 = r2 ∧ RG T M' I' mi' := ⟨(RF_im h.1 hB hI h1 h2).1, (RF_im h.1 hB hI h1 h2).2, LK_im h2 h.2⟩
theorem RG_ag {T T' : TT} {M M' : Nat → Nat → Int32} {I : Nat → TT} {mi : Nat → Option Nat} {a r1 r2 : Int32} (h : RG T M I mi) (hB : tB T) (hI : tBI I mi) (h1 : xAG mi I T T' a r1) (h2 : mAG M M' a r2) : r1 = r2 ∧ RG T' M' I mi := ⟨(RF_ag h.1 hB hI h1 h2).1, (RF_ag h.1 hB hI h1 h2).2, LK_ag h2 h.2⟩
theorem RG_tx {T T' : TT} {M M' : Nat → Nat → Int32} {I : Nat → TT} {mi : Nat → Option Nat} {a1 a2 r1 r2 : Int32} (h : RG T M I mi) (hB : tB T) (hB' : tB T') (hI : tBI I mi) (h1 : xTX T T' a1 a2 r1) (h2 : mTX M M' a1 a2 r2) : r1 = r2 ∧ RG T' M' I mi := ⟨(RF_tx h.1 hB hB' hI h1 h2).1, (RF_tx h.1 hB hB' hI h1 h2).2, LK_tx h2 (fun o ho => by rw [TM_cnt h.1.1 o ho]; exact hB.2.2.1 o) h.2⟩
end
section
def ANc (M : Nat → Nat → Int32) (a b : Int32) : Prop := (0 ≤ a ∧ a < M 4 0) ∧ (0 ≤ b ∧ b < M 4 1)
def PL (M : Nat → Nat → Int32) (a b : Int32) (n : Nat) : Nat × (Nat → Nat → Int32) := plays (rowM M 0 a) (rowM M 1 b) n 0 (S0 (rowM M 0 a))
def AN_stop (M : Nat → Nat → Int32) (a b : Int32) : Int32 := if (0 ≤ a ∧ a < M 4 0) ∧ (0 ≤ b ∧ b < M 4 1) then nI (PL M a b (cN (rowM M 1 b 0))).1 else -1
theorem RNG_M {M : Nat → Nat → Int32} {k : Nat} (hL : mLand (M 5)) (hk : k < 2) : RNG (rowM M 0 (nI k)) := fun j hj => row_iv hL hk hj
theorem ev0_iv {M : Nat → Nat → Int32} {e : Nat} (hE : mEve (M 6)) (he : e < 2) : iv 0 40 (rowM M 1 (nI e) 0) := by
  have g := (hE e (by omega)).1
  unfold rowM
  rw [nI_clamp (by omega)]
  exact g
theorem e_deedsM {M : Nat → Nat → Int32} {e : Nat} {post : Int32 → Prop} (he : e < 2) (hp : post (rowM M 1 (nI e) 0)) : q_m_deeds_0 (M 6) (nI e) post := by
  have e9 : (121 : Int32) * nI e = nI (121 * e) := pk_mul 121 e
  refine ⟨by rw [e9]; exact vp_in_nI (by omega) (by omega), ?_⟩
  unfold rowM at hp
  rw [nI_clamp (by omega)] at hp
  rw [e9, nI_clamp (by omega)]
  exact hp
theorem e_layAllM {M : Nat → Nat → Int32} {ld hu si ev a b : Int32} {post : Int32 → Int32 → Int32 → Int32 → Int32 → Prop} (hc : ∀ o, iv 0 2 (M 4 o)) (h0 : ¬ ((0 ≤ a ∧ a < M 4 0) ∧ (0 ≤ b ∧ b < M 4 1)) → ∀ x y z w, post 0 x y z w) (h1 : ∀ k e, k < 2 → e < 2 → a = nI k → b = nI e → (0 ≤ a ∧ a < M 4 0) → (0 ≤ b ∧ b < M 4 1) → post 1 (nI k) (tdM M k 0) (tdM M k 1) (nI e)) : q_m_layAll_0 (M 4) (M 5) ld hu si ev a b post := by
  refine e_is (o := 1) (by omega) (hc 1) (fun hn => ⟨rfl, iz (h0 (fun h9 => hn h9.2) _ _ _ _)⟩) (fun hy => ⟨rfl, oi ?_⟩)
  refine e_hand (hc 0) (fun hn => iz (h0 (fun h9 => hn h9.1) _ _ _ _)) (fun k hk ea hy0 => oi ?_)
  obtain ⟨e, he, eb⟩ := lt_nI (m := 2) (hc 1) hy
  have h2 := h1 k e hk he ea eb hy0 hy
  rw [← eb] at h2
  exact h2

theorem e_m_stop {M : Nat → Nat → Int32} {cd ld hu si ev be mi av a b : Int32} {at_ kn cl sn lv : Nat → Int32} {post : Int32 → Int32 → Int32 → Int32 → Int32 → Int32 → (Nat → Int32) → (Nat → Int32) → (Nat → Int32) → (Nat → Int32) → (Nat → Int32) → Int32 → Int32 → Int32 → Prop} (hc : ∀ o, iv 0 2 (M 4 o)) (hL : mLand (M 5)) (hE : mEve (M 6)) (hK : LK M) (hp : ∀ x1 x2 x3 x4 x5 x6 x7 x8 x9 x10 x11 x12 x13, post (AN_stop M a b) x1 x2 x3 x4 x5 x6 x7 x8 x9 x10 x11 x12 x13) : q_m_stop_0 cd (M 4) (M 5) (M 6) ld hu si ev at_ kn cl sn lv be mi av a b post := by
  unfold AN_stop at hp
  refine e_layAllM hc (fun hn x y z w => iz ?_) (fun k e hk he ea eb h1 h2 => oi ?_)
  · rw [if_neg hn] at hp
    exact hp _ _ _ _ _ _ _ _ _ _ _ _ _
  · rw [if_pos ⟨h1, h2⟩, ea, eb] at hp
    refine e_deedsM he ?_
    obtain ⟨c, ec, -, hc40, -⟩ := iv_nI (ev0_iv hE he) (by decide)
    rw [ec] at hp ⊢
    rw [cN_nI (by omega)] at hp
    exact e_playM hk he (by omega) hL hE (LK_row hK hk (by rw [← ea]; exact h1.2)) (fun S' hS => hp _ _ _ _ _ _ _ _ _ _ _ _ _)
set_option maxRecDepth 40000 in
set_option maxHeartbeats 4000000 in
theorem e_x_stop {T : TT} {M : Nat → Nat → Int32} {nf_minute nf_avalanches nf_begun nf_climbed a b : Int32} {na_huts na_known na_levels na_snow : Nat → Int32} {post : Int32 → (Int32) → (Int32) → (Int32) → (Int32) → (Nat → Int32) → (Nat → Int32) → (Nat → Int32) → (Nat → Int32) → Prop} (h : TM T M 0) (hB : tB T) (hK : LK M) (hL : mLand (M 5)) (hE : mEve (M 6)) (hp : ∀ z0 z1 z2 z3 z4 z5 z6 z7, post (AN_stop M a b) z0 z1 z2 z3 z4 z5 z6 z7) : q_wx_X10_stop_0 (T.2 1) (T.1 3) (T.1 4) (T.1 6) (T.1 7) (T.1 8) (T.2 2) (T.2 3) (T.2 4) (T.2 5) (T.2 6) (T.2 7) (T.2 8) (T.2 9) (T.1 10) (T.1 11) (T.1 13) (T.1 14) (T.1 15) (T.2 10) (T.2 11) (T.2 12) (T.2 13) (T.2 14) (T.2 15) (T.2 16) (T.2 17) (T.1 17) (T.2 18) (T.2 19) (T.2 20) (T.1 18) (T.2 21) (T.2 22) (T.2 23) nf_minute nf_avalanches nf_begun nf_climbed na_huts na_known na_levels na_snow a b post := by
  unfold AN_stop at hp
  rw [TM_cnt h 0 (by decide), TM_cnt h 1 (by decide)] at hp
  refine e_at (hB.2.2.1 0) (fun (hn : ¬ (0 ≤ a ∧ a < T.2 1 0)) => ?_) (fun ea hla => ?_) (fun ea hla => ?_)
  · rw [if_neg (fun h9 => hn h9.1)] at hp
    refine ⟨fun _ => ?_, fun h9 => absurd h9 (by decide), fun h9 => absurd rfl h9⟩
    refine e_at (hB.2.2.1 1) (fun (hm : ¬ (0 ≤ b ∧ b < T.2 1 1)) => ?_) (fun eb hlb => ?_) (fun eb hlb => ?_)
    · exact ⟨fun _ => hp _ _ _ _ _ _ _ _, fun h9 => absurd h9 (by decide), fun h9 => absurd rfl h9⟩
    · exact ⟨fun h9 => absurd h9 (by decide), fun h9 => absurd h9 (by decide), fun _ _ => hp _ _ _ _ _ _ _ _⟩
    · exact ⟨fun h9 => absurd h9 (by decide), fun _ => hp _ _ _ _ _ _ _ _, fun _ h9 => absurd rfl h9⟩
  · refine ⟨fun h9 => absurd h9 (by decide), fun h9 => absurd h9 (by decide), fun _ _ => ?_⟩
    refine e_at (hB.2.2.1 1) (fun (hm : ¬ (0 ≤ b ∧ b < T.2 1 1)) => ?_) (fun eb hlb => ?_) (fun eb hlb => ?_)
    · rw [if_neg (fun h9 => hm h9.2)] at hp
      exact ⟨fun _ => hp _ _ _ _ _ _ _ _, fun h9 => absurd h9 (by decide), fun h9 => absurd rfl h9⟩
    · rw [if_pos (by rw [ea, eb]; exact ⟨⟨by decide, hla⟩, by decide, hlb⟩), ea, eb] at hp
      have hLD : LDR (T.1 3) (T.1 4) (T.1 5) (T.1 6) (T.1 7) (T.1 8) (T.1 9) (T.2 2) (T.2 3) (T.2 4) (T.2 5) (T.2 6) (T.2 7) (T.2 8) (T.2 9) (rowM M 0 (nI 0)) := TM_sl h 0 0 (by decide) (by decide) hla
      have hEV : R3 (T.1 17) (T.2 18) (T.2 19) (T.2 20) (rowM M 1 (nI 0)) := TM_sl h 1 0 (by decide) (by decide) hlb
      have hOK : LOK (rowM M 0 (nI 0)) := LK_row hK (by decide) (by rw [TM_cnt h 0 (by decide)]; exact hla)
      refine ⟨fun h9 => absurd h9 (by decide), fun h9 => absurd h9 (by decide), fun _ _ => ?_⟩
      obtain ⟨c, ec, -, hc40, -⟩ := iv_nI (ev0_iv hE (e := 0) (by decide)) (by decide)
      have edc : (T.1 17) = nI c := hEV.1.trans ec
      rw [ec, cN_nI (by omega)] at hp
      exact e_playX (n := c) (RNG_M hL (by decide)) hOK hLD hEV (ev0_iv hE (by decide)) (fun j hj => (eve_iv hE (by decide) hj).1) edc (by rw [edc]; exact le_rf _) (by omega) (fun _ _ _ _ _ _ _ _ _ => hp _ _ _ _ _ _ _ _)
    · rw [if_pos (by rw [ea, eb]; exact ⟨⟨by decide, hla⟩, by decide, hlb⟩), ea, eb] at hp
      have hLD : LDR (T.1 3) (T.1 4) (T.1 5) (T.1 6) (T.1 7) (T.1 8) (T.1 9) (T.2 2) (T.2 3) (T.2 4) (T.2 5) (T.2 6) (T.2 7) (T.2 8) (T.2 9) (rowM M 0 (nI 0)) := TM_sl h 0 0 (by decide) (by decide) hla
      have hEV : R3 (T.1 18) (T.2 21) (T.2 22) (T.2 23) (rowM M 1 (nI 1)) := TM_sl h 1 1 (by decide) (by decide) hlb
      have hOK : LOK (rowM M 0 (nI 0)) := LK_row hK (by decide) (by rw [TM_cnt h 0 (by decide)]; exact hla)
      refine ⟨fun h9 => absurd h9 (by decide), fun _ => ?_, fun _ h9 => absurd rfl h9⟩
      obtain ⟨c, ec, -, hc40, -⟩ := iv_nI (ev0_iv hE (e := 1) (by decide)) (by decide)
      have edc : (T.1 18) = nI c := hEV.1.trans ec
      rw [ec, cN_nI (by omega)] at hp
      exact e_playX (n := c) (RNG_M hL (by decide)) hOK hLD hEV (ev0_iv hE (by decide)) (fun j hj => (eve_iv hE (by decide) hj).1) edc (by rw [edc]; exact le_rf _) (by omega) (fun _ _ _ _ _ _ _ _ _ => hp _ _ _ _ _ _ _ _)
  · refine ⟨fun h9 => absurd h9 (by decide), fun _ => ?_, fun _ h9 => absurd rfl h9⟩
    refine e_at (hB.2.2.1 1) (fun (hm : ¬ (0 ≤ b ∧ b < T.2 1 1)) => ?_) (fun eb hlb => ?_) (fun eb hlb => ?_)
    · rw [if_neg (fun h9 => hm h9.2)] at hp
      exact ⟨fun _ => hp _ _ _ _ _ _ _ _, fun h9 => absurd h9 (by decide), fun h9 => absurd rfl h9⟩
    · rw [if_pos (by rw [ea, eb]; exact ⟨⟨by decide, hla⟩, by decide, hlb⟩), ea, eb] at hp
      have hLD : LDR (T.1 10) (T.1 11) (T.1 12) (T.1 13) (T.1 14) (T.1 15) (T.1 16) (T.2 10) (T.2 11) (T.2 12) (T.2 13) (T.2 14) (T.2 15) (T.2 16) (T.2 17) (rowM M 0 (nI 1)) := TM_sl h 0 1 (by decide) (by decide) hla
      have hEV : R3 (T.1 17) (T.2 18) (T.2 19) (T.2 20) (rowM M 1 (nI 0)) := TM_sl h 1 0 (by decide) (by decide) hlb
      have hOK : LOK (rowM M 0 (nI 1)) := LK_row hK (by decide) (by rw [TM_cnt h 0 (by decide)]; exact hla)
      refine ⟨fun h9 => absurd h9 (by decide), fun h9 => absurd h9 (by decide), fun _ _ => ?_⟩
      obtain ⟨c, ec, -, hc40, -⟩ := iv_nI (ev0_iv hE (e := 0) (by decide)) (by decide)
      have edc : (T.1 17) = nI c := hEV.1.trans ec
      rw [ec, cN_nI (by omega)] at hp
      exact e_playX (n := c) (RNG_M hL (by decide)) hOK hLD hEV (ev0_iv hE (by decide)) (fun j hj => (eve_iv hE (by decide) hj).1) edc (by rw [edc]; exact le_rf _) (by omega) (fun _ _ _ _ _ _ _ _ _ => hp _ _ _ _ _ _ _ _)
    · rw [if_pos (by rw [ea, eb]; exact ⟨⟨by decide, hla⟩, by decide, hlb⟩), ea, eb] at hp
      have hLD : LDR (T.1 10) (T.1 11) (T.1 12) (T.1 13) (T.1 14) (T.1 15) (T.1 16) (T.2 10) (T.2 11) (T.2 12) (T.2 13) (T.2 14) (T.2 15) (T.2 16) (T.2 17) (rowM M 0 (nI 1)) := TM_sl h 0 1 (by decide) (by decide) hla
      have hEV : R3 (T.1 18) (T.2 21) (T.2 22) (T.2 23) (rowM M 1 (nI 1)) := TM_sl h 1 1 (by decide) (by decide) hlb
      have hOK : LOK (rowM M 0 (nI 1)) := LK_row hK (by decide) (by rw [TM_cnt h 0 (by decide)]; exact hla)
      refine ⟨fun h9 => absurd h9 (by decide), fun _ => ?_, fun _ h9 => absurd rfl h9⟩
      obtain ⟨c, ec, -, hc40, -⟩ := iv_nI (ev0_iv hE (e := 1) (by decide)) (by decide)
      have edc : (T.1 18) = nI c := hEV.1.trans ec
      rw [ec, cN_nI (by omega)] at hp
      exact e_playX (n := c) (RNG_M hL (by decide)) hOK hLD hEV (ev0_iv hE (by decide)) (fun j hj => (eve_iv hE (by decide) hj).1) edc (by rw [edc]; exact le_rf _) (by omega) (fun _ _ _ _ _ _ _ _ _ => hp _ _ _ _ _ _ _ _)
end
section
/-- how many are below n -/
def cntB (p : Nat → Bool) : Nat → Nat
  | 0 => 0
  | n + 1 => cntB p n + (if p n = true then 1 else 0)
theorem cnt_le (p : Nat → Bool) : ∀ n, cntB p n ≤ n
  | 0 => Nat.le_refl 0
  | n + 1 => by
    have := cnt_le p n
    show cntB p n + (if p n = true then 1 else 0) ≤ n + 1
    split <;> omega
theorem cnt_ext {p q : Nat → Bool} : ∀ n, (∀ k, k < n → p k = q k) → cntB p n = cntB q n
  | 0, _ => rfl
  | n + 1, h => by
    show cntB p n + _ = cntB q n + _
    rw [cnt_ext n (fun k hk => h k (by omega)), h n (by omega)]
theorem cnt_mono {p q : Nat → Bool} : ∀ n, (∀ k, k < n → p k = true → q k = true) → cntB p n ≤ cntB q n
  | 0, _ => Nat.le_refl 0
  | n + 1, h => by
    have := cnt_mono n (fun k hk => h k (by omega))
    show cntB p n + (if p n = true then 1 else 0) ≤ cntB q n + (if q n = true then 1 else 0)
    by_cases hp : p n = true
    · rw [if_pos hp, if_pos (h n (by omega) hp)]; omega
    · rw [if_neg hp]; omega
theorem cnt_lt {p q : Nat → Bool} : ∀ n, (∀ k, k < n → p k = true → q k = true) → (∃ k, k < n ∧ q k = true ∧ p k = false) → cntB p n + 1 ≤ cntB q n
  | 0, _, ⟨k, hk, _⟩ => absurd hk (Nat.not_lt_zero k)
  | n + 1, h, ⟨k, hk, hq, hp⟩ => by
    show cntB p n + (if p n = true then 1 else 0) + 1 ≤ cntB q n + (if q n = true then 1 else 0)
    by_cases e : k = n
    · subst e
      have := cnt_mono k (fun j hj => h j (by omega))
      rw [if_pos hq, if_neg (by rw [hp]; decide)]
      omega
    · have := cnt_lt n (fun j hj => h j (by omega)) ⟨k, by omega, hq, hp⟩
      by_cases hpn : p n = true
      · rw [if_pos hpn, if_pos (h n (by omega) hpn)]; omega
      · rw [if_neg hpn]; omega
theorem cnt_tr {p : Nat → Bool} {c : Nat} : ∀ n, c ≤ n → cntB (fun o => decide (o < c) && p o) n = cntB p c
  | 0, h => by
    have : c = 0 := by omega
    subst this
    rfl
  | n + 1, h => by
    by_cases e : c = n + 1
    · subst e
      exact cnt_ext (n + 1) (fun k hk => by rw [decide_eq_true hk, Bool.true_and])
    · show cntB (fun o => decide (o < c) && p o) n + (if (decide (n < c) && p n) = true then 1 else 0) = cntB p c
      rw [cnt_tr n (by omega), decide_eq_false (by omega), Bool.false_and, if_neg (by decide)]
      rfl
/-- the set of those below n -/
def mkB (p : Nat → Bool) : Nat → Int32
  | 0 => 0
  | n + 1 => mkB p n ||| (if p n = true then bitI n else 0)
theorem bit32_tab : ((List.range 31).all fun i => (List.range 32).all fun k => hb (bitI i) k == decide (i = k)) = true := by decide +kernel
theorem hb_b32 {i k : Nat} (hi : i < 31) (hk : k < 32) : hb (bitI i) k = decide (i = k) := by
  have h := List.all_eq_true.mp (List.all_eq_true.mp bit32_tab i (List.mem_range.mpr hi)) k (List.mem_range.mpr hk)
  exact eq_of_beq h
theorem hb_mkB {p : Nat → Bool} {k : Nat} (hk : k < 32) : ∀ n, n ≤ 31 → hb (mkB p n) k = (decide (k < n) && p k)
  | 0, _ => by
    show hb 0 k = _
    rw [hb_0, decide_eq_false (Nat.not_lt_zero k)]; rfl
  | n + 1, hn => by
    show hb (mkB p n ||| _) k = _
    rw [hb_or, hb_mkB hk n (by omega)]
    by_cases e : k = n
    · subst e
      rw [decide_eq_false (Nat.lt_irrefl k), Bool.false_and, Bool.false_or, decide_eq_true (Nat.lt_succ_self k), Bool.true_and]
      by_cases hp : p k = true
      · rw [if_pos hp, hb_b32 (by omega) hk, hp, decide_eq_true rfl]
      · rw [if_neg hp, hb_0]
        rw [Bool.not_eq_true] at hp
        exact hp.symm
    · have e1 : hb (if p n = true then bitI n else 0) k = false := by
        split
        · rw [hb_b32 (by omega) hk, de_ne e]
        · exact hb_0 k
      rw [e1, Bool.or_false]
      by_cases h : k < n
      · rw [decide_eq_true h, decide_eq_true (by omega)]
      · rw [decide_eq_false h, decide_eq_false (by omega)]
theorem hb_eq {s t : Int32} (h : ∀ k, k < 32 → hb s k = hb t k) : s = t := by
  apply Int32.toBitVec_inj.mp
  apply BitVec.eq_of_getLsbD_eq
  intro i hi
  exact h i hi
theorem mkB_ext {p q : Nat → Bool} : ∀ n, (∀ k, k < n → p k = q k) → mkB p n = mkB q n
  | 0, _ => rfl
  | n + 1, h => by
    show mkB p n ||| _ = mkB q n ||| _
    rw [mkB_ext n (fun k hk => h k (by omega)), h n (by omega)]
theorem mkB_iv {p : Nat → Bool} : ∀ n, n ≤ 9 → iv 0 511 (mkB p n)
  | 0, _ => iv_lit (l := 0) (h := 511) (x := 0) (by decide)
  | n + 1, h => by
    have hb9 : ∀ n, n < 9 → iv 0 511 (bitI n) := by
      intro n hn
      have : n = 0 ∨ n = 1 ∨ n = 2 ∨ n = 3 ∨ n = 4 ∨ n = 5 ∨ n = 6 ∨ n = 7 ∨ n = 8 := by omega
      rcases this with rfl | rfl | rfl | rfl | rfl | rfl | rfl | rfl | rfl <;> exact iv_lit (by decide)
    have h2 : iv 0 511 (if p n = true then bitI n else 0) := by
      split
      · exact hb9 n (by omega)
      · exact iv_lit (by decide)
    exact iv_or 9 (mkB_iv n (by omega)) h2 (by decide)
theorem or_0 (x : Int32) : x ||| 0 = x := by
  apply hb_eq
  intro k hk
  rw [hb_or, hb_0, Bool.or_false]
/-- bitCount -/
def bcF (x0 : Int32) : Int32 :=
  let v1 := x0 - ((Int32.toUInt32 x0 >>> (Int32.toUInt32 1 &&& Int32.toUInt32 31)).toInt32 &&& 1431655765)
  let v2 := (v1 &&& 858993459) + ((Int32.toUInt32 v1 >>> (Int32.toUInt32 2 &&& Int32.toUInt32 31)).toInt32 &&& 858993459)
  let v3 := (v2 + (Int32.toUInt32 v2 >>> (Int32.toUInt32 4 &&& Int32.toUInt32 31)).toInt32) &&& 252645135
  let v4 := v3 + (Int32.toUInt32 v3 >>> (Int32.toUInt32 8 &&& Int32.toUInt32 31)).toInt32
  let v5 := v4 + (Int32.toUInt32 v4 >>> (Int32.toUInt32 16 &&& Int32.toUInt32 31)).toInt32
  v5 &&& 63
theorem bc_tab : ((List.range 512).all fun n => bcF (nI n) == nI (cntB (hb (nI n)) 9)) = true := by decide +kernel
theorem e_bc {s : Int32} {post : Int32 → Prop} (hs : iv 0 511 s) (hp : post (nI (cntB (hb s) 9))) : q_z_J6_bitCount_0f7a4_0 s post := by
  intro v1 e1 v2 e2 v3 e3 v4 e4 v5 e5
  obtain ⟨n, rfl, -, hn, -⟩ := iv_nI hs (by decide)
  have h : bcF (nI n) = nI (cntB (hb (nI n)) 9) := eq_of_beq (List.all_eq_true.mp bc_tab n (List.mem_range.mpr (by omega)))
  rw [← h] at hp
  subst e1 e2 e3 e4 e5
  exact hp
theorem e_onesM {s : Int32} {post : Int32 → Prop} (hp : post (nI (cntB (hb s) 9))) : q_m_ones_0 s post := by
  intro P hP
  have loop : ∀ m j, m = 9 - j → j ≤ 9 → P (nI (cntB (hb s) j)) (nI j) := by
    intro m
    induction m using Nat.strongRecOn with
    | ind m ih =>
      intro j hm hj
      apply hP
      refine pk_le 9 j (fun h9 => ?_) (fun h9 => ?_)
      · rw [show j = 9 by omega]; exact hp
      · have nx : ∀ y : Int32, nI (cntB (hb s) j) + y = nI (cntB (hb s) (j + 1)) → q_m_ones_24 P s (nI j) (nI (cntB (hb s) j)) y post := by
          intro y hy v e v2 e2
          rw [e, e2, hy, nI_1]
          exact ih (9 - (j + 1)) (by omega) (j + 1) rfl (by omega)
        have e : cntB (hb s) (j + 1) = cntB (hb s) j + (if hb s j = true then 1 else 0) := rfl
        refine e_hasM (by omega) (fun h0 => iz (nx 0 ?_)) (fun h1 => oi (nx 1 ?_))
        · rw [e, if_neg (by rw [h0]; decide)]; exact Int32.add_zero _
        · rw [e, if_pos h1, nI_1]
  exact loop _ 0 rfl (by omega)
/-- the least set that holds f and is closed under E -/
noncomputable def clB (E : Nat → Nat → Bool) (n f h : Nat) : Bool := @decide (∀ C : Nat → Bool, C f = true → (∀ a b, a < n → b < n → C a = true → E a b = true → C b = true) → C h = true) (Classical.propDecidable _)
theorem cl_eq {E : Nat → Nat → Bool} {n f : Nat} {S : Nat → Bool} (h1 : S f = true) (h2 : ∀ a b, a < n → b < n → S a = true → E a b = true → S b = true) (h3 : ∀ C : Nat → Bool, C f = true → (∀ a b, a < n → b < n → C a = true → E a b = true → C b = true) → ∀ h, h < n → S h = true → C h = true) (h : Nat) (hh : h < n) : S h = clB E n f h := by
  unfold clB
  by_cases hs : S h = true
  · rw [hs]
    exact (@decide_eq_true _ (Classical.propDecidable _) (fun C c1 c2 => h3 C c1 c2 h hh hs)).symm
  · have e : S h = false := by rw [← Bool.not_eq_true]; exact hs
    rw [e]
    exact (@decide_eq_false _ (Classical.propDecidable _) (fun hc => hs (hc S h1 h2))).symm
end
section
/-- shortest times by stages (pure): E whether there is an edge, W its minutes, F: none -/
def t0F (E : Nat → Nat → Bool) (W : Nat → Nat → Nat) (F a b : Nat) : Nat := if E a b = true then W a b else F
def stF (t : Nat → Nat → Nat) (k a b : Nat) : Nat := min (t a b) (t a k + t k b)
def fw (t : Nat → Nat → Nat) : Nat → Nat → Nat → Nat
  | 0 => t
  | k + 1 => stF (fw t k) k
theorem fw_le {t : Nat → Nat → Nat} {F : Nat} (h : ∀ a b, t a b ≤ F) : ∀ k a b, fw t k a b ≤ F
  | 0, a, b => h a b
  | k + 1, a, b => by
    have := fw_le h k a b
    show min (fw t k a b) (fw t k a k + fw t k k b) ≤ F
    omega
theorem fw_dn {t : Nat → Nat → Nat} {k a b : Nat} : fw t (k + 1) a b ≤ fw t k a b := by
  show min (fw t k a b) (fw t k a k + fw t k k b) ≤ _
  omega
theorem fw_mono {t : Nat → Nat → Nat} {a b k : Nat} : ∀ m, fw t (k + m) a b ≤ fw t k a b
  | 0 => Nat.le_refl _
  | m + 1 => Nat.le_trans (fw_dn (k := k + m)) (fw_mono m)
theorem fw_mn {t : Nat → Nat → Nat} {a b k n : Nat} (h : k ≤ n) : fw t n a b ≤ fw t k a b := by
  have := fw_mono (t := t) (a := a) (b := b) (k := k) (n - k)
  rw [show k + (n - k) = n by omega] at this
  exact this
/-- the triangle -/
theorem fw_tri {t : Nat → Nat → Nat} : ∀ k c, c < k → ∀ a b, fw t k a b ≤ fw t k a c + fw t k c b
  | 0, c, h, _, _ => absurd h (Nat.not_lt_zero c)
  | k + 1, c, h, a, b => by
    show min (fw t k a b) (fw t k a k + fw t k k b) ≤ min (fw t k a c) (fw t k a k + fw t k k c) + min (fw t k c b) (fw t k c k + fw t k k b)
    by_cases e : c = k
    · subst e; omega
    · have h1 := fw_tri (t := t) k c (by omega) a b
      have h2 := fw_tri (t := t) k c (by omega) a k
      have h3 := fw_tri (t := t) k c (by omega) k b
      omega
/-- what is reached is in every closed set -/
theorem fw_cl {E : Nat → Nat → Bool} {W : Nat → Nat → Nat} {F n : Nat} {C : Nat → Prop} (hC : ∀ a b, a < n → b < n → C a → E a b = true → C b) : ∀ k, k ≤ n → ∀ a b, a < n → b < n → fw (t0F E W F) k a b < F → C a → C b
  | 0, _, a, b, ha, hb, h, hc => by
    have h' : (if E a b = true then W a b else F) < F := h
    by_cases e : E a b = true
    · exact hC a b ha hb hc e
    · rw [if_neg e] at h'; omega
  | k + 1, hk, a, b, ha, hb, h, hc => by
    have h' : min (fw (t0F E W F) k a b) (fw (t0F E W F) k a k + fw (t0F E W F) k k b) < F := h
    by_cases e : fw (t0F E W F) k a b < F
    · exact fw_cl hC k (by omega) a b ha hb e hc
    · have hk1 : fw (t0F E W F) k a k < F := by omega
      have hk2 : fw (t0F E W F) k k b < F := by omega
      exact fw_cl hC k (by omega) k b (by omega) hb hk2 (fw_cl hC k (by omega) a k ha (by omega) hk1 hc)
theorem fw_0 {t : Nat → Nat → Nat} {a : Nat} (h : t a a = 0) : ∀ k, fw t k a a = 0
  | 0 => h
  | k + 1 => by
    have := fw_0 h k
    show min (fw t k a a) _ = 0
    omega
theorem fw_row {t : Nat → Nat → Nat} {F a : Nat} (h : ∀ b, F ≤ t a b) : ∀ k b, F ≤ fw t k a b
  | 0, b => h b
  | k + 1, b => by
    have h1 := fw_row h k b
    have h2 := fw_row h k k
    show F ≤ min (fw t k a b) (fw t k a k + fw t k k b)
    omega
section
variable {E : Nat → Nat → Bool} {W : Nat → Nat → Nat} {F n : Nat}
/-- shortest times -/
def SD (E : Nat → Nat → Bool) (W : Nat → Nat → Nat) (F n a b : Nat) : Nat := fw (t0F E W F) n a b
theorem SD_le (hW : ∀ a b, W a b ≤ 9) (hF : 1000 ≤ F) (a b : Nat) : SD E W F n a b ≤ F := fw_le (fun a b => by unfold t0F; split; exact Nat.le_trans (hW a b) (by omega); exact Nat.le_refl _) n a b
theorem SD_tri {a b c : Nat} (hc : c < n) : SD E W F n a b ≤ SD E W F n a c + SD E W F n c b := fw_tri n c hc a b
theorem SD_e {a b : Nat} (h : E a b = true) : SD E W F n a b ≤ W a b := by
  have h1 : SD E W F n a b ≤ fw (t0F E W F) 0 a b := fw_mn (Nat.zero_le n)
  have h2 : fw (t0F E W F) 0 a b = W a b := by show (if E a b = true then W a b else F) = _; rw [if_pos h]
  omega
theorem SD_s {a b c : Nat} (hb : b < n) (h : E b c = true) : SD E W F n a c ≤ SD E W F n a b + W b c := by
  have h1 := SD_tri (E := E) (W := W) (F := F) (a := a) (b := c) hb
  have h2 := SD_e (W := W) (F := F) (n := n) h
  omega
theorem SD_cl {C : Nat → Prop} {a b : Nat} (ha : a < n) (hb : b < n) (hC : ∀ a b, a < n → b < n → C a → E a b = true → C b) (h : SD E W F n a b < F) (hc : C a) : C b := fw_cl hC n (Nat.le_refl n) a b ha hb h hc
/-- either all that is reached is in P i, or there are more than i -/
theorem cnt_grow {R : Nat → Prop} {P : Nat → Nat → Bool} (hm : ∀ i v, v < n → P i v = true → P (i + 1) v = true) (h0 : ∃ v, v < n ∧ P 0 v = true) (hp : ∀ i, (∃ b, b < n ∧ R b ∧ P i b = false) → ∃ v, v < n ∧ P (i + 1) v = true ∧ P i v = false) (b : Nat) (hb : b < n) (hr : R b) : P n b = true := by
  have q : ∀ i, (∀ b, b < n → R b → P i b = true) ∨ i + 1 ≤ cntB (P i) n := by
    intro i
    induction i with
    | zero =>
      right
      obtain ⟨v, hv, h⟩ := h0
      have := cnt_lt (p := fun _ => false) (q := P 0) n (fun _ _ h => absurd h (by decide)) ⟨v, hv, h, rfl⟩
      omega
    | succ i ih =>
      rcases ih with ih | ih
      · exact Or.inl (fun b hb hr => hm i b hb (ih b hb hr))
      · by_cases hc : ∃ b, b < n ∧ R b ∧ P i b = false
        · right
          have := cnt_lt n (fun k hk => hm i k hk) (hp i hc)
          omega
        · left
          intro b hb hr
          apply hm i b hb
          rw [← Bool.not_eq_false]
          exact fun h => hc ⟨b, hb, hr, h⟩
  rcases q n with h | h
  · exact h b hb hr
  · have := cnt_le (P n) n
    omega
/-- what is reached is near -/
theorem SD_near (hW : ∀ a b, W a b ≤ 9) {a b : Nat} (ha : a < n) (hb : b < n) (ht : E a a = true) (h0 : W a a = 0) (h : SD E W F n a b < F) : SD E W F n a b ≤ 9 * n := by
  have g := cnt_grow (n := n) (R := fun b => SD E W F n a b < F) (P := fun i v => decide (SD E W F n a v ≤ 9 * i)) (fun i v _ hq => decide_eq_true (by have := of_decide_eq_true hq; omega)) ⟨a, ha, decide_eq_true (by have := SD_e (W := W) (F := F) (n := n) ht; omega)⟩ (fun i ⟨b, hb, hr, hn⟩ => ?_) b hb h
  · exact of_decide_eq_true g
  · apply Classical.byContradiction
    intro hno
    have hcl : ∀ u v, u < n → v < n → SD E W F n a u ≤ 9 * i → E u v = true → SD E W F n a v ≤ 9 * i := by
      intro u v hu hv hq he
      have h1 := SD_s (W := W) (F := F) (a := a) hu he
      have h2 := hW u v
      apply Classical.byContradiction
      intro h3
      exact hno ⟨v, hv, decide_eq_true (by omega), decide_eq_false h3⟩
    have := SD_cl (C := fun v => SD E W F n a v ≤ 9 * i) ha hb hcl hr (by have := SD_e (W := W) (F := F) (n := n) ht; omega)
    exact absurd this (of_decide_eq_false hn)
theorem SD_fin (hW : ∀ a b, W a b ≤ 9) (hF : 1000 ≤ F) (hn : n ≤ 9) {a b c : Nat} (ha : a < n) (hb : b < n) (ht : E a a = true) (h0 : W a a = 0) (he : E b c = true) (h : SD E W F n a b < F) : SD E W F n a c < F := by
  have h1 := SD_near hW ha hb ht h0 h
  have h2 := SD_s (W := W) (F := F) (a := a) hb he
  have h3 := hW b c
  omega
/-- closed under tight edges: all that is reached -/
theorem SD_tight {D : Nat → Nat} (hD : ∀ k, k ≤ n → ∀ u v, u < n → D v ≤ D u + fw (t0F E W F) k u v) (C : Nat → Prop) (hC : ∀ u v, u < n → v < n → C u → E u v = true → D v = D u + W u v → C v) : ∀ k, k ≤ n → ∀ u v, u < n → v < n → fw (t0F E W F) k u v < F → D v = D u + fw (t0F E W F) k u v → C u → C v
  | 0, _, u, v, hu, hv, hf, he, hc => by
    have e0 : fw (t0F E W F) 0 u v = (if E u v = true then W u v else F) := rfl
    rw [e0] at hf he
    by_cases e : E u v = true
    · rw [if_pos e] at he
      exact hC u v hu hv hc e he
    · rw [if_neg e] at hf; omega
  | k + 1, hk, u, v, hu, hv, hf, he, hc => by
    have e0 : fw (t0F E W F) (k + 1) u v = min (fw (t0F E W F) k u v) (fw (t0F E W F) k u k + fw (t0F E W F) k k v) := rfl
    rw [e0] at hf he
    by_cases e : fw (t0F E W F) k u v ≤ fw (t0F E W F) k u k + fw (t0F E W F) k k v
    · exact SD_tight hD C hC k (by omega) u v hu hv (by omega) (by omega) hc
    · have d1 := hD k (by omega) u k hu
      have d2 := hD k (by omega) k v (by omega)
      have c1 := SD_tight hD C hC k (by omega) u k hu (by omega) (by omega) (by omega) hc
      exact SD_tight hD C hC k (by omega) k v (by omega) hv (by omega) (by omega) c1
theorem SD_all {C : Nat → Prop} {a b : Nat} (ha : a < n) (hb : b < n) (ht : E a a = true) (h0 : W a a = 0) (hF : 0 < F) (hC : ∀ u v, u < n → v < n → C u → E u v = true → SD E W F n a v = SD E W F n a u + W u v → C v) (h : SD E W F n a b < F) (hc : C a) : C b := by
  have e0 : SD E W F n a a = 0 := by have := SD_e (W := W) (F := F) (n := n) ht; omega
  refine SD_tight (D := SD E W F n a) (fun k hk u v hu => ?_) C hC n (Nat.le_refl n) a b ha hb h ?_ hc
  · have h1 := SD_tri (E := E) (W := W) (F := F) (a := a) (b := v) hu
    have h2 : SD E W F n u v ≤ fw (t0F E W F) k u v := fw_mn hk
    omega
  · rw [e0, Nat.zero_add]; rfl
def upF (d : Nat) : Nat := if d < 1000 then d else 1000000
/-- the same with another F -/
theorem SD_F (hW : ∀ a b, W a b ≤ 9) (hn : n ≤ 9) (ht : ∀ a, a < n → E a a = true) (h0 : ∀ a, W a a = 0) {a b : Nat} (ha : a < n) (hb : b < n) : SD E W 1000000 n a b = upF (SD E W 1000 n a b) := by
  have p1 : ∀ k a b, fw (t0F E W 1000) k a b < 1000 → fw (t0F E W 1000000) k a b ≤ fw (t0F E W 1000) k a b := by
    intro k
    induction k with
    | zero =>
      intro a b h
      have h' : (if E a b = true then W a b else 1000) < 1000 := h
      show (if E a b = true then W a b else 1000000) ≤ (if E a b = true then W a b else 1000)
      by_cases e : E a b = true
      · rw [if_pos e, if_pos e]; exact Nat.le_refl _
      · rw [if_neg e] at h'; omega
    | succ k ih =>
      intro a b h
      have h' : min (fw (t0F E W 1000) k a b) (fw (t0F E W 1000) k a k + fw (t0F E W 1000) k k b) < 1000 := h
      show min (fw (t0F E W 1000000) k a b) (fw (t0F E W 1000000) k a k + fw (t0F E W 1000000) k k b) ≤ min (fw (t0F E W 1000) k a b) (fw (t0F E W 1000) k a k + fw (t0F E W 1000) k k b)
      have i1 := ih a b
      have i2 := ih a k
      have i3 := ih k b
      omega
  have p2 : ∀ k, k ≤ n → ∀ a b, a < n → b < n → fw (t0F E W 1000000) k a b < 1000000 → SD E W 1000 n a b < 1000 ∧ SD E W 1000 n a b ≤ fw (t0F E W 1000000) k a b := by
    intro k
    induction k with
    | zero =>
      intro _ a b ha hb h
      have e0 : fw (t0F E W 1000000) 0 a b = (if E a b = true then W a b else 1000000) := rfl
      rw [e0] at h ⊢
      by_cases e : E a b = true
      · rw [if_pos e]
        have := SD_e (W := W) (F := 1000) (n := n) e
        have := hW a b
        omega
      · rw [if_neg e] at h; omega
    | succ k ih =>
      intro hk a b ha hb h
      have e0 : fw (t0F E W 1000000) (k + 1) a b = min (fw (t0F E W 1000000) k a b) (fw (t0F E W 1000000) k a k + fw (t0F E W 1000000) k k b) := rfl
      rw [e0] at h ⊢
      by_cases e : fw (t0F E W 1000000) k a b ≤ fw (t0F E W 1000000) k a k + fw (t0F E W 1000000) k k b
      · have := ih (by omega) a b ha hb (by omega)
        omega
      · have i1 := ih (by omega) a k ha (by omega) (by omega)
        have i2 := ih (by omega) k b (by omega) hb (by omega)
        have n1 := SD_near hW ha (by omega) (ht a ha) (h0 a) i1.1
        have n2 := SD_near hW (show k < n by omega) hb (ht k (by omega)) (h0 k) i2.1
        have tr := SD_tri (E := E) (W := W) (F := 1000) (a := a) (b := b) (show k < n by omega)
        omega
  unfold upF
  by_cases h : SD E W 1000 n a b < 1000
  · rw [if_pos h]
    have h1 : SD E W 1000000 n a b ≤ SD E W 1000 n a b := p1 n a b h
    have h2 := (p2 n (Nat.le_refl n) a b ha hb (show fw (t0F E W 1000000) n a b < 1000000 by have : SD E W 1000000 n a b = fw (t0F E W 1000000) n a b := rfl; omega)).2
    have : SD E W 1000000 n a b = fw (t0F E W 1000000) n a b := rfl
    omega
  · rw [if_neg h]
    have h1 := SD_le (E := E) (W := W) (F := 1000000) (n := n) hW (by omega) a b
    apply Classical.byContradiction
    intro hne
    have := (p2 n (Nat.le_refl n) a b ha hb (show fw (t0F E W 1000000) n a b < 1000000 by have : SD E W 1000000 n a b = fw (t0F E W 1000000) n a b := rfl; omega)).1
    exact h this
end
end
section
theorem e_shorten1 {t : Nat → Int32} {m : Nat → Nat → Nat} {n : Nat} {x1 : Int32} {post : (Nat → Int32) → Prop} (hn : n ≤ 9) (hx : x1 = nI n) (hm : ∀ a b, m a b ≤ 1000) (h0 : ∀ a b, a < n → b < n → t (9 * a + b) = nI (m a b)) (hp : ∀ t', (∀ a b, a < n → b < n → t' (9 * a + b) = nI (fw m n a b)) → post t') : q_wp_X7_shorten_1_0 t x1 post := by
  subst hx
  have le : ∀ k a b, fw m k a b ≤ 1000 := fw_le hm
  have st : ∀ k a b, fw m (k + 1) a b = min (fw m k a b) (fw m k a k + fw m k k b) := fun _ _ _ => rfl
  have ei : ∀ a b : Nat, (nI a * 9) + nI b = nI (9 * a + b) := fun a b => by rw [jx9, Nat.mul_comm]
  intro P hP
  have loop : ∀ w k (t : Nat → Int32), w = n - k → k ≤ n → (∀ a b, a < n → b < n → t (9 * a + b) = nI (fw m k a b)) → P (nI k) t := by
    intro w
    induction w using Nat.strongRecOn with
    | ind w ih =>
      intro k t hw hk ht
      apply hP
      refine pk_le n k (fun h9 => ?_) (fun h9 => ?_)
      · have e : k = n := by omega
        subst e
        exact hp t ht
      · intro P2 hP2
        have loop2 : ∀ w a (t : Nat → Int32), w = n - a → a ≤ n → (∀ a' b, a' < a → b < n → t (9 * a' + b) = nI (fw m (k + 1) a' b)) → (∀ a' b, a ≤ a' → a' < n → b < n → t (9 * a' + b) = nI (fw m k a' b)) → P2 (nI a) t := by
          intro w
          induction w using Nat.strongRecOn with
          | ind w ih2 =>
            intro a t hw2 ha t1 t2
            apply hP2
            refine pk_le n a (fun h8 v ev => ?_) (fun h8 => ?_)
            · rw [ev, nI_1]
              exact ih (n - (k + 1)) (by omega) (k + 1) t rfl (by omega) (fun a' b ha' hb => t1 a' b (by omega) hb)
            · rw [ei a k]
              refine ⟨vp_in_nI (by omega) (by omega), fun v ev => ?_⟩
              rw [nI_clamp (by omega), t2 a k (Nat.le_refl a) h8 h9] at ev
              subst ev
              have done : ∀ t' : Nat → Int32, (∀ a' b, a' < a → b < n → t' (9 * a' + b) = nI (fw m (k + 1) a' b)) → (∀ b, b < n → t' (9 * a + b) = nI (fw m (k + 1) a b)) → (∀ a' b, a < a' → a' < n → b < n → t' (9 * a' + b) = nI (fw m k a' b)) → q_wp_X7_shorten_1_86 P P2 t' (nI n) (nI k) (nI a) post := by
                intro t' d1 d2 d3 v ev
                rw [ev, nI_1]
                exact ih2 (n - (a + 1)) (by omega) (a + 1) t' rfl (by omega) (fun a' b ha' hb => by
                  by_cases e : a' = a
                  · subst e; exact d2 b hb
                  · exact d1 a' b (by omega) hb) (fun a' b ha' hn' hb => d3 a' b (by omega) hn' hb)
              intro P3 hP3
              have loop3 : ∀ w b (t : Nat → Int32), w = n - b → b ≤ n → (∀ a' b, a' < a → b < n → t (9 * a' + b) = nI (fw m (k + 1) a' b)) → (∀ b', b' < b → t (9 * a + b') = nI (fw m (k + 1) a b')) → (∀ b', b ≤ b' → b' < n → t (9 * a + b') = nI (fw m k a b')) → (∀ a' b, a < a' → a' < n → b < n → t (9 * a' + b) = nI (fw m k a' b)) → P3 (nI b) t := by
                intro w
                induction w using Nat.strongRecOn with
                | ind w ih3 =>
                  intro b t hw3 hb r1 r2 r3 r4
                  apply hP3
                  refine pk_le n b (fun h7 => done t r1 (fun b' hb' => r2 b' (by omega)) r4) (fun h7 => pk_le 1000 (fw m k a k) (fun hf => done t r1 (fun b' hb' => ?_) r4) (fun hf => ?_) rfl rfl (by omega) (by have := le k a k; omega))
                  · by_cases e : b' < b
                    · exact r2 b' e
                    · rw [r3 b' (by omega) hb', st]
                      have := le k a b'
                      rw [show min (fw m k a b') (fw m k a k + fw m k k b') = fw m k a b' by omega]
                  · rw [ei k b, ei a b]
                    have hin1 : vp_in (nI (9 * k + b)) 81 := vp_in_nI (by omega) (by omega)
                    have hin2 : vp_in (nI (9 * a + b)) 81 := vp_in_nI (by omega) (by omega)
                    have hkb : t (9 * k + b) = nI (fw m k k b) := by
                      by_cases e1 : k < a
                      · rw [r1 k b e1 h7, st]
                        rw [show min (fw m k k b) (fw m k k k + fw m k k b) = fw m k k b by omega]
                      · by_cases e2 : k = a
                        · subst e2; exact r3 b (Nat.le_refl b) h7
                        · exact r4 k b (by omega) h9 h7
                    refine ⟨hin1, fun v ev => ⟨hin2, ?_⟩⟩
                    rw [nI_clamp (by omega), hkb, nI_add] at ev
                    subst ev
                    rw [nI_clamp (by omega), r3 b (Nat.le_refl b) h7]
                    have hl1 := le k a b
                    have hl2 := le k a k
                    have hl3 := le k k b
                    have nx : ∀ t' : Nat → Int32, (∀ j, ¬ j = 9 * a + b → t' j = t j) → t' (9 * a + b) = nI (fw m (k + 1) a b) → q_wp_X7_shorten_1_80 P P2 P3 t' (nI n) (nI k) (nI a) (nI (fw m k a k)) (nI b) post := by
                      intro t' u1 u2 v ev
                      rw [ev, nI_1]
                      refine ih3 (n - (b + 1)) (by omega) (b + 1) t' rfl (by omega) (fun a' b' ha' hb' => ?_) (fun b' hb' => ?_) (fun b' hb1 hb2 => ?_) (fun a' b' ha' hn' hb' => ?_)
                      · rw [u1 _ (by omega)]; exact r1 a' b' ha' hb'
                      · by_cases e : b' = b
                        · subst e; exact u2
                        · rw [u1 _ (by omega)]; exact r2 b' (by omega)
                      · rw [u1 _ (by omega)]; exact r3 b' (by omega) hb2
                      · rw [u1 _ (by omega)]; exact r4 a' b' ha' hn' hb'
                    refine pk_le (fw m k a b) (fw m k a k + fw m k k b) (fun hle => nx t (fun _ _ => rfl) ?_) (fun hlt => ⟨hin2, fun t' et => nx t' (fun j hj => ?_) ?_⟩) rfl rfl (by omega) (by omega)
                    · rw [r3 b (Nat.le_refl b) h7, st, show min (fw m k a b) (fw m k a k + fw m k k b) = fw m k a b by omega]
                    · rw [et, up_n hj]
                    · rw [et, up_s, st, show min (fw m k a b) (fw m k a k + fw m k k b) = fw m k a k + fw m k k b by omega]
              exact loop3 _ 0 t rfl (by omega) t1 (fun b' hb' => absurd hb' (Nat.not_lt_zero b')) (fun b' _ hb' => t2 a b' (Nat.le_refl a) h8 hb') (fun a' b' ha' hn' hb' => t2 a' b' (by omega) hn' hb')
        exact loop2 _ 0 t rfl (by omega) (fun a' b ha' => absurd ha' (Nat.not_lt_zero a')) (fun a' b _ ha' hb => ht a' b ha' hb)
  exact loop _ 0 t rfl (by omega) h0
theorem e_shorten2 {t : Nat → Int32} {m : Nat → Nat → Nat} {n : Nat} {x1 : Int32} {post : (Nat → Int32) → Prop} (hn : n ≤ 9) (hx : x1 = nI n) (hm : ∀ a b, m a b ≤ 1000) (h0 : ∀ a b, a < n → b < n → t (9 * a + b) = nI (m a b)) (hp : ∀ t', (∀ a b, a < n → b < n → t' (9 * a + b) = nI (fw m n a b)) → post t') : q_wp_X7_shorten_2_0 t x1 post := by
  subst hx
  have le : ∀ k a b, fw m k a b ≤ 1000 := fw_le hm
  have st : ∀ k a b, fw m (k + 1) a b = min (fw m k a b) (fw m k a k + fw m k k b) := fun _ _ _ => rfl
  have ei : ∀ a b : Nat, (nI a * 9) + nI b = nI (9 * a + b) := fun a b => by rw [jx9, Nat.mul_comm]
  intro P hP
  have loop : ∀ w k (t : Nat → Int32), w = n - k → k ≤ n → (∀ a b, a < n → b < n → t (9 * a + b) = nI (fw m k a b)) → P (nI k) t := by
    intro w
    induction w using Nat.strongRecOn with
    | ind w ih =>
      intro k t hw hk ht
      apply hP
      refine pk_le n k (fun h9 => ?_) (fun h9 => ?_)
      · have e : k = n := by omega
        subst e
        exact hp t ht
      · intro P2 hP2
        have loop2 : ∀ w a (t : Nat → Int32), w = n - a → a ≤ n → (∀ a' b, a' < a → b < n → t (9 * a' + b) = nI (fw m (k + 1) a' b)) → (∀ a' b, a ≤ a' → a' < n → b < n → t (9 * a' + b) = nI (fw m k a' b)) → P2 (nI a) t := by
          intro w
          induction w using Nat.strongRecOn with
          | ind w ih2 =>
            intro a t hw2 ha t1 t2
            apply hP2
            refine pk_le n a (fun h8 v ev => ?_) (fun h8 => ?_)
            · rw [ev, nI_1]
              exact ih (n - (k + 1)) (by omega) (k + 1) t rfl (by omega) (fun a' b ha' hb => t1 a' b (by omega) hb)
            · rw [ei a k]
              refine ⟨vp_in_nI (by omega) (by omega), fun v ev => ?_⟩
              rw [nI_clamp (by omega), t2 a k (Nat.le_refl a) h8 h9] at ev
              subst ev
              have done : ∀ t' : Nat → Int32, (∀ a' b, a' < a → b < n → t' (9 * a' + b) = nI (fw m (k + 1) a' b)) → (∀ b, b < n → t' (9 * a + b) = nI (fw m (k + 1) a b)) → (∀ a' b, a < a' → a' < n → b < n → t' (9 * a' + b) = nI (fw m k a' b)) → q_wp_X7_shorten_2_86 P P2 t' (nI n) (nI k) (nI a) post := by
                intro t' d1 d2 d3 v ev
                rw [ev, nI_1]
                exact ih2 (n - (a + 1)) (by omega) (a + 1) t' rfl (by omega) (fun a' b ha' hb => by
                  by_cases e : a' = a
                  · subst e; exact d2 b hb
                  · exact d1 a' b (by omega) hb) (fun a' b ha' hn' hb => d3 a' b (by omega) hn' hb)
              intro P3 hP3
              have loop3 : ∀ w b (t : Nat → Int32), w = n - b → b ≤ n → (∀ a' b, a' < a → b < n → t (9 * a' + b) = nI (fw m (k + 1) a' b)) → (∀ b', b' < b → t (9 * a + b') = nI (fw m (k + 1) a b')) → (∀ b', b ≤ b' → b' < n → t (9 * a + b') = nI (fw m k a b')) → (∀ a' b, a < a' → a' < n → b < n → t (9 * a' + b) = nI (fw m k a' b)) → P3 (nI b) t := by
                intro w
                induction w using Nat.strongRecOn with
                | ind w ih3 =>
                  intro b t hw3 hb r1 r2 r3 r4
                  apply hP3
                  refine pk_le n b (fun h7 => done t r1 (fun b' hb' => r2 b' (by omega)) r4) (fun h7 => pk_le 1000 (fw m k a k) (fun hf => done t r1 (fun b' hb' => ?_) r4) (fun hf => ?_) rfl rfl (by omega) (by have := le k a k; omega))
                  · by_cases e : b' < b
                    · exact r2 b' e
                    · rw [r3 b' (by omega) hb', st]
                      have := le k a b'
                      rw [show min (fw m k a b') (fw m k a k + fw m k k b') = fw m k a b' by omega]
                  · rw [ei k b, ei a b]
                    have hin1 : vp_in (nI (9 * k + b)) 81 := vp_in_nI (by omega) (by omega)
                    have hin2 : vp_in (nI (9 * a + b)) 81 := vp_in_nI (by omega) (by omega)
                    have hkb : t (9 * k + b) = nI (fw m k k b) := by
                      by_cases e1 : k < a
                      · rw [r1 k b e1 h7, st]
                        rw [show min (fw m k k b) (fw m k k k + fw m k k b) = fw m k k b by omega]
                      · by_cases e2 : k = a
                        · subst e2; exact r3 b (Nat.le_refl b) h7
                        · exact r4 k b (by omega) h9 h7
                    refine ⟨hin1, fun v ev => ⟨hin2, ?_⟩⟩
                    rw [nI_clamp (by omega), hkb, nI_add] at ev
                    subst ev
                    rw [nI_clamp (by omega), r3 b (Nat.le_refl b) h7]
                    have hl1 := le k a b
                    have hl2 := le k a k
                    have hl3 := le k k b
                    have nx : ∀ t' : Nat → Int32, (∀ j, ¬ j = 9 * a + b → t' j = t j) → t' (9 * a + b) = nI (fw m (k + 1) a b) → q_wp_X7_shorten_2_80 P P2 P3 t' (nI n) (nI k) (nI a) (nI (fw m k a k)) (nI b) post := by
                      intro t' u1 u2 v ev
                      rw [ev, nI_1]
                      refine ih3 (n - (b + 1)) (by omega) (b + 1) t' rfl (by omega) (fun a' b' ha' hb' => ?_) (fun b' hb' => ?_) (fun b' hb1 hb2 => ?_) (fun a' b' ha' hn' hb' => ?_)
                      · rw [u1 _ (by omega)]; exact r1 a' b' ha' hb'
                      · by_cases e : b' = b
                        · subst e; exact u2
                        · rw [u1 _ (by omega)]; exact r2 b' (by omega)
                      · rw [u1 _ (by omega)]; exact r3 b' (by omega) hb2
                      · rw [u1 _ (by omega)]; exact r4 a' b' ha' hn' hb'
                    refine pk_le (fw m k a b) (fw m k a k + fw m k k b) (fun hle => nx t (fun _ _ => rfl) ?_) (fun hlt => ⟨hin2, fun t' et => nx t' (fun j hj => ?_) ?_⟩) rfl rfl (by omega) (by omega)
                    · rw [r3 b (Nat.le_refl b) h7, st, show min (fw m k a b) (fw m k a k + fw m k k b) = fw m k a b by omega]
                    · rw [et, up_n hj]
                    · rw [et, up_s, st, show min (fw m k a b) (fw m k a k + fw m k k b) = fw m k a k + fw m k k b by omega]
              exact loop3 _ 0 t rfl (by omega) t1 (fun b' hb' => absurd hb' (Nat.not_lt_zero b')) (fun b' _ hb' => t2 a b' (Nat.le_refl a) h8 hb') (fun a' b' ha' hn' hb' => t2 a' b' (by omega) hn' hb')
        exact loop2 _ 0 t rfl (by omega) (fun a' b ha' => absurd ha' (Nat.not_lt_zero a')) (fun a' b _ ha' hb => ht a' b ha' hb)
  exact loop _ 0 t rfl (by omega) h0
end
section
theorem e_fill81_1 {t : Nat → Int32} {x : Int32} {post : (Nat → Int32) → Prop} (hp : ∀ t', (∀ j, j < 81 → t' j = x) → post t') : q_wp_J7_fill_53178_1_0 t x post := by
  intro P hP
  have loop : ∀ m i (t : Nat → Int32), m = 81 - i → i ≤ 81 → (∀ j, j < i → t j = x) → P (nI i) t := by
    intro m
    induction m using Nat.strongRecOn with
    | ind m ih =>
      intro i t hm hi hS
      apply hP
      refine pk_le 81 i (fun h9 => hp t (fun j hj => hS j (by omega))) (fun h9 => ⟨vp_in_nI h9 (by omega), fun t2 e1 v e2 => ?_⟩)
      rw [e2, nI_1]
      refine ih (81 - (i + 1)) (by omega) (i + 1) t2 rfl (by omega) (fun j hj => ?_)
      rw [e1, nI_clamp (by omega)]
      by_cases hji : j = i
      · rw [hji, up_s]
      · rw [up_n hji]; exact hS j (by omega)
  exact loop _ 0 t rfl (by omega) (fun j hj => absurd hj (Nat.not_lt_zero j))
theorem e_fill81_2 {t : Nat → Int32} {x : Int32} {post : (Nat → Int32) → Prop} (hp : ∀ t', (∀ j, j < 81 → t' j = x) → post t') : q_wp_J7_fill_53178_2_0 t x post := by
  intro P hP
  have loop : ∀ m i (t : Nat → Int32), m = 81 - i → i ≤ 81 → (∀ j, j < i → t j = x) → P (nI i) t := by
    intro m
    induction m using Nat.strongRecOn with
    | ind m ih =>
      intro i t hm hi hS
      apply hP
      refine pk_le 81 i (fun h9 => hp t (fun j hj => hS j (by omega))) (fun h9 => ⟨vp_in_nI h9 (by omega), fun t2 e1 v e2 => ?_⟩)
      rw [e2, nI_1]
      refine ih (81 - (i + 1)) (by omega) (i + 1) t2 rfl (by omega) (fun j hj => ?_)
      rw [e1, nI_clamp (by omega)]
      by_cases hji : j = i
      · rw [hji, up_s]
      · rw [up_n hji]; exact hS j (by omega)
  exact loop _ 0 t rfl (by omega) (fun j hj => absurd hj (Nat.not_lt_zero j))
def echB (td : Nat → Int32) (a b : Nat) : Bool := ech td a b (cN (td 4))
/-- where a song goes on, not into huts of sh: by ways downhill, by echoes at once -/
def EL (td : Nat → Int32) (sh : Int32) (a b : Nat) : Bool := !hb sh a && (!hb sh b && ((decide (a = b) || echB td a b) || (decide (0 < td (51 + 9 * a + b)) && decide (td (7 + b) < td (7 + a)))))
def WL (td : Nat → Int32) (a b : Nat) : Nat := if (decide (a = b) || echB td a b) = true then 0 else min 9 (cN (td (51 + 9 * a + b)))
theorem WL_le {td : Nat → Int32} (a b : Nat) : WL td a b ≤ 9 := by
  unfold WL
  split <;> omega
theorem WL_0 {td : Nat → Int32} (a : Nat) : WL td a a = 0 := by
  unfold WL
  rw [decide_eq_true rfl, Bool.true_or, if_pos rfl]
/-- when a song begun at a is at b -/
def RUN (td : Nat → Int32) (sh : Int32) (n a b : Nat) : Nat := SD (EL td sh) (WL td) 1000 n a b
def leadB (td : Nat → Int32) (a b : Nat) : Bool := decide (0 < td (51 + 9 * a + b)) && (decide (td (7 + b) < td (7 + a)) && (!dam td a && !dam td b))
theorem way_iv {td : Nat → Int32} {a b : Nat} (hR : RNG td) (ha : a < 9) (hb : b < 9) : iv 0 9 (td (51 + 9 * a + b)) := by
  have h := hR (51 + 9 * a + b) (by omega)
  have e : mRh (51 + 9 * a + b) = 9 := by
    unfold mRh
    rw [if_neg (by omega), if_neg (by omega), if_neg (by omega), if_neg (by omega), if_neg (by omega), if_neg (by omega), if_neg (by omega), if_neg (by omega), if_neg (by omega), if_neg (by omega), if_neg (by omega), if_neg (by omega)]
  rw [e] at h
  exact h
section
variable {td : Nat → Int32} {huts singers villages dams echoes deep slide : Int32} {heights ladders minutes echoFrom echoTo homes talls known : Nat → Int32}
theorem e_leadsX {a b n : Nat} {post : Int32 → Prop} (hD : LX td huts singers dams echoes deep heights ladders minutes echoFrom echoTo talls) (hn : td 0 = nI n) (hn9 : n ≤ 9) (ha : a < n) (hb1 : b < n) (h0 : leadB td a b = false → post 0) (h1 : leadB td a b = true → post 1) : q_wl_X2_leads_0 dams heights minutes (nI a) (nI b) post := by
  have ei : (nI a * 9) + nI b = nI (9 * a + b) := by rw [jx9, Nat.mul_comm]
  have hla : nI a < td 0 := by rw [hn]; exact nI_lt ha (by omega)
  have hlb : nI b < td 0 := by rw [hn]; exact nI_lt hb1 (by omega)
  unfold leadB at h0 h1
  unfold q_wl_X2_leads_0
  rw [ei]
  refine ⟨vp_in_nI (by omega) (by omega), ?_⟩
  rw [nI_clamp (by omega), hD.2.2.2.2.2.2.2.1 (9 * a + b) (by omega), show 51 + (9 * a + b) = 51 + 9 * a + b by omega]
  refine ⟨fun hle => h0 (by rw [decide_eq_false (Int32.not_lt.mpr hle)]; rfl), fun hlt => ⟨vp_in_nI (by omega) (by omega), vp_in_nI (by omega) (by omega), ?_⟩⟩
  rw [decide_eq_true (Int32.not_le.mp hlt), Bool.true_and] at h0 h1
  rw [nI_clamp (by omega), nI_clamp (by omega), hD.2.2.2.2.2.1 a (by omega) hla, hD.2.2.2.2.2.1 b (by omega) hlb]
  refine ⟨fun hle => h0 (by rw [decide_eq_false (Int32.not_lt.mpr hle)]; rfl), fun hlt2 => ?_⟩
  rw [decide_eq_true (Int32.not_le.mp hlt2), Bool.true_and] at h0 h1
  rw [hD.2.2.1]
  refine e_damX (by omega) (fun hd => zi ?_) (fun hd => io (h0 (by unfold dam; rw [hd]; rfl)))
  refine e_damX (by omega) (fun hd2 => zi (h1 (by unfold dam; rw [hd, hd2]; rfl))) (fun hd2 => io (h0 (by unfold dam; rw [hd, hd2]; rfl)))
theorem e_markX {t : Nat → Int32} {a : Nat} {set : Int32} {post : (Nat → Int32) → Prop} (ha : a < 9) (hp : ∀ t', (∀ h, h < 9 → t' (9 * a + h) = if hb set h = true then 0 else t (9 * a + h)) → (∀ j, (∀ h, h < 9 → ¬ j = 9 * a + h) → t' j = t j) → post t') : q_wp_X7_markAtOnce_0 t (nI a) set post := by
  have ei : ∀ h : Nat, (nI a * 9) + nI h = nI (9 * a + h) := fun h => by rw [jx9, Nat.mul_comm]
  intro P hP
  have loop : ∀ m i (t1 : Nat → Int32), m = 9 - i → i ≤ 9 → (∀ h, h < 9 → t1 (9 * a + h) = if h < i ∧ hb set h = true then 0 else t (9 * a + h)) → (∀ j, (∀ h, h < 9 → ¬ j = 9 * a + h) → t1 j = t j) → P (nI i) t1 := by
    intro m
    induction m using Nat.strongRecOn with
    | ind m ih =>
      intro i t1 hm hi h1 h2
      apply hP
      refine pk_le 9 i (fun h9 => hp t1 (fun h hh => ?_) h2) (fun h9 => ?_)
      · rw [h1 h hh]
        by_cases e : hb set h = true
        · rw [if_pos ⟨by omega, e⟩, if_pos e]
        · rw [if_neg (fun q => e q.2), if_neg e]
      · have nx : ∀ t2 : Nat → Int32, (∀ h, h < 9 → t2 (9 * a + h) = if h < i + 1 ∧ hb set h = true then 0 else t (9 * a + h)) → (∀ j, (∀ h, h < 9 → ¬ j = 9 * a + h) → t2 j = t j) → q_wp_X7_markAtOnce_28 P t2 (nI a) set (nI i) post := by
          intro t2 g1 g2 v ev
          rw [ev, nI_1]
          exact ih (9 - (i + 1)) (by omega) (i + 1) t2 rfl (by omega) g1 g2
        have stp : ∀ h, ¬ h = i → (if h < i + 1 ∧ hb set h = true then (0 : Int32) else t (9 * a + h)) = (if h < i ∧ hb set h = true then 0 else t (9 * a + h)) := by
          intro h hne
          by_cases e : h < i ∧ hb set h = true
          · rw [if_pos e, if_pos ⟨by omega, e.2⟩]
          · rw [if_neg e, if_neg (fun q => e ⟨by omega, q.2⟩)]
        refine e_hasX (by omega) (fun hh0 => iz (nx t1 (fun h hh => ?_) h2)) (fun hh1 => oi ?_)
        · by_cases e : h = i
          · subst e
            rw [h1 h hh, if_neg (fun q => absurd q.1 (Nat.lt_irrefl h)), if_neg (fun q => by rw [hh0] at q; exact absurd q.2 (by decide))]
          · rw [h1 h hh, stp h e]
        · rw [ei i]
          refine ⟨vp_in_nI (by omega) (by omega), fun t2 e2 => nx t2 (fun h hh => ?_) (fun j hj => ?_)⟩
          · rw [e2, nI_clamp (by omega)]
            by_cases e : h = i
            · subst e
              rw [up_s, if_pos ⟨Nat.lt_succ_self h, hh1⟩]
            · rw [up_n (by omega), h1 h hh, stp h e]
          · rw [e2, nI_clamp (by omega), up_n (hj i h9)]
            exact h2 j hj
  exact loop _ 0 t rfl (by omega) (fun h hh => by rw [if_neg (fun q => absurd q.1 (Nat.not_lt_zero h))]) (fun _ _ => rfl)
theorem e_hearX {t : Nat → Int32} {n : Nat} {post : (Nat → Int32) → Prop} (hR : RNG td) (hD : LX td huts singers dams echoes deep heights ladders minutes echoFrom echoTo talls) (hn : td 0 = nI n) (hn9 : n ≤ 9) (hp : ∀ t', (∀ a b, a < n → b < n → t' (9 * a + b) = nI (RUN td (td 3) n a b)) → post t') : q_wp_X7_hear_9_0 t huts dams echoes heights minutes echoFrom echoTo post := by
  refine e_fill81_1 (fun t0 ht0 => ?_)
  intro P hP
  have loop : ∀ m a (t : Nat → Int32), m = n - a → a ≤ n → (∀ a' b, a' < a → b < n → t (9 * a' + b) = nI (t0F (EL td (td 3)) (WL td) 1000 a' b)) → (∀ a' b, a ≤ a' → a' < 9 → b < 9 → t (9 * a' + b) = 1000) → P (nI a) t := by
    intro m
    induction m using Nat.strongRecOn with
    | ind m ih =>
      intro a t hm ha h1 h2
      apply hP
      rw [hD.1, hn]
      refine pk_le n a (fun h9 => ?_) (fun h9 => ?_)
      · refine e_shorten1 (m := t0F (EL td (td 3)) (WL td) 1000) hn9 rfl (fun a b => ?_) (fun a' b ha' hb => h1 a' b (by omega) hb) hp
        unfold t0F
        split
        · have := WL_le (td := td) a b; omega
        · omega
      · intro P2 hP2
        have loop2 : ∀ m b (t : Nat → Int32), m = n - b → b ≤ n → (∀ a' b, a' < a → b < n → t (9 * a' + b) = nI (t0F (EL td (td 3)) (WL td) 1000 a' b)) → (∀ a' b, a < a' → a' < 9 → b < 9 → t (9 * a' + b) = 1000) → (∀ b', b' < 9 → t (9 * a + b') = if b' < b ∧ leadB td a b' = true then td (51 + 9 * a + b') else 1000) → P2 (nI b) t := by
          intro m
          induction m using Nat.strongRecOn with
          | ind m ih2 =>
            intro b t hm2 hble g1 g2 g3
            apply hP2
            refine pk_le n b (fun h8 => ?_) (fun h8 => ?_)
            · have nx : ∀ t' : Nat → Int32, (∀ a' b, a' < a → b < n → t' (9 * a' + b) = nI (t0F (EL td (td 3)) (WL td) 1000 a' b)) → (∀ a' b, a < a' → a' < 9 → b < 9 → t' (9 * a' + b) = 1000) → (∀ b, b < n → t' (9 * a + b) = nI (t0F (EL td (td 3)) (WL td) 1000 a b)) → q_wp_X7_hear_9_85 P t' (nI n) dams echoes heights minutes echoFrom echoTo (nI a) post := by
                intro t' k1 k2 k3 v ev
                rw [ev, nI_1]
                refine ih (n - (a + 1)) (by omega) (a + 1) t' rfl (by omega) (fun a' b ha' hb => ?_) (fun a' b ha' h9' hb => k2 a' b (by omega) h9' hb)
                by_cases e : a' = a
                · subst e; exact k3 b hb
                · exact k1 a' b (by omega) hb
              rw [hD.2.2.1]
              rw [hD.2.2.1] at nx
              refine e_damX (by omega) (fun hd => zi ?_) (fun hd => io (nx t g1 g2 (fun b' hb' => ?_)))
              · refine e_earX hR rfl hD.2.2.2.1 hD.2.2.2.2.2.2.2.2.1 (by omega) (fun set hset => ?_)
                refine e_markX (by omega) (fun t' q1 q2 => nx t' (fun a' b' ha' hb' => ?_) (fun a' b' ha' h9' hb' => ?_) (fun b' hb' => ?_))
                · rw [q2 _ (fun h hh => by omega)]; exact g1 a' b' ha' hb'
                · rw [q2 _ (fun h hh => by omega)]; exact g2 a' b' ha' h9' hb'
                · rw [q1 b' (by omega), hset b' (by omega), g3 b' (by omega)]
                  have hd' : dam td a = false := hd
                  unfold t0F EL WL hear leadB
                  rw [hd, hd']
                  have edm : hb (td 3) b' = dam td b' := rfl
                  have eab : decide (b' = a) = decide (a = b') := by
                    by_cases e : a = b'
                    · rw [decide_eq_true e, decide_eq_true e.symm]
                    · rw [decide_eq_false e, decide_eq_false (fun h => e h.symm)]
                  rw [edm, eab]
                  show (if (!dam td b' && (decide (a = b') || echB td a b')) = true then (0 : Int32) else _) = _
                  cases hdb : dam td b' with
                  | true =>
                    simp
                    rfl
                  | false =>
                    cases hq : (decide (a = b') || echB td a b') with
                    | true =>
                      simp
                      rfl
                    | false =>
                      obtain ⟨w, ew, -, hw9, -⟩ := iv_nI (way_iv hR (show a < 9 by omega) (show b' < 9 by omega)) (by decide)
                      rw [ew, cN_nI (by omega), show min 9 w = w by omega]
                      by_cases hc : 0 < nI w ∧ td (7 + b') < td (7 + a)
                      · rw [decide_eq_true hc.1, decide_eq_true hc.2]
                        simp [show b' < b by omega]
                      · by_cases h1 : 0 < nI w
                        · rw [decide_eq_false (fun h2 => hc ⟨h1, h2⟩)]
                          simp
                          rfl
                        · rw [decide_eq_false h1]
                          simp
                          rfl
              · rw [g3 b' (by omega), if_neg (fun q => ?_)]
                · unfold t0F EL
                  rw [hd]
                  rfl
                · have hd' : dam td a = true := hd
                  have q2 := q.2
                  unfold leadB at q2
                  rw [hd'] at q2
                  simp at q2
            · have nx : ∀ t' : Nat → Int32, (∀ j, ¬ j = 9 * a + b → t' j = t j) → t' (9 * a + b) = (if leadB td a b = true then td (51 + 9 * a + b) else 1000) → q_wp_X7_hear_9_61 P P2 t' (nI n) dams echoes heights minutes echoFrom echoTo (nI a) (nI b) post := by
                intro t' k1 k2 v ev
                rw [ev, nI_1]
                refine ih2 (n - (b + 1)) (by omega) (b + 1) t' rfl (by omega) (fun a' b' ha' hb' => ?_) (fun a' b' ha' h9' hb' => ?_) (fun b' hb' => ?_)
                · rw [k1 _ (by omega)]; exact g1 a' b' ha' hb'
                · rw [k1 _ (by omega)]; exact g2 a' b' ha' h9' hb'
                · by_cases e : b' = b
                  · subst e
                    rw [k2]
                    by_cases hl : leadB td a b' = true
                    · rw [if_pos hl, if_pos ⟨Nat.lt_succ_self b', hl⟩]
                    · rw [if_neg hl, if_neg (fun q => hl q.2)]
                  · rw [k1 _ (by omega), g3 b' hb']
                    by_cases hl : b' < b ∧ leadB td a b' = true
                    · rw [if_pos hl, if_pos ⟨by omega, hl.2⟩]
                    · rw [if_neg hl, if_neg (fun q => hl ⟨by omega, q.2⟩)]
              have hrow := g3 b (by omega)
              rw [if_neg (fun q => absurd q.1 (Nat.lt_irrefl b))] at hrow
              refine e_leadsX hD hn hn9 h9 h8 (fun hl => iz (nx t (fun _ _ => rfl) ?_)) (fun hl => oi ?_)
              · rw [hrow, if_neg (by rw [hl]; decide)]
              · have ei : (nI a * 9) + nI b = nI (9 * a + b) := by rw [jx9, Nat.mul_comm]
                rw [ei]
                refine ⟨vp_in_nI (by omega) (by omega), fun v ev => ⟨vp_in_nI (by omega) (by omega), fun t' et => nx t' (fun j hj => ?_) ?_⟩⟩
                · rw [et, nI_clamp (by omega), up_n hj]
                · rw [nI_clamp (by omega), hD.2.2.2.2.2.2.2.1 (9 * a + b) (by omega), show 51 + (9 * a + b) = 51 + 9 * a + b by omega] at ev
                  rw [et, nI_clamp (by omega), up_s, ev, if_pos hl]
        exact loop2 _ 0 t rfl (by omega) h1 (fun a' b ha' h9' hb => h2 a' b (by omega) h9' hb) (fun b' hb' => by rw [if_neg (fun q => absurd q.1 (Nat.not_lt_zero b'))]; exact h2 a b' (Nat.le_refl a) (by omega) hb')
  exact loop _ 0 t0 rfl (by omega) (fun a' b ha' => absurd ha' (Nat.not_lt_zero a')) (fun a' b _ ha' hb => ht0 _ (by omega))
end
end
section
theorem e_lessM {p q : Nat} {post : Int32 → Prop} (hp : p < 2 ^ 30) (hq : q < 2 ^ 30) (h : post (nI (min p q))) : q_m_lesser_0 (nI p) (nI q) post := by
  refine pk_le q p (fun hle => ?_) (fun hlt => ?_)
  · rw [show min p q = q by omega] at h; exact h
  · rw [show min p q = p by omega] at h; exact h
theorem e_grM {p q : Nat} {post : Int32 → Prop} (hp : p < 2 ^ 30) (hq : q < 2 ^ 30) (h : post (nI (max p q))) : q_m_greater_0 (nI p) (nI q) post := by
  refine pk_le p q (fun hle => ?_) (fun hlt => ?_)
  · rw [show max p q = q by omega] at h; exact h
  · rw [show max p q = p by omega] at h; exact h
def pA (D x : Nat → Nat) (h : Nat) : Bool := decide (D h < 1000) && decide (x h ≤ D h)
/-- so far right -/
def GD (D : Nat → Nat) (n : Nat) (x : Nat → Nat) : Prop := ∀ h, h < n → x h ≤ 1000000 ∧ (x h < 1000000 → D h < 1000) ∧ (D h < 1000 → D h ≤ x h)
def uN (x : Nat → Nat) (v d : Nat) : Nat → Nat := fun h => if h = v then d else x h
theorem uN_s {x : Nat → Nat} {v d : Nat} : uN x v d v = d := by unfold uN; rw [if_pos rfl]
theorem uN_n {x : Nat → Nat} {v d h : Nat} (e : ¬ h = v) : uN x v d h = x h := by unfold uN; rw [if_neg e]
section
variable {E : Nat → Nat → Bool} {W : Nat → Nat → Nat} {n f : Nat}
theorem SD_open (hE : ∀ a b, E a b = true → E a a = true) {u : Nat} (h : SD E W 1000 n f u < 1000) : E f f = true := by
  apply Classical.byContradiction
  intro hn
  have : ∀ b, 1000 ≤ t0F E W 1000 f b := by
    intro b
    unfold t0F
    rw [if_neg (fun h2 => hn (hE f b h2))]
    omega
  have h2 := fw_row this n u
  have e : SD E W 1000 n f u = fw (t0F E W 1000) n f u := rfl
  omega
theorem GD_rx (hW : ∀ a b, W a b ≤ 9) (hE : ∀ a b, E a b = true → E a a = true) (hW0 : ∀ a, W a a = 0) (hn : n ≤ 9) (hf : f < n) {x : Nat → Nat} (hG : GD (SD E W 1000 n f) n x) {u v w : Nat} (hu : u < n) (hv : v < n) (he : E u v = true) (hw : W u v ≤ w) : GD (SD E W 1000 n f) n (uN x v (min (x v) (x u + w))) := by
  intro h hh
  obtain ⟨g1, g2, g3⟩ := hG h hh
  obtain ⟨k1, k2, k3⟩ := hG u hu
  by_cases e : h = v
  · subst e
    rw [uN_s]
    refine ⟨by omega, fun hlt => ?_, fun hd => ?_⟩
    · by_cases q : x h < 1000000
      · exact g2 q
      · have hku := k2 (by omega)
        exact SD_fin hW (by omega) hn hf hu (SD_open hE hku) (hW0 f) he hku
    · by_cases q : x u < 1000000
      · have := k2 q
        have := k3 this
        have := SD_s (W := W) (F := 1000) (a := f) hu he
        have := g3 hd
        omega
      · have := g3 hd
        omega
  · rw [uN_n e]
    exact ⟨g1, g2, g3⟩
theorem rnd (hW : ∀ a b, W a b ≤ 9) (hE : ∀ a b, E a b = true → E a a = true) (hW0 : ∀ a, W a a = 0) (hn : n ≤ 9) (hf : f < n) {x0 x : Nat → Nat} {i : Nat} (hle : ∀ h, h < n → x h ≤ x0 h) (hed : ∀ u v, u < n → v < n → E u v = true → x v ≤ x0 u + W u v) (hx0 : E f f = true → x0 f = 0) (h0 : (∀ h, h < n → SD E W 1000 n f h < 1000 → x0 h ≤ SD E W 1000 n f h) ∨ i + 1 ≤ cntB (pA (SD E W 1000 n f) x0) n) : (∀ h, h < n → SD E W 1000 n f h < 1000 → x h ≤ SD E W 1000 n f h) ∨ i + 1 + 1 ≤ cntB (pA (SD E W 1000 n f) x) n := by
  have up : ∀ h, h < n → pA (SD E W 1000 n f) x0 h = true → pA (SD E W 1000 n f) x h = true := by
    intro h hh hp
    unfold pA at hp ⊢
    rw [Bool.and_eq_true, decide_eq_true_eq, decide_eq_true_eq] at hp ⊢
    have := hle h hh
    exact ⟨hp.1, by omega⟩
  rcases h0 with h0 | h0
  · left
    intro h hh hd
    have := h0 h hh hd
    have := hle h hh
    omega
  · by_cases hc : ∀ h, h < n → SD E W 1000 n f h < 1000 → x0 h ≤ SD E W 1000 n f h
    · left
      intro h hh hd
      have := hc h hh hd
      have := hle h hh
      omega
    · right
      have hd : ∃ k, k < n ∧ pA (SD E W 1000 n f) x k = true ∧ pA (SD E W 1000 n f) x0 k = false := by
        apply Classical.byContradiction
        intro hno
        apply hc
        intro b hb hd
        have ho := SD_open hE hd
        have hf0 : SD E W 1000 n f f = 0 := by have := SD_e (W := W) (F := 1000) (n := n) ho; have := hW0 f; omega
        have g := SD_all (C := fun u => SD E W 1000 n f u < 1000 ∧ x0 u ≤ SD E W 1000 n f u) hf hb ho (hW0 f) (by omega) (fun u v hu hv hC he ht => ?_) hd ⟨by omega, by have := hx0 ho; omega⟩
        · exact g.2
        · have hfv := SD_fin hW (by omega) hn hf hu ho (hW0 f) he hC.1
          refine ⟨hfv, ?_⟩
          have h1 := hed u v hu hv he
          have h2 : pA (SD E W 1000 n f) x v = true := by
            unfold pA
            rw [decide_eq_true hfv, Bool.true_and]
            exact decide_eq_true (by have := hC.2; omega)
          apply Classical.byContradiction
          intro h3
          exact hno ⟨v, hv, h2, by unfold pA; rw [decide_eq_false h3, Bool.and_false]⟩
      have := cnt_lt n up hd
      omega
end
theorem EL_a {td : Nat → Int32} {sh : Int32} (a b : Nat) (h : EL td sh a b = true) : EL td sh a a = true := by
  unfold EL at h ⊢
  rw [Bool.and_eq_true] at h
  rw [h.1, decide_eq_true rfl]
  rfl
theorem ech_iff {td : Nat → Int32} {a b : Nat} : ∀ c, ech td a b c = true ↔ ∃ k, k < c ∧ td (43 + 2 * k) = nI a ∧ td (44 + 2 * k) = nI b
  | 0 => ⟨fun h => absurd (show false = true from h) (by decide), fun ⟨k, hk, _⟩ => absurd hk (Nat.not_lt_zero k)⟩
  | c + 1 => by
    show (ech td a b c || (decide (td (43 + 2 * c) = nI a) && decide (td (44 + 2 * c) = nI b))) = true ↔ _
    rw [Bool.or_eq_true, ech_iff c, Bool.and_eq_true, decide_eq_true_eq, decide_eq_true_eq]
    constructor
    · rintro (⟨k, hk, h⟩ | h)
      · exact ⟨k, by omega, h⟩
      · exact ⟨c, by omega, h⟩
    · rintro ⟨k, hk, h⟩
      by_cases e : k = c
      · subst e; exact Or.inr h
      · exact Or.inl ⟨k, by omega, h⟩
/-- a round's state -/
def RI (td : Nat → Int32) (sh : Int32) (n f : Nat) (x0 x : Nat → Nat) (run : Nat → Int32) : Prop := (∀ h, h < n → run h = nI (x h)) ∧ GD (RUN td sh n f) n x ∧ (∀ h, h < n → x h ≤ x0 h) ∧ (EL td sh f f = true → x f = 0)
theorem RUN_sh {td : Nat → Int32} {sh : Int32} {n f u : Nat} (hf : f < n) (hu : u < n) (h : RUN td sh n f u < 1000) : hb sh u = false := by
  refine SD_cl (C := fun u => hb sh u = false) hf hu (fun a b _ _ _ he => ?_) h ?_
  · unfold EL at he
    simp only [Bool.and_eq_true, Bool.not_eq_true'] at he
    exact he.2.1
  · have := SD_open (E := EL td sh) (W := WL td) EL_a h
    unfold EL at this
    simp only [Bool.and_eq_true, Bool.not_eq_true'] at this
    exact this.1
theorem GD_sh {td : Nat → Int32} {sh : Int32} {n f u : Nat} {x : Nat → Nat} (hf : f < n) (hu : u < n) (hG : GD (RUN td sh n f) n x) (h : hb sh u = true) : x u = 1000000 := by
  obtain ⟨g1, g2, g3⟩ := hG u hu
  apply Classical.byContradiction
  intro hne
  have := RUN_sh hf hu (g2 (by omega))
  rw [this] at h
  exact absurd h (by decide)
theorem RI_rx {td : Nat → Int32} {sh : Int32} {n f u v w : Nat} {x0 x : Nat → Nat} {run run' : Nat → Int32} (hn : n ≤ 9) (hf : f < n) (hI : RI td sh n f x0 x run) (hu : u < n) (hv : v < n) (he : hb sh u = false → EL td sh u v = true ∧ WL td u v ≤ w) (hr : run' = upd run v (nI (min (x v) (x u + w)))) : RI td sh n f x0 (uN x v (min (x v) (x u + w))) run' := by
  obtain ⟨i1, i2, i3, i4⟩ := hI
  refine ⟨fun h hh => ?_, ?_, fun h hh => ?_, fun ho => ?_⟩
  · rw [hr]
    by_cases e : h = v
    · subst e; rw [up_s, uN_s]
    · rw [up_n e, uN_n e]; exact i1 h hh
  · cases hs : hb sh u with
    | false => exact GD_rx WL_le EL_a WL_0 hn hf i2 hu hv (he hs).1 (he hs).2
    | true =>
      have e6 := GD_sh hf hu i2 hs
      intro h hh
      have g := i2 h hh
      by_cases e : h = v
      · subst e
        rw [uN_s, e6, show min (x h) (1000000 + w) = x h by have := g.1; omega]
        exact g
      · rw [uN_n e]; exact g
  · by_cases e : h = v
    · subst e; rw [uN_s]; have := i3 h hh; omega
    · rw [uN_n e]; exact i3 h hh
  · have h0 := i4 ho
    by_cases e : f = v
    · subst e; rw [uN_s, h0]; omega
    · rw [uN_n e]; exact h0
def x0F (f : Nat) (c : Bool) (h : Nat) : Nat := if h = f ∧ c = false then 0 else 1000000
set_option maxHeartbeats 4000000 in
theorem e_runM {M : Nat → Nat → Int32} {run : Nat → Int32} {k n f : Nat} {x1 x2 : Int32} {post : (Nat → Int32) → Prop} (hk : k < 2) (hL : mLand (M 5)) (hO : LOK (tdM M k)) (hn : tdM M k 0 = nI n) (hn9 : n ≤ 9) (hf : f < n) (hx1 : x1 = nI f) (hp : ∀ run', (∀ h, h < n → run' h = nI (upF (RUN (tdM M k) (tdM M k 3 ||| x2) n f h))) → post run') : q_m_findRun_0 (M 5) (nI k) (tdM M k 0) run x1 x2 post := by
  subst hx1
  have hR : RNG (tdM M k) := fun j hj => row_iv hL hk hj
  have b4 : iv 0 4 (tdM M k 4) := hR 4 (by omega)
  obtain ⟨c, hc, -, hc4, -⟩ := iv_nI b4 (by decide)
  refine e_of (i := 3) hk (by omega) rfl (fun v1 e1 => ?_)
  have e1' : v1 = tdM M k 3 ||| x2 := e1
  rw [← e1'] at hp
  clear e1 e1'
  have hu : ∀ {A B : Prop} (x : Nat), x < 2 ^ 31 → (n ≤ x → A) → (x < n → B) → (tdM M k 0 ≤ nI x → A) ∧ (¬ tdM M k 0 ≤ nI x → B) := fun x hx f g => pk_le n x f g hn rfl (by omega) hx
  -- the rounds
  have rounds : ∀ (run : Nat → Int32) (x : Nat → Nat), RI (tdM M k) v1 n f x x run → ((∀ h, h < n → RUN (tdM M k) v1 n f h < 1000 → x h ≤ RUN (tdM M k) v1 n f h) ∨ 0 + 1 ≤ cntB (pA (RUN (tdM M k) v1 n f) x) n) → q_m_findRun_56 (M 5) (nI k) (tdM M k 0) run v1 0 post := by
    intro run x hI hc0
    intro P hP
    have loop : ∀ m i (run : Nat → Int32) (x : Nat → Nat), m = n - i → i ≤ n → RI (tdM M k) v1 n f x x run → ((∀ h, h < n → RUN (tdM M k) v1 n f h < 1000 → x h ≤ RUN (tdM M k) v1 n f h) ∨ i + 1 ≤ cntB (pA (RUN (tdM M k) v1 n f) x) n) → P (nI i) run := by
      intro m
      induction m using Nat.strongRecOn with
      | ind m ih =>
        intro i run x hm hi hI hcn
        apply hP
        refine hu i (by omega) (fun h9 => ?_) (fun h9 => ?_)
        · refine hp run (fun h hh => ?_)
          obtain ⟨i1, i2, i3, i4⟩ := hI
          obtain ⟨g1, g2, g3⟩ := i2 h hh
          have hcm : ∀ h, h < n → RUN (tdM M k) v1 n f h < 1000 → x h ≤ RUN (tdM M k) v1 n f h := by
            rcases hcn with q | q
            · exact q
            · have := cnt_le (pA (RUN (tdM M k) v1 n f) x) n
              omega
          rw [i1 h hh]
          unfold upF
          by_cases hd : RUN (tdM M k) v1 n f h < 1000
          · have := hcm h hh hd
            have := g3 hd
            rw [if_pos hd, show x h = RUN (tdM M k) v1 n f h by omega]
          · have : x h = 1000000 := by
              apply Classical.byContradiction
              intro hne
              exact hd (g2 (by omega))
            rw [if_neg hd, this]
        · -- one round, from x
          intro Pa hPa
          have echoes : ∀ (run : Nat → Int32) (y : Nat → Nat), RI (tdM M k) v1 n f x y run → (∀ u v, u < n → v < n → 0 < tdM M k (51 + 9 * u + v) → tdM M k (7 + v) < tdM M k (7 + u) → hb v1 v = false → y v ≤ x u + cN (tdM M k (51 + 9 * u + v))) → q_m_findRun_194 P (M 5) (nI k) (tdM M k 0) run v1 (nI i) 0 post := by
            intro run y hIy hw
            intro Pe hPe
            have loopE : ∀ m j (run : Nat → Int32) (y : Nat → Nat), m = c - j → j ≤ c → RI (tdM M k) v1 n f x y run → (∀ u v, u < n → v < n → 0 < tdM M k (51 + 9 * u + v) → tdM M k (7 + v) < tdM M k (7 + u) → hb v1 v = false → y v ≤ x u + cN (tdM M k (51 + 9 * u + v))) → (∀ j' u v, j' < j → u < n → v < n → tdM M k (43 + 2 * j') = nI u → tdM M k (44 + 2 * j') = nI v → hb v1 v = false → y v ≤ x u) → Pe (nI j) run := by
              intro m
              induction m using Nat.strongRecOn with
              | ind m ihE =>
                intro j run y hmj hj hIy hw he
                apply hPe
                refine e_of (i := 4) hk (by omega) rfl ?_
                rw [show rowM M 0 (nI k) 4 = nI c from hc]
                refine pk_le c j (fun h8 v ev => ?_) (fun h8 => ?_)
                · rw [ev, nI_1]
                  have hxf : EL (tdM M k) v1 f f = true → x f = 0 := hI.2.2.2
                  have hr := rnd (E := EL (tdM M k) v1) (W := WL (tdM M k)) (n := n) (f := f) (x0 := x) (x := y) (i := i) WL_le EL_a WL_0 hn9 hf hIy.2.2.1 (fun u v hu1 hv1 hel => ?_) hxf hcn
                  · exact ih (n - (i + 1)) (by omega) (i + 1) run y rfl (by omega) ⟨hIy.1, hIy.2.1, fun _ _ => Nat.le_refl _, hIy.2.2.2⟩ hr
                  · unfold EL at hel
                    simp only [Bool.and_eq_true, Bool.not_eq_true'] at hel
                    obtain ⟨_, hsv, hor⟩ := hel
                    cases hq : (decide (u = v) || echB (tdM M k) u v) with
                    | true =>
                      rw [Bool.or_eq_true] at hq
                      rcases hq with hq | hq
                      · have := of_decide_eq_true hq
                        subst this
                        have := hIy.2.2.1 u hu1
                        omega
                      · unfold echB at hq
                        rw [hc, cN_nI (by omega), ech_iff] at hq
                        obtain ⟨j', hj', ea, eb⟩ := hq
                        have := he j' u v (by omega) hu1 hv1 ea eb hsv
                        omega
                    | false =>
                      rw [hq, Bool.false_or, Bool.and_eq_true, decide_eq_true_eq, decide_eq_true_eq] at hor
                      have h1 := hw u v hu1 hv1 hor.1 hor.2 hsv
                      obtain ⟨w, ew, -, hw9, -⟩ := iv_nI (way_iv hR (show u < 9 by omega) (show v < 9 by omega)) (by decide)
                      unfold WL
                      rw [hq, if_neg (by decide)]
                      rw [ew, cN_nI (by omega)] at h1 ⊢
                      omega
                · have hl4 : nI j < tdM M k 4 := by rw [hc]; exact nI_lt h8 (by omega)
                  obtain ⟨o1, o2⟩ := hO.2.1 j (by omega) hl4
                  have hi43 : (43 : Int32) + 2 * nI j = nI (43 + 2 * j) := by rw [show (43 : Int32) = nI 43 from rfl, show (2 : Int32) = nI 2 from rfl, pk_mul, nI_add]
                  have q8 : ∀ i, 43 ≤ i → i ≤ 50 → iv 0 8 (tdM M k i) := by
                    intro i h1 h2
                    have h3 := hR i (by omega)
                    have e : mRh i = 8 := by
                      unfold mRh
                      rw [if_neg (by omega), if_neg (by omega), if_neg (by omega), if_neg (by omega), if_neg (by omega), if_neg (by omega), if_neg (by omega), if_neg (by omega), if_neg (by omega), if_neg (by omega), if_neg (by omega), if_pos (by omega)]
                    rw [e] at h3
                    exact h3
                  obtain ⟨u, eu, -, hu8, -⟩ := iv_nI (q8 (43 + 2 * j) (by omega) (by omega)) (by decide)
                  obtain ⟨v, ev0, -, hv8, -⟩ := iv_nI (q8 (44 + 2 * j) (by omega) (by omega)) (by decide)
                  have hun : u < n := by rw [eu, hn] at o1; exact (nI_ltI (by omega) (by omega)).mp o1
                  have hvn : v < n := by rw [ev0, hn] at o2; exact (nI_ltI (by omega) (by omega)).mp o2
                  have nx : ∀ (run' : Nat → Int32) (y' : Nat → Nat), RI (tdM M k) v1 n f x y' run' → (∀ h, h < n → y' h ≤ y h) → (hb v1 v = false → y' v ≤ x u) → Pe (nI (j + 1)) run' := by
                    intro run' y' hI' hle hq
                    refine ihE (c - (j + 1)) (by omega) (j + 1) run' y' rfl (by omega) hI' (fun u' v' hu' hv' g1 g2 g3 => Nat.le_trans (hle v' hv') (hw u' v' hu' hv' g1 g2 g3)) (fun j' u' v' hj' hu' hv' g1 g2 g3 => ?_)
                    by_cases e : j' = j
                    · subst e
                      have h1 := (nI_eq (by omega) (by omega)).mp (eu.symm.trans g1)
                      have h2 := (nI_eq (by omega) (by omega)).mp (ev0.symm.trans g2)
                      subst h1 h2
                      exact hq g3
                    · exact Nat.le_trans (hle v' hv') (he j' u' v' (by omega) hu' hv' g1 g2 g3)
                  have hyv := hIy.1 v hvn
                  have hyu := hIy.1 u hun
                  have by1 := (hIy.2.1 v hvn).1
                  have by2 := (hIy.2.1 u hun).1
                  refine e_of (i := 44 + 2 * j) hk (by omega) (by rw [hi43, nI_1, show 43 + 2 * j + 1 = 44 + 2 * j by omega]) ?_
                  rw [show rowM M 0 (nI k) (44 + 2 * j) = nI v from ev0]
                  have hinv : vp_in (nI v) 9 := vp_in_nI (by omega) (by omega)
                  refine e_hasM (by omega) (fun hs => iz ⟨hinv, ?_⟩) (fun hs => oi ⟨hinv, ⟨hinv, fun run' er v2 ev2 => ?_⟩⟩)
                  · refine e_of (i := 43 + 2 * j) hk (by omega) hi43 ?_
                    rw [show rowM M 0 (nI k) (43 + 2 * j) = nI u from eu]
                    refine ⟨vp_in_nI (by omega) (by omega), ?_⟩
                    rw [nI_clamp (by omega), nI_clamp (by omega), hyv, hyu]
                    refine e_lessM (by omega) (by omega) ⟨hinv, fun run' er v2 ev2 => ?_⟩
                    rw [ev2, nI_1]
                    rw [nI_clamp (by omega)] at er
                    have er' : run' = upd run v (nI (min (y v) (y u + 0))) := by rw [er, Nat.add_zero]
                    refine nx run' (uN y v (min (y v) (y u + 0))) (RI_rx hn9 hf hIy hun hvn (fun hsu => ?_) er') (fun h hh => ?_) (fun _ => ?_)
                    · have hec : echB (tdM M k) u v = true := by
                        unfold echB
                        rw [hc, cN_nI (by omega), ech_iff]
                        exact ⟨j, h8, eu, ev0⟩
                      refine ⟨?_, ?_⟩
                      · unfold EL
                        rw [hsu, hs, hec, Bool.or_true]
                        rfl
                      · unfold WL
                        rw [hec, Bool.or_true, if_pos rfl]
                        exact Nat.le_refl 0
                    · by_cases e : h = v
                      · subst e; rw [uN_s]; omega
                      · rw [uN_n e]; exact Nat.le_refl _
                    · rw [uN_s]
                      have := hIy.2.2.1 u hun
                      omega
                  · rw [ev2, nI_1]
                    rw [nI_clamp (by omega)] at er
                    have er' : run' = run := by
                      rw [er]
                      funext h
                      by_cases e : h = v
                      · subst e; rw [up_s]
                      · rw [up_n e]
                    rw [er']
                    exact nx run y hIy (fun _ _ => Nat.le_refl _) (fun h => by rw [hs] at h; exact absurd h (by decide))
            exact loopE _ 0 run y rfl (by omega) hIy hw (fun j' u v hj' => absurd hj' (Nat.not_lt_zero j'))
          have loopa : ∀ m a (run : Nat → Int32) (y : Nat → Nat), m = n - a → a ≤ n → RI (tdM M k) v1 n f x y run → (∀ u v, u < a → v < n → 0 < tdM M k (51 + 9 * u + v) → tdM M k (7 + v) < tdM M k (7 + u) → hb v1 v = false → y v ≤ x u + cN (tdM M k (51 + 9 * u + v))) → Pa (nI a) run := by
            intro m
            induction m using Nat.strongRecOn with
            | ind m iha =>
              intro a run y hma ha hIy hw
              apply hPa
              refine hu a (by omega) (fun h8 => echoes run y hIy (fun u v hu1 => hw u v (by omega))) (fun h8 => ?_)
              intro Pb hPb
              have loopb : ∀ m b (run : Nat → Int32) (y : Nat → Nat), m = n - b → b ≤ n → RI (tdM M k) v1 n f x y run → (∀ u v, u < a ∨ (u = a ∧ v < b) → v < n → 0 < tdM M k (51 + 9 * u + v) → tdM M k (7 + v) < tdM M k (7 + u) → hb v1 v = false → y v ≤ x u + cN (tdM M k (51 + 9 * u + v))) → Pb (nI b) run := by
                intro m
                induction m using Nat.strongRecOn with
                | ind m ihb =>
                  intro b run y hmb hbn hIy hw
                  apply hPb
                  refine hu b (by omega) (fun h7 v ev => ?_) (fun h7 => ?_)
                  · rw [ev, nI_1]
                    exact iha (n - (a + 1)) (by omega) (a + 1) run y rfl (by omega) hIy (fun u v hu1 hv1 => hw u v (by omega) hv1)
                  · obtain ⟨w, ew, -, hw9, -⟩ := iv_nI (way_iv hR (show a < 9 by omega) (show b < 9 by omega)) (by decide)
                    have hinb : vp_in (nI b) 9 := vp_in_nI (by omega) (by omega)
                    have hina : vp_in (nI a) 9 := vp_in_nI (by omega) (by omega)
                    have hyb := hIy.1 b h7
                    have hya := hIy.1 a h8
                    have by1 := (hIy.2.1 b h7).1
                    have by2 := (hIy.2.1 a h8).1
                    have nx : ∀ (run' : Nat → Int32) (y' : Nat → Nat), RI (tdM M k) v1 n f x y' run' → (∀ h, h < n → y' h ≤ y h) → (0 < tdM M k (51 + 9 * a + b) → tdM M k (7 + b) < tdM M k (7 + a) → hb v1 b = false → y' b ≤ x a + cN (tdM M k (51 + 9 * a + b))) → Pb (nI (b + 1)) run' := by
                      intro run' y' hI' hle hq
                      refine ihb (n - (b + 1)) (by omega) (b + 1) run' y' rfl (by omega) hI' (fun u v huv hv1 g1 g2 g3 => ?_)
                      by_cases e : u = a ∧ v = b
                      · obtain ⟨e1, e2⟩ := e
                        subst e1 e2
                        exact hq g1 g2 g3
                      · exact Nat.le_trans (hle v hv1) (hw u v (by omega) hv1 g1 g2 g3)
                    have stay : (0 < tdM M k (51 + 9 * a + b) → tdM M k (7 + b) < tdM M k (7 + a) → hb v1 b = false → False) → q_m_findRun_128 P Pa Pb (M 5) (nI k) (tdM M k 0) run v1 (nI i) (nI a) (nI b) post := by
                      intro hno
                      refine ⟨fun _ => ⟨hinb, ⟨hinb, fun run' er v2 ev2 => ?_⟩⟩, fun h => absurd rfl h⟩
                      rw [ev2, nI_1]
                      rw [nI_clamp (by omega)] at er
                      have er' : run' = run := by
                        rw [er]
                        funext h
                        by_cases e : h = b
                        · subst e; rw [up_s]
                        · rw [up_n e]
                      rw [er']
                      exact nx run y hIy (fun _ _ => Nat.le_refl _) (fun g1 g2 g3 => (hno g1 g2 g3).elim)
                    have ofw : ∀ {post : Int32 → Prop}, post (nI w) → q_m_way_0 (M 5) (nI k) (nI a) (nI b) post := fun h => e_of (i := 51 + 9 * a + b) hk (by omega) (ix9 a b) (by rw [show rowM M 0 (nI k) (51 + 9 * a + b) = nI w from ew]; exact h)
                    refine ofw ⟨fun hle => stay (fun g1 _ _ => ?_), fun hlt => ?_⟩
                    · have g1' : 0 < nI w := by rw [← ew]; exact g1
                      exact absurd hle (Int32.not_le.mpr g1')
                    · refine e_of (i := 7 + b) hk (by omega) (jx 7 b) (e_of (i := 7 + a) hk (by omega) (jx 7 a) ⟨fun hle => stay (fun _ g2 _ => ?_), fun hlt2 => ?_⟩)
                      · exact absurd hle (Int32.not_le.mpr g2)
                      · refine e_hasM (by omega) (fun hs => zi ?_) (fun hs => io (stay (fun _ _ g3 => by rw [hs] at g3; exact absurd g3 (by decide))))
                        refine ⟨fun h => absurd h (by decide), fun _ => ⟨hinb, hina, ofw ?_⟩⟩
                        rw [nI_clamp (by omega), nI_clamp (by omega), hyb, hya, nI_add]
                        refine e_lessM (by omega) (by omega) ⟨hinb, fun run' er v2 ev2 => ?_⟩
                        rw [ev2, nI_1]
                        rw [nI_clamp (by omega)] at er
                        refine nx run' (uN y b (min (y b) (y a + w))) (RI_rx hn9 hf hIy h8 h7 (fun hsu => ⟨?_, ?_⟩) er) (fun h hh => ?_) (fun _ _ _ => ?_)
                        · unfold EL
                          rw [hsu, hs, ew, decide_eq_true (Int32.not_le.mp hlt), decide_eq_true (show tdM M k (7 + b) < tdM M k (7 + a) from Int32.not_le.mp hlt2)]
                          simp
                        · unfold WL
                          rw [ew, cN_nI (by omega)]
                          split <;> omega
                        · by_cases e : h = b
                          · subst e; rw [uN_s]; omega
                          · rw [uN_n e]; exact Nat.le_refl _
                        · rw [uN_s, ew, cN_nI (by omega)]
                          have := hIy.2.2.1 a h8
                          omega
              exact loopb _ 0 run y rfl (by omega) hIy (fun u v huv hv1 => hw u v (by omega) hv1)
          exact loopa _ 0 run x rfl (by omega) hI (fun u v hu1 => absurd hu1 (Nat.not_lt_zero u))
    exact loop _ 0 run x rfl (by omega) hI hc0
  -- the start
  intro P hP
  have loop : ∀ m i (run : Nat → Int32), m = 9 - i → i ≤ 9 → (∀ h, h < i → run h = nI (if h = f ∧ hb v1 f = false then 0 else 1000000)) → P (nI i) run := by
    intro m
    induction m using Nat.strongRecOn with
    | ind m ih =>
      intro i run hm hi hI
      apply hP
      have nx : ∀ y : Nat, y = (if i = f ∧ hb v1 f = false then 0 else 1000000) → i < 9 → ∀ z : Int32, z = nI y → q_m_findRun_46 P (M 5) (nI k) (tdM M k 0) run (nI f) v1 (nI i) (nI i) z post := by
        intro y hy h9 z hz
        refine ⟨vp_in_nI h9 (by omega), fun run' er v ev => ?_⟩
        rw [ev, nI_1]
        rw [nI_clamp (by omega)] at er
        refine ih (9 - (i + 1)) (by omega) (i + 1) run' rfl (by omega) (fun h hh => ?_)
        rw [er]
        by_cases e : h = i
        · subst e; rw [up_s, hz, hy]
        · rw [up_n e]; exact hI h (by omega)
      refine pk_le 9 i (fun h9 => ?_) (fun h9 => ?_)
      · have hff : hb v1 f = false → EL (tdM M k) v1 f f = true := by
          intro h
          unfold EL
          rw [h, decide_eq_true rfl]
          rfl
        have hf0 : hb v1 f = false → RUN (tdM M k) v1 n f f = 0 := by
          intro h
          have h1 := SD_e (W := WL (tdM M k)) (F := 1000) (n := n) (hff h)
          have h2 := WL_0 (td := tdM M k) f
          have h3 : RUN (tdM M k) v1 n f f = SD (EL (tdM M k) v1) (WL (tdM M k)) 1000 n f f := rfl
          omega
        refine rounds run (x0F f (hb v1 f)) ⟨fun h hh => hI h (by omega), fun h hh => ?_, fun _ _ => Nat.le_refl _, fun ho => ?_⟩ ?_
        · have hle : RUN (tdM M k) v1 n f h ≤ 1000 := SD_le WL_le (by omega) f h
          by_cases e : h = f ∧ hb v1 f = false
          · have h0 := hf0 e.2
            rw [e.1]
            have e2 : x0F f (hb v1 f) f = 0 := if_pos ⟨rfl, e.2⟩
            rw [e2]
            exact ⟨by omega, fun _ => by omega, fun _ => by omega⟩
          · have e2 : x0F f (hb v1 f) h = 1000000 := if_neg e
            rw [e2]
            exact ⟨by omega, fun h => absurd h (by omega), fun _ => by omega⟩
        · have : hb v1 f = false := by
            unfold EL at ho
            simp only [Bool.and_eq_true, Bool.not_eq_true'] at ho
            exact ho.1
          exact if_pos ⟨rfl, this⟩
        · cases hs : hb v1 f with
          | true =>
            left
            intro h hh hd
            have := SD_open (E := EL (tdM M k) v1) (W := WL (tdM M k)) EL_a hd
            unfold EL at this
            rw [hs] at this
            exact absurd this (by simp)
          | false =>
            right
            have g := cnt_lt (p := fun _ => false) (q := pA (RUN (tdM M k) v1 n f) (x0F f (hb v1 f))) n (fun _ _ h => absurd h (by decide)) ⟨f, hf, by
              unfold pA
              have e2 : x0F f (hb v1 f) f = 0 := if_pos ⟨rfl, hs⟩
              rw [e2, hf0 hs]
              decide, rfl⟩
            rw [hs] at g
            omega
      · refine ⟨fun hne => ?_, fun heq => ?_⟩
        · exact nx 1000000 (by rw [if_neg (fun q => hne (by rw [q.1]))]) h9 _ rfl
        · have hif : i = f := (nI_eq (by omega) (by omega)).mp heq
          refine e_hasM (by omega) (fun hs => zi ?_) (fun hs => io ?_)
          · exact nx 0 (by rw [if_pos ⟨hif, by rw [← hif]; exact hs⟩]) h9 _ rfl
          · exact nx 1000000 (by rw [if_neg (fun q => by rw [← hif, hs] at q; exact absurd q.2 (by decide))]) h9 _ rfl
  exact loop _ 0 run rfl (by omega) (fun h hh => absurd hh (Nat.not_lt_zero h))
end
section
def comesN (td : Nat → Int32) (n f t : Nat) : Int32 := if RUN td (td 3) n f t < 1000 then nI (RUN td (td 3) n f t) else -1
def AN_comes (M : Nat → Nat → Int32) (a b c : Int32) : Int32 := if 0 ≤ a ∧ a < M 4 0 then (if (0 ≤ b ∧ b < rowM M 0 a 0) ∧ (0 ≤ c ∧ c < rowM M 0 a 0) then comesN (rowM M 0 a) (cN (rowM M 0 a 0)) (cN b) (cN c) else -1) else -1
theorem RUN_le {td : Nat → Int32} {sh : Int32} {n a b : Nat} : RUN td sh n a b ≤ 1000 := SD_le WL_le (by omega) a b
theorem e_knownM {d : Nat} {post : Int32 → Prop} (hd : d ≤ 1000) (hp : post (if d < 1000 then nI d else -1)) : q_m_known_0 (nI (upF d)) post := by
  unfold upF
  by_cases h : d < 1000
  · rw [if_pos h] at hp ⊢
    exact pk_lt d 1000000 (fun _ => hp) (fun h2 => absurd h2 (by omega)) rfl rfl (by omega) (by omega)
  · rw [if_neg h] at hp ⊢
    exact pk_lt 1000000 1000000 (fun h2 => absurd h2 (by omega)) (fun _ => hp) rfl rfl (by omega) (by omega)
theorem e_nearX {d : Nat} {post : Int32 → Prop} (hd : d ≤ 1000) (hp : post (if d < 1000 then nI d else -1)) : q_z_X10_nearOrNone_0 (nI d) post := by
  by_cases h : d < 1000
  · rw [if_pos h] at hp
    exact pk_le 1000 d (fun h2 => absurd h2 (by omega)) (fun _ => hp) rfl rfl (by omega) (by omega)
  · rw [if_neg h] at hp
    exact pk_le 1000 d (fun _ => hp) (fun h2 => absurd h2 (by omega)) rfl rfl (by omega) (by omega)
theorem e_isHutM {c x : Int32} {post : Int32 → Prop} (hc : iv 0 9 c) (h0 : ¬ (0 ≤ x ∧ x < c) → post 0) (h1 : 0 ≤ x ∧ x < c → post 1) : q_m_isHut_0 c x post := by
  unfold q_m_isHut_0
  exact sp_in (fun h => ⟨rfl, h0 (fun h9 => h ((in_lt (iv_w hc (by decide))).mpr h9))⟩) (fun a b => ⟨rfl, h1 ((in_lt (iv_w hc (by decide) : iv 0 1000 c)).mp ⟨a, b⟩)⟩)
theorem e_isSgM {c x : Int32} {post : Int32 → Prop} (hc : iv 0 6 c) (h0 : ¬ (0 ≤ x ∧ x < c) → post 0) (h1 : 0 ≤ x ∧ x < c → post 1) : q_m_isSinger_0 c x post := by
  unfold q_m_isSinger_0
  exact sp_in (fun h => ⟨rfl, h0 (fun h9 => h ((in_lt (iv_w hc (by decide))).mpr h9))⟩) (fun a b => ⟨rfl, h1 ((in_lt (iv_w hc (by decide) : iv 0 1000 c)).mp ⟨a, b⟩)⟩)
/-- the numbers of a land -/
theorem ln_of {td : Nat → Int32} (hR : RNG td) : ∃ n, td 0 = nI n ∧ n ≤ 9 := by
  obtain ⟨n, h, -, hn, -⟩ := iv_nI (show iv 0 9 (td 0) from hR 0 (by omega)) (by decide)
  exact ⟨n, h, by omega⟩
theorem lt_n {n : Nat} {x : Int32} (hn : n ≤ 9) (h : 0 ≤ x ∧ x < nI n) : ∃ k, k < n ∧ x = nI k := by
  obtain ⟨k, hk, e⟩ := lt_nI (m := 9) (iv_ofN (l := 0) (h := 9) (by omega) (by omega) (by omega)) h
  rw [e] at h
  exact ⟨k, (nI_ltI (by omega) (by omega)).mp h.2, e⟩
/-- when a song begun at f is at the last village -/
def vilB (td : Nat → Int32) (h : Nat) : Bool := hb (td 2) h && !dam td h
def lastV (td : Nat → Int32) (n f : Nat) : Nat → Nat
  | 0 => 0
  | h + 1 => if vilB td h = true then max (lastV td n f h) (RUN td (td 3) n f h) else lastV td n f h
theorem lastV_le {td : Nat → Int32} {n f : Nat} : ∀ m, lastV td n f m ≤ 1000
  | 0 => Nat.zero_le _
  | m + 1 => by
    have h1 := lastV_le (td := td) (n := n) (f := f) m
    have h2 := RUN_le (td := td) (sh := td 3) (n := n) (a := f) (b := m)
    unfold lastV
    split <;> omega
theorem upF_max (a b : Nat) : max (upF a) (upF b) = upF (max a b) := by
  unfold upF
  split <;> split <;> split <;> omega
theorem upF_lt {a b : Nat} (ha : a ≤ 1000) (hb1 : b ≤ 1000) : upF a < upF b ↔ a < b := by
  unfold upF
  split <;> split <;> omega
theorem upF_min {a b : Nat} : min (upF a) (upF b) = upF (min a b) := by
  unfold upF
  split <;> split <;> split <;> omega
theorem upF_b {a : Nat} : upF a < 2 ^ 30 := by
  unfold upF
  split <;> omega
theorem upF_1000 : upF 1000 = 1000000 := rfl
/-- the reference's last village, behind findRun -/
theorem e_lastVM {M : Nat → Nat → Int32} {run : Nat → Int32} {k n f : Nat} {post : Int32 → Prop} (hk : k < 2) (hn : tdM M k 0 = nI n) (hn9 : n ≤ 9) (hr : ∀ h, h < n → run h = nI (upF (RUN (tdM M k) (tdM M k 3) n f h))) (hp : post (nI (upF (lastV (tdM M k) n f n)))) : q_m_lastVillage_0 (M 5) (nI k) (tdM M k 0) run post := by
  intro P hP
  have u0 : upF 0 = 0 := rfl
  have loop : ∀ m h, m = n - h → h ≤ n → P (nI (upF (lastV (tdM M k) n f h))) (nI h) := by
    intro m
    induction m using Nat.strongRecOn with
    | ind m ih =>
      intro h hm hh
      apply hP
      refine pk_le n h (fun h9 => ?_) (fun h9 => ?_) hn
      · rw [show h = n by omega]; exact hp
      · have nx : ∀ y : Int32, y = nI (upF (lastV (tdM M k) n f (h + 1))) → q_m_lastVillage_37 P (M 5) (nI k) (tdM M k 0) run (nI h) y post := by
          intro y hy v ev
          rw [ev, hy, nI_1]
          exact ih (n - (h + 1)) (by omega) (h + 1) rfl (by omega)
        have st : lastV (tdM M k) n f (h + 1) = (if vilB (tdM M k) h = true then max (lastV (tdM M k) n f h) (RUN (tdM M k) (tdM M k 3) n f h) else lastV (tdM M k) n f h) := rfl
        refine e_of (i := 2) hk (by omega) rfl (e_of (i := 3) hk (by omega) rfl ?_)
        have hbv : hb (rowM M 0 (nI k) 2 &&& (rowM M 0 (nI k) 3 ^^^ (-1))) h = vilB (tdM M k) h := by
          rw [hb_and, hb_not _ (by omega)]
          rfl
        refine e_hasM (by omega) (fun h0 => iz (nx _ ?_)) (fun h1 => oi ⟨vp_in_nI (by omega) (by omega), ?_⟩)
        · rw [hbv] at h0
          rw [st, if_neg (by rw [h0]; decide)]
        · rw [hbv] at h1
          rw [nI_clamp (by omega), hr h h9]
          refine e_grM upF_b upF_b (nx _ ?_)
          rw [upF_max, st, if_pos h1]
  exact loop _ 0 rfl (by omega)
/-- the class's last village, behind hear -/
theorem e_lastVX {td : Nat → Int32} {t : Nat → Int32} {huts villages dams x : Int32} {n f : Nat} {post : Int32 → Prop} (hn : td 0 = nI n) (hn9 : n ≤ 9) (h0 : huts = td 0) (h2 : villages = td 2) (h3 : dams = td 3) (hf : f < n) (hx : x = nI f) (ht : ∀ a b, a < n → b < n → t (9 * a + b) = nI (RUN td (td 3) n a b)) (hp : post (nI (lastV td n f n))) : q_wp_X7_lastVillage_9_0 t huts villages dams x post := by
  subst h0 h2 h3 hx
  intro P hP
  have loop : ∀ m h, m = n - h → h ≤ n → P (nI (lastV td n f h)) (nI h) := by
    intro m
    induction m using Nat.strongRecOn with
    | ind m ih =>
      intro h hm hh
      apply hP
      refine pk_le n h (fun h9 => ?_) (fun h9 => ?_) hn
      · rw [show h = n by omega]; exact hp
      · have nx : ∀ y : Int32, y = nI (lastV td n f (h + 1)) → q_wp_X7_lastVillage_9_52 P t (td 0) (td 2) (td 3) (nI f) y (nI h) post := by
          intro y hy v ev
          rw [ev, hy, nI_1]
          exact ih (n - (h + 1)) (by omega) (h + 1) rfl (by omega)
        have st : lastV td n f (h + 1) = (if vilB td h = true then max (lastV td n f h) (RUN td (td 3) n f h) else lastV td n f h) := rfl
        refine e_hasX (by omega) (fun hv => iz (nx _ ?_)) (fun hv => oi ?_)
        · rw [st, if_neg (by unfold vilB; rw [hv]; simp)]
        · refine e_damX (by omega) (fun hd => zi ?_) (fun hd => io (nx _ ?_))
          · have ei : (nI f * 9) + nI h = nI (9 * f + h) := by rw [jx9, Nat.mul_comm]
            rw [ei]
            refine ⟨vp_in_nI (by omega) (by omega), fun v ev => nx v ?_⟩
            rw [nI_clamp (by omega), ht f h hf h9] at ev
            have hvb : vilB td h = true := by unfold vilB dam; rw [hv, hd]; rfl
            have l1 := lastV_le (td := td) (n := n) (f := f) h
            have l2 := RUN_le (td := td) (sh := td 3) (n := n) (a := f) (b := h)
            rw [st, if_pos hvb, ev]
            by_cases q : lastV td n f h < RUN td (td 3) n f h
            · rw [if_pos (nI_lt q (by omega)), show max (lastV td n f h) (RUN td (td 3) n f h) = RUN td (td 3) n f h by omega]
            · rw [if_neg (fun q2 => q ((nI_ltI (by omega) (by omega)).mp q2)), show max (lastV td n f h) (RUN td (td 3) n f h) = lastV td n f h by omega]
          · rw [st, if_neg (by unfold vilB dam; rw [hd]; simp)]
  exact loop _ 0 rfl (by omega)
theorem e_run0M {M : Nat → Nat → Int32} {run : Nat → Int32} {k n f : Nat} {x1 : Int32} {post : (Nat → Int32) → Prop} (hk : k < 2) (hL : mLand (M 5)) (hO : LOK (tdM M k)) (hn : tdM M k 0 = nI n) (hn9 : n ≤ 9) (hf : f < n) (hx1 : x1 = nI f) (hp : ∀ run', (∀ h, h < n → run' h = nI (upF (RUN (tdM M k) (tdM M k 3) n f h))) → post run') : q_m_findRun_0 (M 5) (nI k) (tdM M k 0) run x1 0 post := e_runM hk hL hO hn hn9 hf hx1 (by rw [or_0]; exact hp)
end
