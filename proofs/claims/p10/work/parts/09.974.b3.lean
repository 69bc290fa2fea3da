def TL (k : Nat) (T : TT) (td : Nat → Int32) : Prop := if k = 0 then LDR (T.1 3) (T.1 4) (T.1 5) (T.1 6) (T.1 7) (T.1 8) (T.1 9) (T.2 2) (T.2 3) (T.2 4) (T.2 5) (T.2 6) (T.2 7) (T.2 8) (T.2 9) td else LDR (T.1 10) (T.1 11) (T.1 12) (T.1 13) (T.1 14) (T.1 15) (T.1 16) (T.2 10) (T.2 11) (T.2 12) (T.2 13) (T.2 14) (T.2 15) (T.2 16) (T.2 17) td
def TV (k : Nat) (T : TT) (td : Nat → Int32) : Prop := if k = 0 then R3 (T.1 17) (T.2 18) (T.2 19) (T.2 20) td else R3 (T.1 18) (T.2 21) (T.2 22) (T.2 23) td
def TSi (k : Nat) (T : TT) (td : Nat → Int32) : Prop := if k = 0 then R3 (T.1 19) (T.2 24) (T.2 25) (T.2 26) td else R3 (T.1 20) (T.2 27) (T.2 28) (T.2 29) td
def TC (k : Nat) (T : TT) (td : Nat → Int32) : Prop := if k = 0 then CDR (T.1 21) (T.1 22) (T.2 30) (T.2 31) td else CDR (T.1 23) (T.1 24) (T.2 32) (T.2 33) td
def SL (o k : Nat) (T : TT) (td : Nat → Int32) : Prop := if o = 0 then TL k T td else if o = 1 then TV k T td else if o = 2 then TSi k T td else TC k T td
def slS (o k i : Nat) : Bool := if o = 0 then (if k = 0 then i == 3 || i == 4 || i == 5 || i == 6 || i == 7 || i == 8 || i == 9 else i == 10 || i == 11 || i == 12 || i == 13 || i == 14 || i == 15 || i == 16) else if o = 1 then (if k = 0 then i == 17 else i == 18) else if o = 2 then (if k = 0 then i == 19 else i == 20) else (if k = 0 then i == 21 || i == 22 else i == 23 || i == 24)
def slA (o k i : Nat) : Bool := if o = 0 then (if k = 0 then i == 2 || i == 3 || i == 4 || i == 5 || i == 6 || i == 7 || i == 8 || i == 9 else i == 10 || i == 11 || i == 12 || i == 13 || i == 14 || i == 15 || i == 16 || i == 17) else if o = 1 then (if k = 0 then i == 18 || i == 19 || i == 20 else i == 21 || i == 22 || i == 23) else if o = 2 then (if k = 0 then i == 24 || i == 25 || i == 26 else i == 27 || i == 28 || i == 29) else (if k = 0 then i == 30 || i == 31 else i == 32 || i == 33)
def wD (o : Nat) : Nat := [132, 121, 31, 20].getD o 0
/-- a slot is the same where its comps are -/
theorem SL_same {o k : Nat} {T T' : TT} {td : Nat → Int32} (ho : o < 4) (hk : k < 2) (h1 : ∀ i, i < 25 → slS o k i = true → T'.1 i = T.1 i) (h2 : ∀ i, i < 34 → slA o k i = true → T'.2 i = T.2 i) (h : SL o k T td) : SL o k T' td := by
  have hoc : o = 0 ∨ o = 1 ∨ o = 2 ∨ o = 3 := by omega
  have hkc : k = 0 ∨ k = 1 := by omega
  rcases hoc with rfl | rfl | rfl | rfl <;> rcases hkc with rfl | rfl
  · show LDR (T'.1 3) (T'.1 4) (T'.1 5) (T'.1 6) (T'.1 7) (T'.1 8) (T'.1 9) (T'.2 2) (T'.2 3) (T'.2 4) (T'.2 5) (T'.2 6) (T'.2 7) (T'.2 8) (T'.2 9) td
    rw [h1 3 (by decide) (by decide), h1 4 (by decide) (by decide), h1 5 (by decide) (by decide), h1 6 (by decide) (by decide), h1 7 (by decide) (by decide), h1 8 (by decide) (by decide), h1 9 (by decide) (by decide), h2 2 (by decide) (by decide), h2 3 (by decide) (by decide), h2 4 (by decide) (by decide), h2 5 (by decide) (by decide), h2 6 (by decide) (by decide), h2 7 (by decide) (by decide), h2 8 (by decide) (by decide), h2 9 (by decide) (by decide)]
    exact h
  · show LDR (T'.1 10) (T'.1 11) (T'.1 12) (T'.1 13) (T'.1 14) (T'.1 15) (T'.1 16) (T'.2 10) (T'.2 11) (T'.2 12) (T'.2 13) (T'.2 14) (T'.2 15) (T'.2 16) (T'.2 17) td
    rw [h1 10 (by decide) (by decide), h1 11 (by decide) (by decide), h1 12 (by decide) (by decide), h1 13 (by decide) (by decide), h1 14 (by decide) (by decide), h1 15 (by decide) (by decide), h1 16 (by decide) (by decide), h2 10 (by decide) (by decide), h2 11 (by decide) (by decide), h2 12 (by decide) (by decide), h2 13 (by decide) (by decide), h2 14 (by decide) (by decide), h2 15 (by decide) (by decide), h2 16 (by decide) (by decide), h2 17 (by decide) (by decide)]
    exact h
  · show R3 (T'.1 17) (T'.2 18) (T'.2 19) (T'.2 20) td
    rw [h1 17 (by decide) (by decide), h2 18 (by decide) (by decide), h2 19 (by decide) (by decide), h2 20 (by decide) (by decide)]
    exact h
  · show R3 (T'.1 18) (T'.2 21) (T'.2 22) (T'.2 23) td
    rw [h1 18 (by decide) (by decide), h2 21 (by decide) (by decide), h2 22 (by decide) (by decide), h2 23 (by decide) (by decide)]
    exact h
  · show R3 (T'.1 19) (T'.2 24) (T'.2 25) (T'.2 26) td
    rw [h1 19 (by decide) (by decide), h2 24 (by decide) (by decide), h2 25 (by decide) (by decide), h2 26 (by decide) (by decide)]
    exact h
  · show R3 (T'.1 20) (T'.2 27) (T'.2 28) (T'.2 29) td
    rw [h1 20 (by decide) (by decide), h2 27 (by decide) (by decide), h2 28 (by decide) (by decide), h2 29 (by decide) (by decide)]
    exact h
  · show CDR (T'.1 21) (T'.1 22) (T'.2 30) (T'.2 31) td
    rw [h1 21 (by decide) (by decide), h1 22 (by decide) (by decide), h2 30 (by decide) (by decide), h2 31 (by decide) (by decide)]
    exact h
  · show CDR (T'.1 23) (T'.1 24) (T'.2 32) (T'.2 33) td
    rw [h1 23 (by decide) (by decide), h1 24 (by decide) (by decide), h2 32 (by decide) (by decide), h2 33 (by decide) (by decide)]
    exact h
theorem cl_le {x : Int32} {h : Int} {m : Nat} (hx : iv 0 h x) (hm : h ≤ m) : x.toNatClampNeg ≤ m := by
  have e : x.toNatClampNeg = x.toInt.toNat := rfl
  have := hx.2
  omega
theorem LDR_cp {huts singers villages dams echoes deep slide : Int32} {heights ladders minutes echoFrom echoTo homes talls known heights2 ladders2 minutes2 echoFrom2 echoTo2 homes2 talls2 known2 td : Nat → Int32} (h : LDR huts singers villages dams echoes deep slide heights ladders minutes echoFrom echoTo homes talls known td) (b0 : (td 0).toNatClampNeg ≤ 9) (b1 : (td 1).toNatClampNeg ≤ 6) (b4 : (td 4).toNatClampNeg ≤ 4) (c_heights : ∀ j, j < 9 → heights2 j = heights j) (c_ladders : ∀ j, j < 9 → ladders2 j = ladders j) (c_minutes : ∀ j, j < 81 → minutes2 j = minutes j) (c_echoFrom : ∀ j, j < 4 → echoFrom2 j = echoFrom j) (c_echoTo : ∀ j, j < 4 → echoTo2 j = echoTo j) (c_homes : ∀ j, j < 6 → homes2 j = homes j) (c_talls : ∀ j, j < 6 → talls2 j = talls j) (c_known : ∀ j, j < 6 → known2 j = known j) : LDR huts singers villages dams echoes deep slide heights2 ladders2 minutes2 echoFrom2 echoTo2 homes2 talls2 known2 td := by
  obtain ⟨e0, e1, e2, e3, e4, e5, e6, f1, f2, f3, f4, f5, f6⟩ := h
  exact ⟨e0, e1, e2, e3, e4, e5, e6, fun j hj => (c_heights j (by omega)).trans (f1 j hj), fun j hj => (c_ladders j hj).trans (f2 j hj), fun j hj => (c_minutes j hj).trans (f3 j hj), fun j hj => ⟨(c_echoFrom j (by omega)).trans (f4 j hj).1, (c_echoTo j (by omega)).trans (f4 j hj).2⟩, fun j hj => ⟨(c_homes j (by omega)).trans (f5 j hj).1, (c_talls j (by omega)).trans (f5 j hj).2⟩, fun j hj => (c_known j hj).trans (f6 j hj)⟩
theorem R3_cp {c : Int32} {a b d a2 b2 d2 td : Nat → Int32} (h : R3 c a b d td) (ha : ∀ j, j < c.toNatClampNeg → a2 j = a j) (hb : ∀ j, j < c.toNatClampNeg → b2 j = b j) (hd : ∀ j, j < c.toNatClampNeg → d2 j = d j) : R3 c a2 b2 d2 td := by
  refine ⟨h.1, fun j hj => ?_⟩
  have hj2 : j < c.toNatClampNeg := by rw [h.1]; exact hj
  exact ⟨(ha j hj2).trans (h.2 j hj).1, (hb j hj2).trans (h.2 j hj).2.1, (hd j hj2).trans (h.2 j hj).2.2⟩
theorem CDR_cp {c st : Int32} {a b a2 b2 td : Nat → Int32} (h : CDR c st a b td) (ha : ∀ j, j < c.toNatClampNeg → a2 j = a j) (hb : ∀ j, j < c.toNatClampNeg → b2 j = b j) : CDR c st a2 b2 td := by
  refine ⟨h.1, h.2.1, fun j hj => ?_⟩
  have hj2 : j < c.toNatClampNeg := by rw [h.1]; exact hj
  exact ⟨(ha j hj2).trans (h.2.2 j hj).1, (hb j hj2).trans (h.2.2 j hj).2⟩
theorem cpy0 {f g t : Nat → Int32} {n : Nat} {x : Int32} (e : t = va_cpy f g (Int32.toNatClampNeg 0) (Int32.toNatClampNeg 0) (Int32.toNatClampNeg x)) (hx : Int32.toNatClampNeg x = n) : ∀ j, j < n → t j = f j := by
  intro j hj
  rw [e, c_0, hx, pk_cpy_in (by omega) (by omega), Nat.zero_add, Nat.sub_zero]
theorem e_ll {f_huts f_singers f_villages f_dams f_echoes f_deep f_slide : Int32} {a_heights a_ladders a_minutes a_echoFrom a_echoTo a_homes a_talls a_known : Nat → Int32} {of_huts of_singers of_villages of_dams of_echoes of_deep of_slide : Int32} {oa_heights oa_ladders oa_minutes oa_echoFrom oa_echoTo oa_homes oa_talls oa_known : Nat → Int32} {post : (Int32) → (Int32) → (Int32) → (Int32) → (Int32) → (Int32) → (Int32) → (Nat → Int32) → (Nat → Int32) → (Nat → Int32) → (Nat → Int32) → (Nat → Int32) → (Nat → Int32) → (Nat → Int32) → (Nat → Int32) → Prop} (hp : ∀ (na_heights : Nat → Int32) (na_ladders : Nat → Int32) (na_minutes : Nat → Int32) (na_echoFrom : Nat → Int32) (na_echoTo : Nat → Int32) (na_homes : Nat → Int32) (na_talls : Nat → Int32) (na_known : Nat → Int32), (∀ j, j < 9 → na_heights j = oa_heights j) → (∀ j, j < 9 → na_ladders j = oa_ladders j) → (∀ j, j < 81 → na_minutes j = oa_minutes j) → (∀ j, j < 4 → na_echoFrom j = oa_echoFrom j) → (∀ j, j < 4 → na_echoTo j = oa_echoTo j) → (∀ j, j < 6 → na_homes j = oa_homes j) → (∀ j, j < 6 → na_talls j = oa_talls j) → (∀ j, j < 6 → na_known j = oa_known j) → post of_huts of_singers of_villages of_dams of_echoes of_deep of_slide na_heights na_ladders na_minutes na_echoFrom na_echoTo na_homes na_talls na_known) : q_wll_X2_copyFrom_9_0 f_huts f_singers f_villages f_dams f_echoes f_deep f_slide a_heights a_ladders a_minutes a_echoFrom a_echoTo a_homes a_talls a_known of_huts of_singers of_villages of_dams of_echoes of_deep of_slide oa_heights oa_ladders oa_minutes oa_echoFrom oa_echoTo oa_homes oa_talls oa_known post := by
  intro t_heights e_heights t_ladders e_ladders t_minutes e_minutes t_echoFrom e_echoFrom t_echoTo e_echoTo t_homes e_homes t_talls e_talls t_known e_known
  exact hp t_heights t_ladders t_minutes t_echoFrom t_echoTo t_homes t_talls t_known (cpy0 e_heights rfl) (cpy0 e_ladders rfl) (cpy0 e_minutes rfl) (cpy0 e_echoFrom rfl) (cpy0 e_echoTo rfl) (cpy0 e_homes rfl) (cpy0 e_talls rfl) (cpy0 e_known rfl)
theorem e_vv {f_deeds : Int32} {a_kinds a_firsts a_seconds : Nat → Int32} {of_deeds : Int32} {oa_kinds oa_firsts oa_seconds : Nat → Int32} {post : (Int32) → (Nat → Int32) → (Nat → Int32) → (Nat → Int32) → Prop} (hc : iv 0 40 of_deeds) (hp : ∀ (na_kinds : Nat → Int32) (na_firsts : Nat → Int32) (na_seconds : Nat → Int32), (∀ j, j < of_deeds.toNatClampNeg → na_kinds j = oa_kinds j) → (∀ j, j < of_deeds.toNatClampNeg → na_firsts j = oa_firsts j) → (∀ j, j < of_deeds.toNatClampNeg → na_seconds j = oa_seconds j) → post of_deeds na_kinds na_firsts na_seconds) : q_wvv_X1_copyFrom_4_0 f_deeds a_kinds a_firsts a_seconds of_deeds oa_kinds oa_firsts oa_seconds post := by
  have h0 : ¬ of_deeds < 0 := iv_nn hc (by decide)
  have h1 : Int32.toNatClampNeg (0 : Int32) + Int32.toNatClampNeg of_deeds ≤ 40 := by rw [c_0, Nat.zero_add]; exact cl_le hc (by decide)
  exact ⟨h0, h1, h1, fun t0 e0 => ⟨h0, h1, h1, fun t1 e1 => ⟨h0, h1, h1, fun t2 e2 => hp t0 t1 t2 (cpy0 e0 rfl) (cpy0 e1 rfl) (cpy0 e2 rfl)⟩⟩⟩
theorem e_ss {f_facts : Int32} {a_heard a_huts a_minutes : Nat → Int32} {of_facts : Int32} {oa_heard oa_huts oa_minutes : Nat → Int32} {post : (Int32) → (Nat → Int32) → (Nat → Int32) → (Nat → Int32) → Prop} (hc : iv 0 10 of_facts) (hp : ∀ (na_heard : Nat → Int32) (na_huts : Nat → Int32) (na_minutes : Nat → Int32), (∀ j, j < of_facts.toNatClampNeg → na_heard j = oa_heard j) → (∀ j, j < of_facts.toNatClampNeg → na_huts j = oa_huts j) → (∀ j, j < of_facts.toNatClampNeg → na_minutes j = oa_minutes j) → post of_facts na_heard na_huts na_minutes) : q_wss_X6_copyFrom_4_0 f_facts a_heard a_huts a_minutes of_facts oa_heard oa_huts oa_minutes post := by
  have h0 : ¬ of_facts < 0 := iv_nn hc (by decide)
  have h1 : Int32.toNatClampNeg (0 : Int32) + Int32.toNatClampNeg of_facts ≤ 10 := by rw [c_0, Nat.zero_add]; exact cl_le hc (by decide)
  exact ⟨h0, h1, h1, fun t0 e0 => ⟨h0, h1, h1, fun t1 e1 => ⟨h0, h1, h1, fun t2 e2 => hp t0 t1 t2 (cpy0 e0 rfl) (cpy0 e1 rfl) (cpy0 e2 rfl)⟩⟩⟩
theorem e_cc {f_voices f_step : Int32} {a_parts a_heights : Nat → Int32} {of_voices of_step : Int32} {oa_parts oa_heights : Nat → Int32} {post : (Int32) → (Int32) → (Nat → Int32) → (Nat → Int32) → Prop} (hc : iv 0 9 of_voices) (hp : ∀ (na_parts : Nat → Int32) (na_heights : Nat → Int32), (∀ j, j < of_voices.toNatClampNeg → na_parts j = oa_parts j) → (∀ j, j < of_voices.toNatClampNeg → na_heights j = oa_heights j) → post of_voices of_step na_parts na_heights) : q_wcc_X0_copyFrom_3_0 f_voices f_step a_parts a_heights of_voices of_step oa_parts oa_heights post := by
  have h0 : ¬ of_voices < 0 := iv_nn hc (by decide)
  have h1 : Int32.toNatClampNeg (0 : Int32) + Int32.toNatClampNeg of_voices ≤ 9 := by rw [c_0, Nat.zero_add]; exact cl_le hc (by decide)
  exact ⟨h0, h1, h1, fun t0 e0 => ⟨h0, h1, h1, fun t1 e1 => hp t0 t1 (cpy0 e0 rfl) (cpy0 e1 rfl)⟩⟩
