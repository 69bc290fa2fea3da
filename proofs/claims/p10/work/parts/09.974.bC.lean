def AN_count (M : Nat → Nat → Int32) (a : Int32) : Int32 := if 0 ≤ a ∧ a ≤ 3 then M 4 a.toNatClampNeg else -2
def AN_fault (M : Nat → Nat → Int32) (a : Int32) : Int32 := if a = 0 then M 2 0 else if a = 1 then M 3 0 else -1
def rowM (M : Nat → Nat → Int32) (o : Nat) (a : Int32) : Nat → Int32 := fun j => M (5 + o) (wD o * a.toNatClampNeg + j)
def F3 (td : Nat → Int32) (b c : Int32) : Int32 := if b = -1 then (if c = 0 then td 0 else -2) else if (0 ≤ b ∧ b < td 0) ∧ 0 ≤ c ∧ c ≤ 2 then td (1 + 3 * b.toNatClampNeg + c.toNatClampNeg) else -2
def AN_deed (M : Nat → Nat → Int32) (a b c : Int32) : Int32 := if 0 ≤ a ∧ a < M 4 1 then F3 (rowM M 1 a) b c else -2
def AN_fact (M : Nat → Nat → Int32) (a b c : Int32) : Int32 := if 0 ≤ a ∧ a < M 4 2 then F3 (rowM M 2 a) b c else -2
def Fec (td : Nat → Int32) (b c : Int32) : Int32 := if (0 ≤ b ∧ b < td 4) ∧ 0 ≤ c ∧ c ≤ 1 then td (43 + 2 * b.toNatClampNeg + c.toNatClampNeg) else -1
def AN_echo (M : Nat → Nat → Int32) (a b c : Int32) : Int32 := if 0 ≤ a ∧ a < M 4 0 then Fec (rowM M 0 a) b c else -1
def FL (td : Nat → Int32) (n : Nat) : Int32 := if 60 ≤ n then (if nI ((n - 60) / 9) < td 0 ∧ nI ((n - 60) % 9) < td 0 then td (51 + 9 * ((n - 60) / 9) + (n - 60) % 9) else -1) else if n / 10 = 1 then (if nI (n % 10) < td 0 then td (7 + n % 10) else -1) else if n / 10 = 2 then (if nI (n % 10) < td 0 then td (16 + n % 10) else -1) else if n / 10 = 3 then (if nI (n % 10) < td 1 then td (25 + n % 10) else -1) else if n / 10 = 4 then (if nI (n % 10) < td 1 then td (31 + n % 10) else -1) else if n / 10 = 5 then (if nI (n % 10) < td 1 then td (37 + n % 10) else -1) else if n ≤ 6 then td n else -1
def AN_land (M : Nat → Nat → Int32) (a b : Int32) : Int32 := if 0 ≤ a ∧ a < M 4 0 then (if 0 ≤ b ∧ b ≤ 140 then FL (rowM M 0 a) b.toNatClampNeg else -1) else -1
theorem TM_cnt {T : TT} {M : Nat → Nat → Int32} (h : TM T M 0) (o : Nat) (ho : o < 4) : M 4 o = T.2 1 o := by
  have g := h.2.2.2.2.1 o ho
  rw [Nat.mul_zero, Nat.zero_add] at g
  exact g
theorem TM_sl {T : TT} {M : Nat → Nat → Int32} (h : TM T M 0) (o k : Nat) (ho : o < 4) (hk : k < 2) (hl : nI k < T.2 1 o) : SL o k T (rowM M o (nI k)) := by
  have g := h.2.2.2.2.2 o k ho hk hl
  unfold rowM
  rw [nI_clamp (by omega)]
  rw [Nat.mul_zero, Nat.zero_add] at g
  exact g
theorem in_lt {x c : Int32} (hc : iv 0 1000 c) : (0 ≤ x ∧ x ≤ c - 1) ↔ (0 ≤ x ∧ x < c) := by
  have e0 : (0 : Int32).toInt = 0 := rfl
  have e1 : (1 : Int32).toInt = 1 := rfl
  have es : (c - 1).toInt = c.toInt - 1 := by
    rw [Int32.toInt_sub, e1]
    have := hc.1
    have := hc.2
    exact Int.bmod_eq_of_le (by omega) (by omega)
  constructor
  · rintro ⟨h1, h2⟩
    refine ⟨h1, Int32.lt_iff_toInt_lt.mpr ?_⟩
    have := r_le h2
    omega
  · rintro ⟨h1, h2⟩
    refine ⟨h1, Int32.le_iff_toInt_le.mpr ?_⟩
    have := r_lt h2
    omega
theorem lt_nI {x c : Int32} {m : Nat} (hc : iv 0 m c) (h : 0 ≤ x ∧ x < c) : ∃ k : Nat, k < m ∧ x = nI k := by
  obtain ⟨j, hj, e⟩ := nI_of (Int32.not_lt.mpr h.1)
  refine ⟨j, ?_, e⟩
  have := r_lt h.2
  rw [e, nI_toInt hj] at this
  have := hc.2
  omega
theorem e_is {mn : Nat → Int32} {o : Nat} {x : Int32} {post : Int32 → Prop} (ho : o < 4) (hc : iv 0 2 (mn o)) (h0 : ¬ (0 ≤ x ∧ x < mn o) → post 0) (h1 : (0 ≤ x ∧ x < mn o) → post 1) : q_m_is_0 mn (nI o) x post := by
  refine ⟨vp_in_nI (by omega) (by omega), ?_⟩
  rw [nI_clamp (by omega)]
  have e := in_lt (x := x) (iv_w hc (by decide) : iv 0 1000 (mn o))
  exact sp_in (fun h => ⟨rfl, h0 (fun h2 => h (e.mpr h2))⟩) (fun a b => ⟨rfl, h1 (e.mp ⟨a, b⟩)⟩)
theorem e_at {c : Int32} {x : Int32} {A C D : Prop} (hc : iv 0 2 c) (h0 : ¬ (0 ≤ x ∧ x < c) → A) (h2 : x = nI 0 → nI 0 < c → C) (h1 : x = nI 1 → nI 1 < c → D) : (x < 0 → A) ∧ (¬ x < 0 → ((c ≤ x → A) ∧ (¬ c ≤ x → (vp_in x 2 ∧ (x = 0 → C) ∧ (¬ x = 0 → D))))) := by
  refine ⟨fun h => h0 (fun h9 => absurd h (Int32.not_lt.mpr h9.1)), fun h => ⟨fun h9 => h0 (fun h8 => absurd h8.2 (Int32.not_lt.mpr h9)), fun h9 => ?_⟩⟩
  have hlt := Int32.not_le.mp h9
  obtain ⟨k, hk, e⟩ := lt_nI (m := 2) hc ⟨Int32.not_lt.mp h, hlt⟩
  refine ⟨by rw [e]; exact vp_in_nI hk (by omega), fun hx => ?_, fun hx => ?_⟩
  · exact h2 hx (by rw [hx] at hlt; exact hlt)
  · have hk1 : k = 1 := by
      by_cases h0 : k = 0
      · exact absurd (by rw [e, h0]; rfl) hx
      · omega
    rw [hk1] at e
    exact h1 e (by rw [e] at hlt; exact hlt)
theorem e_x_count {T : TT} {M : Nat → Nat → Int32} {a : Int32} {post : Int32 → Prop} (h : TM T M 0) (hp : post (AN_count M a)) : q_wx_X10_count_0 (T.2 1) a post := by
  unfold AN_count at hp
  refine ⟨fun h9 => ?_, fun h9 => ⟨fun h4 => ?_, fun h4 => ?_⟩⟩
  · rw [if_neg (fun h8 => absurd h9 (Int32.not_lt.mpr h8.1))] at hp; exact hp
  · have h3 : a ≤ 3 := Int32.le_iff_toInt_le.mpr (by have := r_lt h4; have e3 : (3 : Int32).toInt = 3 := rfl; have e4 : (4 : Int32).toInt = 4 := rfl; omega)
    obtain ⟨o, ho, e⟩ := nI_of2 (M := 3) (n := 3) (by decide) h9 h3
    rw [if_pos ⟨Int32.not_lt.mp h9, h3⟩] at hp
    subst e
    rw [nI_clamp (by omega)] at hp ⊢
    rw [TM_cnt h o (by omega)] at hp
    exact ⟨vp_in_nI (by omega) (by omega), hp⟩
  · rw [if_neg (fun h8 => h4 (Int32.lt_iff_toInt_lt.mpr (by have := r_le h8.2; have e3 : (3 : Int32).toInt = 3 := rfl; have e4 : (4 : Int32).toInt = 4 := rfl; omega)))] at hp; exact hp
theorem e_m_count {M : Nat → Nat → Int32} {cd a : Int32} {post : Int32 → Int32 → Prop} (hp : post (AN_count M a) 0) : q_m_count_0 cd (M 4) a post := by
  unfold AN_count at hp
  refine sp_in (fun h => iz ?_) (fun h1 h2 => oi ?_)
  · rw [if_neg h] at hp; exact hp
  · rw [if_pos ⟨h1, h2⟩] at hp
    obtain ⟨o, ho, e⟩ := nI_of2 (M := 3) (n := 3) (by decide) (Int32.not_lt.mpr h1) h2
    exact ⟨by rw [e]; exact vp_in_nI (by omega) (by omega), hp⟩
theorem e_x_fault {T : TT} {M : Nat → Nat → Int32} {a : Int32} {post : Int32 → Prop} (h : TM T M 0) (hp : post (AN_fault M a)) : q_wx_X10_fault_0 (T.1 1) (T.1 2) a post := by
  unfold AN_fault at hp
  rw [h.2.2.1, h.2.2.2.1] at hp
  refine ⟨fun h0 => ?_, fun h0 => ?_⟩
  · rw [if_neg h0] at hp
    refine ⟨fun h1 => ?_, fun h1 => ?_⟩
    · rw [if_neg h1] at hp; exact hp
    · rw [if_pos h1] at hp; exact hp
  · rw [if_pos h0] at hp; exact hp
theorem e_m_fault {M : Nat → Nat → Int32} {cd a : Int32} {post : Int32 → Int32 → Prop} (hp : post (AN_fault M a) 0) : q_m_fault_0 cd (M 2) (M 3) a post := by
  unfold AN_fault at hp
  refine ⟨fun h0 => ?_, fun h0 => ?_⟩
  · rw [if_neg h0] at hp
    refine ⟨fun h1 => ?_, fun h1 => ?_⟩
    · rw [if_neg h1] at hp; exact hp
    · rw [if_pos h1] at hp; exact hp
  · rw [if_pos h0] at hp; exact hp
theorem e_look_deed {c x b : Int32} {p q s td : Nat → Int32} {post : Int32 → Prop} (hR : R3 c p q s td) (hc : iv 0 40 c) (hb : ¬ b = -1) (hlt : 0 ≤ b ∧ b < c) (hp : post (F3 td b x)) : q_wv_X1_look_0 p q s b x post := by
  have hlt' : 0 ≤ b ∧ b < td 0 := by rw [← hR.1]; exact hlt
  obtain ⟨k, hk, e⟩ := lt_nI (m := 40) hc hlt
  have hin : vp_in b 40 := by rw [e]; exact vp_in_nI hk (by omega)
  have hkc : k < (td 0).toNatClampNeg := by
    rw [← hR.1]
    have h1 := r_lt hlt.2
    rw [e, nI_toInt (by omega)] at h1
    have e2 : c.toNatClampNeg = c.toInt.toNat := rfl
    omega
  have hcl : b.toNatClampNeg = k := by rw [e]; exact nI_clamp (by omega)
  obtain ⟨r1, r2, r3⟩ := hR.2 k hkc
  unfold F3 at hp
  rw [if_neg hb] at hp
  refine ⟨fun h => ?_, fun h => ⟨hin, ?_⟩, fun h => ⟨hin, ?_⟩, fun h => ⟨hin, ?_⟩⟩
  · rw [if_neg (fun h9 => ?_)] at hp
    · exact hp
    · have a1 := r_le h9.2.1
      have a2 := r_le h9.2.2
      have e0 : (0 : Int32).toInt = 0 := rfl
      have e2 : (2 : Int32).toInt = 2 := rfl
      omega
  · subst h
    rw [if_pos ⟨hlt', by decide⟩, hcl, c_0] at hp
    rw [hcl, r1]
    exact hp
  · subst h
    rw [if_pos ⟨hlt', by decide⟩, hcl, c_1, show 1 + 3 * k + 1 = 2 + 3 * k by omega] at hp
    rw [hcl, r2]
    exact hp
  · subst h
    rw [if_pos ⟨hlt', by decide⟩, hcl, c_2, show 1 + 3 * k + 2 = 3 + 3 * k by omega] at hp
    rw [hcl, r3]
    exact hp
set_option maxRecDepth 40000 in
theorem e_x_deed {T : TT} {M : Nat → Nat → Int32} {a b c : Int32} {post : Int32 → Prop} (h : TM T M 0) (hB : tB T) (hp : post (AN_deed M a b c)) : q_wx_X10_deed_0 (T.2 1) (T.1 17) (T.2 18) (T.2 19) (T.2 20) (T.1 18) (T.2 21) (T.2 22) (T.2 23) a b c post := by
  unfold AN_deed at hp
  rw [TM_cnt h 1 (by decide)] at hp
  have hc2 : iv 0 2 (T.2 1 1) := hB.2.2.1 1
  have sl1 : a = nI 1 → nI 1 < T.2 1 1 → (post (F3 (rowM M 1 a) b c) → ((¬ b = -1 → q_wx_X10_deed_30k1 (T.2 1) (T.1 17) (T.2 18) (T.2 19) (T.2 20) (T.1 18) (T.2 21) (T.2 22) (T.2 23) b c post) ∧ (b = -1 → ((¬ c = 0 → q_wx_X10_deed_30k1 (T.2 1) (T.1 17) (T.2 18) (T.2 19) (T.2 20) (T.1 18) (T.2 21) (T.2 22) (T.2 23) b c post) ∧ (c = 0 → post (T.1 18)))))) := by
    intro ea hl hp
    rw [ea] at hp
    have hR : R3 (T.1 18) (T.2 21) (T.2 22) (T.2 23) (rowM M 1 (nI 1)) := TM_sl h 1 1 (by decide) (by decide) hl
    have k30 : (b = -1 → ¬ c = 0) → q_wx_X10_deed_30k1 (T.2 1) (T.1 17) (T.2 18) (T.2 19) (T.2 20) (T.1 18) (T.2 21) (T.2 22) (T.2 23) b c post := by
      intro hbc
      refine ⟨fun h9 => ?_, fun h9 => ⟨fun h8 => ?_, fun h8 => ?_⟩⟩
      · unfold F3 at hp
        by_cases hb : b = -1
        · rw [if_pos hb, if_neg (hbc hb)] at hp; exact hp
        · rw [if_neg hb, if_neg (fun h7 => absurd h9 (Int32.not_lt.mpr h7.1.1))] at hp; exact hp
      · have hb : ¬ b = -1 := fun h7 => h9 (by rw [h7]; decide)
        exact e_look_deed hR (hB.2.2.2.2.2.2.2.2.2.2.2.2.1) hb ⟨Int32.not_lt.mp h9, h8⟩ hp
      · have hb : ¬ b = -1 := fun h7 => h9 (by rw [h7]; decide)
        unfold F3 at hp
        rw [if_neg hb, if_neg (fun h7 => h8 (by rw [hR.1]; exact h7.1.2))] at hp; exact hp
    refine ⟨fun hb => k30 (fun h9 => absurd h9 hb), fun hb => ⟨fun hcc => k30 (fun _ => hcc), fun hcc => ?_⟩⟩
    unfold F3 at hp
    rw [if_pos hb, if_pos hcc, ← hR.1] at hp
    exact hp
  have sl0 : a = nI 0 → nI 0 < T.2 1 1 → (post (F3 (rowM M 1 a) b c) → ((¬ b = -1 → q_wx_X10_deed_30k0 (T.2 1) (T.1 17) (T.2 18) (T.2 19) (T.2 20) (T.1 18) (T.2 21) (T.2 22) (T.2 23) b c post) ∧ (b = -1 → ((¬ c = 0 → q_wx_X10_deed_30k0 (T.2 1) (T.1 17) (T.2 18) (T.2 19) (T.2 20) (T.1 18) (T.2 21) (T.2 22) (T.2 23) b c post) ∧ (c = 0 → post (T.1 17)))))) := by
    intro ea hl hp
    rw [ea] at hp
    have hR : R3 (T.1 17) (T.2 18) (T.2 19) (T.2 20) (rowM M 1 (nI 0)) := TM_sl h 1 0 (by decide) (by decide) hl
    have k30 : (b = -1 → ¬ c = 0) → q_wx_X10_deed_30k0 (T.2 1) (T.1 17) (T.2 18) (T.2 19) (T.2 20) (T.1 18) (T.2 21) (T.2 22) (T.2 23) b c post := by
      intro hbc
      refine ⟨fun h9 => ?_, fun h9 => ⟨fun h8 => ?_, fun h8 => ?_⟩⟩
      · unfold F3 at hp
        by_cases hb : b = -1
        · rw [if_pos hb, if_neg (hbc hb)] at hp; exact hp
        · rw [if_neg hb, if_neg (fun h7 => absurd h9 (Int32.not_lt.mpr h7.1.1))] at hp; exact hp
      · have hb : ¬ b = -1 := fun h7 => h9 (by rw [h7]; decide)
        exact e_look_deed hR (hB.2.2.2.2.2.2.1) hb ⟨Int32.not_lt.mp h9, h8⟩ hp
      · have hb : ¬ b = -1 := fun h7 => h9 (by rw [h7]; decide)
        unfold F3 at hp
        rw [if_neg hb, if_neg (fun h7 => h8 (by rw [hR.1]; exact h7.1.2))] at hp; exact hp
    refine ⟨fun hb => k30 (fun h9 => absurd h9 hb), fun hb => ⟨fun hcc => k30 (fun _ => hcc), fun hcc => ?_⟩⟩
    unfold F3 at hp
    rw [if_pos hb, if_pos hcc, ← hR.1] at hp
    exact hp
  refine e_at hc2 (fun (hn : ¬ (0 ≤ a ∧ a < T.2 1 1)) => ?_) (fun ea hl => ?_) (fun ea hl => ?_)
  · rw [if_neg hn] at hp
    exact ⟨fun _ => hp, fun h9 => absurd h9 (by decide), fun h9 => absurd rfl h9⟩
  · rw [if_pos (by rw [ea]; exact ⟨by decide, hl⟩)] at hp
    exact ⟨fun h9 => absurd h9 (by decide), fun h9 => absurd h9 (by decide), fun _ _ => sl0 ea hl hp⟩
  · rw [if_pos (by rw [ea]; exact ⟨by decide, hl⟩)] at hp
    exact ⟨fun h9 => absurd h9 (by decide), fun _ => sl1 ea hl hp, fun _ h9 => absurd rfl h9⟩
set_option maxRecDepth 40000 in
theorem e_m_deed {M : Nat → Nat → Int32} {cd ev a b c : Int32} {post : Int32 → Int32 → Int32 → Prop} (hcnt : iv 0 2 (M 4 1)) (hE : mEve (M 6)) (hp : ∀ ev', post (AN_deed M a b c) 0 ev') : q_m_deed_0 cd (M 4) (M 6) ev a b c post := by
  unfold AN_deed at hp
  refine e_is (o := 1) (by decide) hcnt (fun hn => ⟨rfl, zi ?_⟩) (fun hy => ⟨rfl, io ?_⟩)
  · rw [if_neg hn] at hp; exact hp _
  · rw [if_pos hy] at hp
    obtain ⟨k, hk, ea⟩ := lt_nI (m := 2) hcnt hy
    have hcl : a.toNatClampNeg = k := by rw [ea]; exact nI_clamp (by omega)
    have row : ∀ j, rowM M 1 a j = M 6 (121 * k + j) := fun j => by unfold rowM; rw [hcl]; rfl
    have dd : ∀ {Q : Int32 → Prop}, Q (rowM M 1 a 0) → q_m_deeds_0 (M 6) a Q := by
      intro Q hQ
      have e : (121 : Int32) * a = nI (121 * k) := by rw [ea]; exact pk_mul 121 k
      refine ⟨by rw [e]; exact vp_in_nI (by omega) (by omega), ?_⟩
      rw [e, nI_clamp (by omega)]
      rw [row 0, Nat.add_zero] at hQ
      exact hQ
    have hr0 : iv 0 40 (rowM M 1 a 0) := by rw [row 0, Nat.add_zero]; exact (hE k (by omega)).1
    have il := in_lt (x := b) (iv_w hr0 (by decide) : iv 0 1000 (rowM M 1 a 0))
    unfold F3 at hp
    refine ⟨fun hb => dd ?_, fun hb => ⟨fun hc => ?_, fun hc => dd ?_⟩⟩
    · rw [if_neg hb] at hp
      refine sp_in (fun h => iz ?_) (fun h1 h2 => oi (sp_in (fun h => iz ?_) (fun h3 h4 => oi ?_)))
      · rw [if_neg (fun h9 => h (il.mpr h9.1))] at hp; exact hp _
      · rw [if_neg (fun h9 => h h9.2)] at hp; exact hp _
      · rw [if_pos ⟨il.mp ⟨h1, h2⟩, h3, h4⟩] at hp
        obtain ⟨j, hj, eb⟩ := lt_nI (m := 40) hr0 (il.mp ⟨h1, h2⟩)
        obtain ⟨i, hi, ec⟩ := nI_of2 (M := 2) (n := 2) (by decide) (Int32.not_lt.mpr h3) h4
        have e : (((121 * a) + 1) + (3 * b)) + c = nI (121 * k + 1 + 3 * j + i) := by rw [ea, eb, ec]; exact ix3 121
        refine ⟨by rw [e]; exact vp_in_nI (by omega) (by omega), ?_⟩
        rw [e, nI_clamp (by omega)]
        rw [row, eb, ec, nI_clamp (by omega), nI_clamp (by omega), show 121 * k + (1 + 3 * j + i) = 121 * k + 1 + 3 * j + i by omega] at hp
        exact hp _
    · rw [if_pos hb, if_neg hc] at hp; exact hp _
    · rw [if_pos hb, if_pos hc] at hp; exact hp _
theorem e_look_fact {c x b : Int32} {p q s td : Nat → Int32} {post : Int32 → Prop} (hR : R3 c p q s td) (hc : iv 0 10 c) (hb : ¬ b = -1) (hlt : 0 ≤ b ∧ b < c) (hp : post (F3 td b x)) : q_ws_X6_look_0 p q s b x post := by
  have hlt' : 0 ≤ b ∧ b < td 0 := by rw [← hR.1]; exact hlt
  obtain ⟨k, hk, e⟩ := lt_nI (m := 10) hc hlt
  have hin : vp_in b 10 := by rw [e]; exact vp_in_nI hk (by omega)
  have hkc : k < (td 0).toNatClampNeg := by
    rw [← hR.1]
    have h1 := r_lt hlt.2
    rw [e, nI_toInt (by omega)] at h1
    have e2 : c.toNatClampNeg = c.toInt.toNat := rfl
    omega
  have hcl : b.toNatClampNeg = k := by rw [e]; exact nI_clamp (by omega)
  obtain ⟨r1, r2, r3⟩ := hR.2 k hkc
  unfold F3 at hp
  rw [if_neg hb] at hp
  refine ⟨fun h => ?_, fun h => ⟨hin, ?_⟩, fun h => ⟨hin, ?_⟩, fun h => ⟨hin, ?_⟩⟩
  · rw [if_neg (fun h9 => ?_)] at hp
    · exact hp
    · have a1 := r_le h9.2.1
      have a2 := r_le h9.2.2
      have e0 : (0 : Int32).toInt = 0 := rfl
      have e2 : (2 : Int32).toInt = 2 := rfl
      omega
  · subst h
    rw [if_pos ⟨hlt', by decide⟩, hcl, c_0] at hp
    rw [hcl, r1]
    exact hp
  · subst h
    rw [if_pos ⟨hlt', by decide⟩, hcl, c_1, show 1 + 3 * k + 1 = 2 + 3 * k by omega] at hp
    rw [hcl, r2]
    exact hp
  · subst h
    rw [if_pos ⟨hlt', by decide⟩, hcl, c_2, show 1 + 3 * k + 2 = 3 + 3 * k by omega] at hp
    rw [hcl, r3]
    exact hp
set_option maxRecDepth 40000 in
theorem e_x_fact {T : TT} {M : Nat → Nat → Int32} {a b c : Int32} {post : Int32 → Prop} (h : TM T M 0) (hB : tB T) (hp : post (AN_fact M a b c)) : q_wx_X10_fact_0 (T.2 1) (T.1 19) (T.2 24) (T.2 25) (T.2 26) (T.1 20) (T.2 27) (T.2 28) (T.2 29) a b c post := by
  unfold AN_fact at hp
  rw [TM_cnt h 2 (by decide)] at hp
  have hc2 : iv 0 2 (T.2 1 2) := hB.2.2.1 2
  have sl1 : a = nI 1 → nI 1 < T.2 1 2 → (post (F3 (rowM M 2 a) b c) → ((¬ b = -1 → q_wx_X10_fact_30k1 (T.2 1) (T.1 19) (T.2 24) (T.2 25) (T.2 26) (T.1 20) (T.2 27) (T.2 28) (T.2 29) b c post) ∧ (b = -1 → ((¬ c = 0 → q_wx_X10_fact_30k1 (T.2 1) (T.1 19) (T.2 24) (T.2 25) (T.2 26) (T.1 20) (T.2 27) (T.2 28) (T.2 29) b c post) ∧ (c = 0 → post (T.1 20)))))) := by
    intro ea hl hp
    rw [ea] at hp
    have hR : R3 (T.1 20) (T.2 27) (T.2 28) (T.2 29) (rowM M 2 (nI 1)) := TM_sl h 2 1 (by decide) (by decide) hl
    have k30 : (b = -1 → ¬ c = 0) → q_wx_X10_fact_30k1 (T.2 1) (T.1 19) (T.2 24) (T.2 25) (T.2 26) (T.1 20) (T.2 27) (T.2 28) (T.2 29) b c post := by
      intro hbc
      refine ⟨fun h9 => ?_, fun h9 => ⟨fun h8 => ?_, fun h8 => ?_⟩⟩
      · unfold F3 at hp
        by_cases hb : b = -1
        · rw [if_pos hb, if_neg (hbc hb)] at hp; exact hp
        · rw [if_neg hb, if_neg (fun h7 => absurd h9 (Int32.not_lt.mpr h7.1.1))] at hp; exact hp
      · have hb : ¬ b = -1 := fun h7 => h9 (by rw [h7]; decide)
        exact e_look_fact hR (hB.2.2.2.2.2.2.2.2.2.2.2.2.2.1) hb ⟨Int32.not_lt.mp h9, h8⟩ hp
      · have hb : ¬ b = -1 := fun h7 => h9 (by rw [h7]; decide)
        unfold F3 at hp
        rw [if_neg hb, if_neg (fun h7 => h8 (by rw [hR.1]; exact h7.1.2))] at hp; exact hp
    refine ⟨fun hb => k30 (fun h9 => absurd h9 hb), fun hb => ⟨fun hcc => k30 (fun _ => hcc), fun hcc => ?_⟩⟩
    unfold F3 at hp
    rw [if_pos hb, if_pos hcc, ← hR.1] at hp
    exact hp
  have sl0 : a = nI 0 → nI 0 < T.2 1 2 → (post (F3 (rowM M 2 a) b c) → ((¬ b = -1 → q_wx_X10_fact_30k0 (T.2 1) (T.1 19) (T.2 24) (T.2 25) (T.2 26) (T.1 20) (T.2 27) (T.2 28) (T.2 29) b c post) ∧ (b = -1 → ((¬ c = 0 → q_wx_X10_fact_30k0 (T.2 1) (T.1 19) (T.2 24) (T.2 25) (T.2 26) (T.1 20) (T.2 27) (T.2 28) (T.2 29) b c post) ∧ (c = 0 → post (T.1 19)))))) := by
    intro ea hl hp
    rw [ea] at hp
    have hR : R3 (T.1 19) (T.2 24) (T.2 25) (T.2 26) (rowM M 2 (nI 0)) := TM_sl h 2 0 (by decide) (by decide) hl
    have k30 : (b = -1 → ¬ c = 0) → q_wx_X10_fact_30k0 (T.2 1) (T.1 19) (T.2 24) (T.2 25) (T.2 26) (T.1 20) (T.2 27) (T.2 28) (T.2 29) b c post := by
      intro hbc
      refine ⟨fun h9 => ?_, fun h9 => ⟨fun h8 => ?_, fun h8 => ?_⟩⟩
      · unfold F3 at hp
        by_cases hb : b = -1
        · rw [if_pos hb, if_neg (hbc hb)] at hp; exact hp
        · rw [if_neg hb, if_neg (fun h7 => absurd h9 (Int32.not_lt.mpr h7.1.1))] at hp; exact hp
      · have hb : ¬ b = -1 := fun h7 => h9 (by rw [h7]; decide)
        exact e_look_fact hR (hB.2.2.2.2.2.2.2.1) hb ⟨Int32.not_lt.mp h9, h8⟩ hp
      · have hb : ¬ b = -1 := fun h7 => h9 (by rw [h7]; decide)
        unfold F3 at hp
        rw [if_neg hb, if_neg (fun h7 => h8 (by rw [hR.1]; exact h7.1.2))] at hp; exact hp
    refine ⟨fun hb => k30 (fun h9 => absurd h9 hb), fun hb => ⟨fun hcc => k30 (fun _ => hcc), fun hcc => ?_⟩⟩
    unfold F3 at hp
    rw [if_pos hb, if_pos hcc, ← hR.1] at hp
    exact hp
  refine e_at hc2 (fun (hn : ¬ (0 ≤ a ∧ a < T.2 1 2)) => ?_) (fun ea hl => ?_) (fun ea hl => ?_)
  · rw [if_neg hn] at hp
    exact ⟨fun _ => hp, fun h9 => absurd h9 (by decide), fun h9 => absurd rfl h9⟩
  · rw [if_pos (by rw [ea]; exact ⟨by decide, hl⟩)] at hp
    exact ⟨fun h9 => absurd h9 (by decide), fun h9 => absurd h9 (by decide), fun _ _ => sl0 ea hl hp⟩
  · rw [if_pos (by rw [ea]; exact ⟨by decide, hl⟩)] at hp
    exact ⟨fun h9 => absurd h9 (by decide), fun _ => sl1 ea hl hp, fun _ h9 => absurd rfl h9⟩
set_option maxRecDepth 40000 in
theorem e_m_fact {M : Nat → Nat → Int32} {cd ev a b c : Int32} {post : Int32 → Int32 → Int32 → Prop} (hcnt : iv 0 2 (M 4 2)) (hE : mSig (M 7)) (hp : ∀ ev', post (AN_fact M a b c) 0 ev') : q_m_fact_0 cd (M 4) (M 7) ev a b c post := by
  unfold AN_fact at hp
  refine e_is (o := 2) (by decide) hcnt (fun hn => ⟨rfl, zi ?_⟩) (fun hy => ⟨rfl, io ?_⟩)
  · rw [if_neg hn] at hp; exact hp _
  · rw [if_pos hy] at hp
    obtain ⟨k, hk, ea⟩ := lt_nI (m := 2) hcnt hy
    have hcl : a.toNatClampNeg = k := by rw [ea]; exact nI_clamp (by omega)
    have row : ∀ j, rowM M 2 a j = M 7 (31 * k + j) := fun j => by unfold rowM; rw [hcl]; rfl
    have dd : ∀ {Q : Int32 → Prop}, Q (rowM M 2 a 0) → q_m_facts_0 (M 7) a Q := by
      intro Q hQ
      have e : (31 : Int32) * a = nI (31 * k) := by rw [ea]; exact pk_mul 31 k
      refine ⟨by rw [e]; exact vp_in_nI (by omega) (by omega), ?_⟩
      rw [e, nI_clamp (by omega)]
      rw [row 0, Nat.add_zero] at hQ
      exact hQ
    have hr0 : iv 0 10 (rowM M 2 a 0) := by rw [row 0, Nat.add_zero]; exact (hE k (by omega)).1
    have il := in_lt (x := b) (iv_w hr0 (by decide) : iv 0 1000 (rowM M 2 a 0))
    unfold F3 at hp
    refine ⟨fun hb => dd ?_, fun hb => ⟨fun hc => ?_, fun hc => dd ?_⟩⟩
    · rw [if_neg hb] at hp
      refine sp_in (fun h => iz ?_) (fun h1 h2 => oi (sp_in (fun h => iz ?_) (fun h3 h4 => oi ?_)))
      · rw [if_neg (fun h9 => h (il.mpr h9.1))] at hp; exact hp _
      · rw [if_neg (fun h9 => h h9.2)] at hp; exact hp _
      · rw [if_pos ⟨il.mp ⟨h1, h2⟩, h3, h4⟩] at hp
        obtain ⟨j, hj, eb⟩ := lt_nI (m := 10) hr0 (il.mp ⟨h1, h2⟩)
        obtain ⟨i, hi, ec⟩ := nI_of2 (M := 2) (n := 2) (by decide) (Int32.not_lt.mpr h3) h4
        have e : (((31 * a) + 1) + (3 * b)) + c = nI (31 * k + 1 + 3 * j + i) := by rw [ea, eb, ec]; exact ix3 31
        refine ⟨by rw [e]; exact vp_in_nI (by omega) (by omega), ?_⟩
        rw [e, nI_clamp (by omega)]
        rw [row, eb, ec, nI_clamp (by omega), nI_clamp (by omega), show 31 * k + (1 + 3 * j + i) = 31 * k + 1 + 3 * j + i by omega] at hp
        exact hp _
    · rw [if_pos hb, if_neg hc] at hp; exact hp _
    · rw [if_pos hb, if_pos hc] at hp; exact hp _
