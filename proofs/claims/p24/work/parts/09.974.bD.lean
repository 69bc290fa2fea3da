theorem e_ec {ec b c : Int32} {ef et td : Nat → Int32} {post : Int32 → Prop} (h4 : ec = td 4) (hc : iv 0 4 ec) (hE : ∀ j, j < (td 4).toNatClampNeg → ef j = td (43 + 2 * j) ∧ et j = td (44 + 2 * j)) (hp : post (Fec td b c)) : (b < 0 → post (-1)) ∧ (¬ b < 0 → ((b < ec → ((¬ c = 0 → ((¬ c = 1 → post (-1)) ∧ (c = 1 → (vp_in b 4 ∧ post (et (Int32.toNatClampNeg b)))))) ∧ (c = 0 → (vp_in b 4 ∧ post (ef (Int32.toNatClampNeg b)))))) ∧ (¬ b < ec → post (-1)))) := by
  unfold Fec at hp
  refine ⟨fun h => ?_, fun h => ⟨fun hl => ?_, fun hl => ?_⟩⟩
  · rw [if_neg (fun h9 => absurd h (Int32.not_lt.mpr h9.1.1))] at hp; exact hp
  · have hlt : 0 ≤ b ∧ b < td 4 := ⟨Int32.not_lt.mp h, by rw [← h4]; exact hl⟩
    obtain ⟨k, hk, e⟩ := lt_nI (m := 4) hc ⟨Int32.not_lt.mp h, hl⟩
    have hin : vp_in b 4 := by rw [e]; exact vp_in_nI hk (by omega)
    have hcl : b.toNatClampNeg = k := by rw [e]; exact nI_clamp (by omega)
    have hkc : k < (td 4).toNatClampNeg := by
      have h1 := r_lt hlt.2
      rw [e, nI_toInt (by omega)] at h1
      have e2 : (td 4).toNatClampNeg = (td 4).toInt.toNat := rfl
      omega
    obtain ⟨r1, r2⟩ := hE k hkc
    rw [hcl]
    rw [hcl] at hp
    refine ⟨fun h0 => ⟨fun h1 => ?_, fun h1 => ⟨hin, ?_⟩⟩, fun h0 => ⟨hin, ?_⟩⟩
    · rw [if_neg (fun h9 => ?_)] at hp
      · exact hp
      · obtain ⟨i, hi, ec⟩ := nI_of2 (M := 1) (n := 1) (x := c) (by decide) (Int32.not_lt.mpr h9.2.1) h9.2.2
        have : i = 0 ∨ i = 1 := by omega
        rcases this with rfl | rfl
        · exact h0 ec
        · exact h1 ec
    · rw [h1, if_pos ⟨hlt, by decide⟩, c_1, show 43 + 2 * k + 1 = 44 + 2 * k by omega] at hp
      rw [r2]; exact hp
    · rw [h0, if_pos ⟨hlt, by decide⟩, c_0, Nat.add_zero] at hp
      rw [r1]; exact hp
  · rw [if_neg (fun h9 => hl (by rw [h4]; exact h9.1.2))] at hp; exact hp
set_option maxRecDepth 40000 in
theorem e_x_echo {T : TT} {M : Nat → Nat → Int32} {a b c : Int32} {post : Int32 → Prop} (h : TM T M 0) (hB : tB T) (hp : post (AN_echo M a b c)) : q_wx_X10_echo_0 (T.2 1) (T.1 7) (T.2 5) (T.2 6) (T.1 14) (T.2 13) (T.2 14) a b c post := by
  unfold AN_echo at hp
  rw [TM_cnt h 0 (by decide)] at hp
  refine e_at (hB.2.2.1 0) (fun (hn : ¬ (0 ≤ a ∧ a < T.2 1 0)) => ?_) (fun ea hl => ?_) (fun ea hl => ?_)
  · rw [if_neg hn] at hp
    exact ⟨fun _ => hp, fun h9 => absurd h9 (by decide), fun h9 => absurd rfl h9⟩
  · rw [if_pos (by rw [ea]; exact ⟨by decide, hl⟩), ea] at hp
    have hR : LDR (T.1 3) (T.1 4) (T.1 5) (T.1 6) (T.1 7) (T.1 8) (T.1 9) (T.2 2) (T.2 3) (T.2 4) (T.2 5) (T.2 6) (T.2 7) (T.2 8) (T.2 9) (rowM M 0 (nI 0)) := TM_sl h 0 0 (by decide) (by decide) hl
    exact ⟨fun h9 => absurd h9 (by decide), fun h9 => absurd h9 (by decide), fun _ _ => e_ec hR.2.2.2.2.1 (hB.2.2.2.2.2.1) hR.2.2.2.2.2.2.2.2.2.2.1 hp⟩
  · rw [if_pos (by rw [ea]; exact ⟨by decide, hl⟩), ea] at hp
    have hR : LDR (T.1 10) (T.1 11) (T.1 12) (T.1 13) (T.1 14) (T.1 15) (T.1 16) (T.2 10) (T.2 11) (T.2 12) (T.2 13) (T.2 14) (T.2 15) (T.2 16) (T.2 17) (rowM M 0 (nI 1)) := TM_sl h 0 1 (by decide) (by decide) hl
    exact ⟨fun h9 => absurd h9 (by decide), fun _ => e_ec hR.2.2.2.2.1 (hB.2.2.2.2.2.2.2.2.2.2.2.1) hR.2.2.2.2.2.2.2.2.2.2.1 hp, fun _ h9 => absurd rfl h9⟩
theorem e_hasH {c : Int32} {k : Nat} {post : Int32 → Prop} (hk : k < 1000) (h0 : ¬ nI k < c → post 0) (h1 : nI k < c → post 1) : q_wl_X2_hasHut_0 c (nI k) post :=
  ⟨fun h => absurd h (nI_pos (by omega)), fun _ => ⟨fun h => h0 (Int32.not_lt.mpr h), fun h => h1 (Int32.not_le.mp h)⟩⟩
theorem e_hasS {c : Int32} {k : Nat} {post : Int32 → Prop} (hk : k < 1000) (h0 : ¬ nI k < c → post 0) (h1 : nI k < c → post 1) : q_wl_X2_hasSinger_0 c (nI k) post :=
  ⟨fun h => absurd h (nI_pos (by omega)), fun _ => ⟨fun h => h0 (Int32.not_lt.mpr h), fun h => h1 (Int32.not_le.mp h)⟩⟩
theorem lt_cl {c : Int32} {k m : Nat} (hc : iv 0 m c) (hm : m < 1000) (hk : k < 1000) (h : nI k < c) : k < m ∧ k < c.toNatClampNeg := by
  have h1 := r_lt h
  rw [nI_toInt (by omega)] at h1
  have h2 := hc.2
  have e : c.toNatClampNeg = c.toInt.toNat := rfl
  omega
theorem dm10 {n : Nat} (hn : n < 1000) : nI n / 10 = nI (n / 10) ∧ nI n - nI n / 10 * 10 = nI (n % 10) := ⟨pk_div (d := 10) (by omega) (by omega) (by omega), pk_rem (d := 10) (by omega) (by omega) (by omega)⟩
theorem dm9 {n : Nat} (hn : n < 1000) (h6 : 60 ≤ n) : (nI n - 60) / 9 = nI ((n - 60) / 9) ∧ (nI n - 60) - (nI n - 60) / 9 * 9 = nI ((n - 60) % 9) := by
  have e : nI n - 60 = nI (n - 60) := pk_sub (b := 60) h6
  rw [e]
  exact ⟨pk_div (d := 9) (by omega) (by omega) (by omega), pk_rem (d := 9) (by omega) (by omega) (by omega)⟩
set_option maxRecDepth 40000 in
theorem e_lk {huts singers villages dams echoes deep slide : Int32} {heights ladders minutes echoFrom echoTo homes talls known td : Nat → Int32} {w : Int32} {post : Int32 → Prop} (hL : LDR huts singers villages dams echoes deep slide heights ladders minutes echoFrom echoTo homes talls known td) (b0 : iv 0 (9 : Nat) huts) (b1 : iv 0 (6 : Nat) singers) (hp : post (if 0 ≤ w ∧ w ≤ 140 then FL td w.toNatClampNeg else -1)) : q_wl_X2_look_0 huts singers villages dams echoes deep slide heights ladders minutes homes talls known w post := by
  obtain ⟨e0, e1, e2, e3, e4, e5, e6, f1, f2, f3, f4, f5, f6⟩ := hL
  have e140 : (140 : Int32).toInt = 140 := rfl
  have e141 : (141 : Int32).toInt = 141 := rfl
  refine ⟨fun h => ?_, fun h => ⟨fun h1 => ?_, fun h1 => ?_⟩⟩
  · rw [if_neg (fun h9 => absurd h (Int32.not_lt.mpr h9.1))] at hp; exact hp
  · have hw : w ≤ 140 := Int32.le_iff_toInt_le.mpr (by have := r_lt h1; omega)
    rw [if_pos ⟨Int32.not_lt.mp h, hw⟩] at hp
    obtain ⟨n, hn, rfl⟩ := nI_of2 (M := 140) (n := 140) (by decide) h hw
    rw [nI_clamp (by omega)] at hp
    unfold FL at hp
    rw [(dm10 (n := n) (by omega)).2, (dm10 (n := n) (by omega)).1]
    refine pk_lt n 60 (fun hlt => ?_) (fun hge => ?_)
    · rw [if_neg (show ¬ 60 ≤ n by omega)] at hp
      refine pk_le 10 n (fun hge v ev => ?_) (fun hlo => ?_)
      · subst ev
        refine pk_le 30 n (fun h30 => ?_) (fun h30 => ?_)
        · rw [if_neg (show ¬ n / 10 = 1 by omega), if_neg (show ¬ n / 10 = 2 by omega)] at hp
          refine e_hasS (by omega) (fun hs => zi ?_) (fun hs => io ?_)
          · rw [e1] at hs
            have hc : n / 10 = 3 ∨ n / 10 = 4 ∨ n / 10 = 5 := by omega
            rcases hc with hc | hc | hc
            · rw [if_pos hc, if_neg hs] at hp; exact hp
            · rw [if_neg (show ¬ n / 10 = 3 by omega), if_pos hc, if_neg hs] at hp; exact hp
            · rw [if_neg (show ¬ n / 10 = 3 by omega), if_neg (show ¬ n / 10 = 4 by omega), if_pos hc, if_neg hs] at hp; exact hp
          · obtain ⟨k6, kc⟩ := lt_cl b1 (by omega) (by omega) hs
            have hin : vp_in (nI (n % 10)) 6 := vp_in_nI k6 (by omega)
            rw [e1] at hs kc
            rw [nI_clamp (by omega)]
            refine ⟨fun h3 => ⟨fun h4 => ⟨hin, ?_⟩, fun h4 => ⟨hin, ?_⟩⟩, fun h3 => ⟨hin, ?_⟩⟩
            · have q3 : ¬ n / 10 = 3 := fun h9 => h3 (by rw [h9]; rfl)
              have q4 : ¬ n / 10 = 4 := fun h9 => h4 (by rw [h9]; rfl)
              rw [if_neg q3, if_neg q4, if_pos (show n / 10 = 5 by omega), if_pos hs] at hp
              rw [f6 _ k6]; exact hp
            · have q4 : n / 10 = 4 := (nI_eq (a := n / 10) (b := 4) (by omega) (by omega)).mp h4
              rw [if_neg (show ¬ n / 10 = 3 by omega), if_pos q4, if_pos hs] at hp
              rw [(f5 _ kc).2]; exact hp
            · have q3 : n / 10 = 3 := (nI_eq (a := n / 10) (b := 3) (by omega) (by omega)).mp h3
              rw [if_pos q3, if_pos hs] at hp
              rw [(f5 _ kc).1]; exact hp
        · refine e_hasH (by omega) (fun hs => zi ?_) (fun hs => io ?_)
          · rw [e0] at hs
            have hc : n / 10 = 1 ∨ n / 10 = 2 := by omega
            rcases hc with hc | hc
            · rw [if_pos hc, if_neg hs] at hp; exact hp
            · rw [if_neg (show ¬ n / 10 = 1 by omega), if_pos hc, if_neg hs] at hp; exact hp
          · obtain ⟨k9, kc⟩ := lt_cl b0 (by omega) (by omega) hs
            have hin : vp_in (nI (n % 10)) 9 := vp_in_nI k9 (by omega)
            rw [e0] at hs kc
            rw [nI_clamp (by omega)]
            refine ⟨fun h3 => ⟨hin, ?_⟩, fun h3 => ⟨hin, ?_⟩⟩
            · have q1 : ¬ n / 10 = 1 := fun h9 => h3 (by rw [h9]; rfl)
              rw [if_neg q1, if_pos (show n / 10 = 2 by omega), if_pos hs] at hp
              rw [f2 _ k9]; exact hp
            · have q1 : n / 10 = 1 := (nI_eq (a := n / 10) (b := 1) (by omega) (by omega)).mp h3
              rw [if_pos q1, if_pos hs] at hp
              rw [f1 _ kc]; exact hp
      · rw [if_neg (show ¬ n / 10 = 1 by omega), if_neg (show ¬ n / 10 = 2 by omega), if_neg (show ¬ n / 10 = 3 by omega), if_neg (show ¬ n / 10 = 4 by omega), if_neg (show ¬ n / 10 = 5 by omega)] at hp
        have z : ∀ m : Nat, m ≤ 6 → nI n = nI m → post (td m) := by
          intro m hm e
          have : n = m := (nI_eq (by omega) (by omega)).mp e
          subst this
          rw [if_pos hm] at hp
          exact hp
        refine ⟨fun h9 => ?_, fun h9 => ?_, fun h9 => ?_, fun h9 => ?_, fun h9 => ?_, fun h9 => ?_, fun h9 => ?_, fun h9 => ?_⟩
        · rw [nI_toInt (by omega)] at h9
          rw [if_neg (by omega)] at hp
          exact hp
        · rw [e0]; exact z 0 (by omega) h9
        · rw [e1]; exact z 1 (by omega) h9
        · rw [e2]; exact z 2 (by omega) h9
        · rw [e3]; exact z 3 (by omega) h9
        · rw [e4]; exact z 4 (by omega) h9
        · rw [e5]; exact z 5 (by omega) h9
        · rw [e6]; exact z 6 (by omega) h9
    · rw [if_pos (show 60 ≤ n by omega)] at hp
      rw [(dm9 (n := n) (by omega) hge).2, (dm9 (n := n) (by omega) hge).1]
      intro v2 ev2 v3 ev3
      subst ev2 ev3
      refine e_hasH (by omega) (fun hs => iz ?_) (fun hs => oi ?_)
      · rw [e0] at hs
        rw [if_neg (fun h9 => hs h9.1)] at hp; exact hp
      · refine e_hasH (by omega) (fun hs2 => iz ?_) (fun hs2 => oi ?_)
        · rw [e0] at hs2
          rw [if_neg (fun h9 => hs2 h9.2)] at hp; exact hp
        · obtain ⟨k9, -⟩ := lt_cl b0 (by omega) (by omega) hs
          obtain ⟨k92, -⟩ := lt_cl b0 (by omega) (by omega) hs2
          rw [e0] at hs hs2
          rw [if_pos ⟨hs, hs2⟩] at hp
          rw [jx9, nI_clamp (by omega)]
          refine ⟨vp_in_nI (by omega) (by omega), ?_⟩
          rw [f3 _ (by omega), show 51 + ((n - 60) / 9 * 9 + (n - 60) % 9) = 51 + 9 * ((n - 60) / 9) + (n - 60) % 9 by omega]
          exact hp
  · rw [if_neg (fun h9 => h1 (Int32.lt_iff_toInt_lt.mpr (by have := r_le h9.2; omega)))] at hp; exact hp
set_option maxRecDepth 40000 in
theorem e_x_land {T : TT} {M : Nat → Nat → Int32} {a b : Int32} {post : Int32 → Prop} (h : TM T M 0) (hB : tB T) (hp : post (AN_land M a b)) : q_wx_X10_land_0 (T.2 1) (T.1 3) (T.1 4) (T.1 5) (T.1 6) (T.1 7) (T.1 8) (T.1 9) (T.2 2) (T.2 3) (T.2 4) (T.2 7) (T.2 8) (T.2 9) (T.1 10) (T.1 11) (T.1 12) (T.1 13) (T.1 14) (T.1 15) (T.1 16) (T.2 10) (T.2 11) (T.2 12) (T.2 15) (T.2 16) (T.2 17) a b post := by
  unfold AN_land at hp
  rw [TM_cnt h 0 (by decide)] at hp
  refine e_at (hB.2.2.1 0) (fun (hn : ¬ (0 ≤ a ∧ a < T.2 1 0)) => ?_) (fun ea hl => ?_) (fun ea hl => ?_)
  · rw [if_neg hn] at hp
    exact ⟨fun _ => hp, fun h9 => absurd h9 (by decide), fun h9 => absurd rfl h9⟩
  · rw [if_pos (by rw [ea]; exact ⟨by decide, hl⟩), ea] at hp
    have hR : LDR (T.1 3) (T.1 4) (T.1 5) (T.1 6) (T.1 7) (T.1 8) (T.1 9) (T.2 2) (T.2 3) (T.2 4) (T.2 5) (T.2 6) (T.2 7) (T.2 8) (T.2 9) (rowM M 0 (nI 0)) := TM_sl h 0 0 (by decide) (by decide) hl
    exact ⟨fun h9 => absurd h9 (by decide), fun h9 => absurd h9 (by decide), fun _ _ => e_lk hR (hB.2.2.2.1) (hB.2.2.2.2.1) hp⟩
  · rw [if_pos (by rw [ea]; exact ⟨by decide, hl⟩), ea] at hp
    have hR : LDR (T.1 10) (T.1 11) (T.1 12) (T.1 13) (T.1 14) (T.1 15) (T.1 16) (T.2 10) (T.2 11) (T.2 12) (T.2 13) (T.2 14) (T.2 15) (T.2 16) (T.2 17) (rowM M 0 (nI 1)) := TM_sl h 0 1 (by decide) (by decide) hl
    exact ⟨fun h9 => absurd h9 (by decide), fun _ => e_lk hR (hB.2.2.2.2.2.2.2.2.2.1) (hB.2.2.2.2.2.2.2.2.2.2.1) hp, fun _ h9 => absurd rfl h9⟩
theorem e_of {M : Nat → Nat → Int32} {k i : Nat} {x : Int32} {post : Int32 → Prop} (hk : k < 2) (hi : i < 132) (hx : x = nI i) (hp : post (rowM M 0 (nI k) i)) : q_m_of_0 (M 5) (nI k) x post := by
  have e : (132 : Int32) * nI k + x = nI (132 * k + i) := by rw [hx, show (132 : Int32) = nI 132 from rfl, pk_mul, nI_add]
  refine ⟨by rw [e]; exact vp_in_nI (by omega) (by omega), ?_⟩
  rw [e, nI_clamp (by omega)]
  unfold rowM at hp
  rw [nI_clamp (by omega)] at hp
  exact hp
theorem e_hand {M : Nat → Nat → Int32} {ld hu si a : Int32} {post : Int32 → Int32 → Int32 → Int32 → Prop} (hc : iv 0 2 (M 4 0)) (h0 : ¬ (0 ≤ a ∧ a < M 4 0) → post 0 ld hu si) (h1 : ∀ k, k < 2 → a = nI k → 0 ≤ a ∧ a < M 4 0 → post 1 (nI k) (rowM M 0 (nI k) 0) (rowM M 0 (nI k) 1)) : q_m_hand_0 (M 4) (M 5) ld hu si a post := by
  refine e_is (o := 0) (by decide) hc (fun hn => zi (h0 hn)) (fun hy => io ?_)
  obtain ⟨k, hk, ea⟩ := lt_nI (m := 2) hc hy
  have g := h1 k hk ea hy
  subst ea
  exact e_of (i := 0) hk (by omega) rfl (e_of (i := 1) hk (by omega) rfl g)
theorem row_iv {M : Nat → Nat → Int32} {k j : Nat} (hL : mLand (M 5)) (hk : k < 2) (hj : j < 132) : iv 0 (mRh j) (rowM M 0 (nI k) j) := by
  unfold rowM
  rw [nI_clamp (by omega)]
  exact hL.1 k j (by omega) hj
theorem e_isH {c : Int32} {k : Nat} {post : Int32 → Prop} (hk : k < 1000) (hc : iv 0 1000 c) (h0 : ¬ nI k < c → post 0) (h1 : nI k < c → post 1) : q_m_isHut_0 c (nI k) post :=
  sp_in (fun h => ⟨rfl, h0 (fun h9 => h ((in_lt hc).mpr ⟨nI_pos' (by omega), h9⟩))⟩) (fun a b => ⟨rfl, h1 ((in_lt hc).mp ⟨a, b⟩).2⟩)
theorem e_isS {c : Int32} {k : Nat} {post : Int32 → Prop} (hk : k < 1000) (hc : iv 0 1000 c) (h0 : ¬ nI k < c → post 0) (h1 : nI k < c → post 1) : q_m_isSinger_0 c (nI k) post :=
  sp_in (fun h => ⟨rfl, h0 (fun h9 => h ((in_lt hc).mpr ⟨nI_pos' (by omega), h9⟩))⟩) (fun a b => ⟨rfl, h1 ((in_lt hc).mp ⟨a, b⟩).2⟩)
set_option maxRecDepth 40000 in
theorem e_m_echo {M : Nat → Nat → Int32} {cd ld hu si a b c : Int32} {post : Int32 → Int32 → Int32 → Int32 → Int32 → Prop} (hcnt : iv 0 2 (M 4 0)) (hL : mLand (M 5)) (hp : ∀ x y z, post (AN_echo M a b c) 0 x y z) : q_m_echo_0 cd (M 4) (M 5) ld hu si a b c post := by
  unfold AN_echo at hp
  refine e_hand hcnt (fun hn => iz ?_) (fun k hk ea hy => oi ?_)
  · rw [if_neg hn] at hp; exact hp _ _ _
  · rw [if_pos hy, ea] at hp
    have h4 : iv 0 4 (rowM M 0 (nI k) 4) := row_iv hL hk (by omega)
    have il := in_lt (x := b) (iv_w h4 (by decide) : iv 0 1000 (rowM M 0 (nI k) 4))
    unfold Fec at hp
    refine e_of (i := 4) hk (by omega) rfl (sp_in (fun h => iz ?_) (fun h1 h2 => oi (sp_in (fun h => iz ?_) (fun h3 h5 => oi ?_))))
    · rw [if_neg (fun h9 => h (il.mpr h9.1))] at hp; exact hp _ _ _
    · rw [if_neg (fun h9 => h h9.2)] at hp; exact hp _ _ _
    · rw [if_pos ⟨il.mp ⟨h1, h2⟩, h3, h5⟩] at hp
      obtain ⟨j, hj, eb⟩ := lt_nI (m := 4) h4 (il.mp ⟨h1, h2⟩)
      obtain ⟨i, hi, ec⟩ := nI_of2 (M := 1) (n := 1) (by decide) (Int32.not_lt.mpr h3) h5
      rw [eb, ec, nI_clamp (by omega), nI_clamp (by omega)] at hp
      rw [eb, ec]
      exact e_of (i := 43 + 2 * j + i) hk (by omega) (jx2 43 2 j i) (hp _ _ _)
theorem neg10 {x : Int32} (h : x < 0) : (x / 10).toInt < 1 := by
  have hx := r_lt h
  have e0 : (0 : Int32).toInt = 0 := rfl
  have e10 : (10 : Int32).toInt = 10 := rfl
  have hb := iv_top x
  rw [Int32.toInt_div, e10]
  have e1 : x.toInt.tdiv 10 = -((-x.toInt) / 10) := by
    rw [show x.toInt = -(-x.toInt) by omega, Int.neg_tdiv, Int.tdiv_eq_ediv_of_nonneg (by omega)]
    rw [show - -(-x.toInt) = -x.toInt by omega]
  have := hb.1
  rw [e1, Int.bmod_eq_of_le (by omega) (by omega)]
  omega
set_option maxRecDepth 40000 in
theorem e_m_land {M : Nat → Nat → Int32} {cd ld hu si a w : Int32} {post : Int32 → Int32 → Int32 → Int32 → Int32 → Prop} (hcnt : iv 0 2 (M 4 0)) (hL : mLand (M 5)) (hp : ∀ x y z, post (AN_land M a w) 0 x y z) : q_m_land_0 cd (M 4) (M 5) ld hu si a w post := by
  unfold AN_land at hp
  refine e_hand hcnt (fun hn => zi ?_) (fun k hk ea hy => io ?_)
  · rw [if_neg hn] at hp; exact hp _ _ _
  · rw [if_pos hy, ea] at hp
    have h0 : iv 0 1000 (rowM M 0 (nI k) 0) := iv_w (row_iv hL hk (by omega)) (by decide)
    have h1 : iv 0 1000 (rowM M 0 (nI k) 1) := iv_w (row_iv hL hk (by omega)) (by decide)
    have b0 : iv 0 (9 : Nat) (rowM M 0 (nI k) 0) := row_iv hL hk (by omega)
    have b1 : iv 0 (6 : Nat) (rowM M 0 (nI k) 1) := row_iv hL hk (by omega)
    have e60 : (60 : Int32).toInt = 60 := rfl
    have e140 : (140 : Int32).toInt = 140 := rfl
    have e0 : (0 : Int32).toInt = 0 := rfl
    have e6 : (6 : Int32).toInt = 6 := rfl
    -- the tail of the switch: nothing of 1 .. 5
    have dflt : (∀ x y z, post (if 0 ≤ w ∧ w ≤ 6 then rowM M 0 (nI k) w.toNatClampNeg else -1) 0 x y z) → q_m_in_0 w 0 6 (fun r_3 => (r_3 = 0 → post (-1) 0 (nI k) (rowM M 0 (nI k) 0) (rowM M 0 (nI k) 1)) ∧ (¬ r_3 = 0 → q_m_of_0 (M 5) (nI k) w (fun r_4 => post r_4 0 (nI k) (rowM M 0 (nI k) 0) (rowM M 0 (nI k) 1)))) := by
      intro hq
      refine sp_in (fun h => iz ?_) (fun g1 g2 => oi ?_)
      · rw [if_neg h] at hq; exact hq _ _ _
      · rw [if_pos ⟨g1, g2⟩] at hq
        obtain ⟨i, hi, ei⟩ := nI_of2 (M := 6) (n := 6) (by decide) (Int32.not_lt.mpr g1) g2
        rw [ei, nI_clamp (by omega)] at hq
        exact e_of (i := i) hk (by omega) ei (hq _ _ _)
    refine sp_in (fun hnin => iz (fun v ev => ?_)) (fun g1 g2 => oi (fun v2 ev2 v3 ev3 => ?_))
    · by_cases hneg : w < 0
      · have hd := neg10 hneg
        have nd : ∀ m : Int32, 1 ≤ m.toInt → ¬ w / 10 = m := fun m hm h9 => by rw [h9] at hd; omega
        rw [if_neg (fun h9 => absurd hneg (Int32.not_lt.mpr h9.1))] at hp
        refine ⟨fun _ => dflt (by rw [if_neg (fun h9 => absurd hneg (Int32.not_lt.mpr h9.1))]; exact hp), fun h9 => absurd h9 (nd _ (by decide)), fun h9 => absurd h9 (nd _ (by decide)), fun h9 => absurd h9 (nd _ (by decide)), fun h9 => absurd h9 (nd _ (by decide)), fun h9 => absurd h9 (nd _ (by decide))⟩
      · obtain ⟨n, hn, rfl⟩ := nI_of hneg
        have q1 : nI n / 10 = nI (n / 10) := pk_div (d := 10) (by omega) (by omega) (by omega)
        have q2 : nI n - nI n / 10 * 10 = nI (n % 10) := pk_rem (d := 10) (by omega) (by omega) (by omega)
        rw [q2] at ev
        subst ev
        rw [q1]
        have hr : n < 60 ∨ 140 < n := by
          by_cases hh : n < 60
          · exact Or.inl hh
          · right
            refine Nat.lt_of_not_le (fun h9 => hnin ⟨Int32.le_iff_toInt_le.mpr ?_, Int32.le_iff_toInt_le.mpr ?_⟩)
            · rw [nI_toInt hn]; omega
            · rw [nI_toInt hn]; omega
        have vd : ∀ m : Nat, m < 100 → nI (n / 10) = nI m → n / 10 = m := fun m hm h9 => (nI_eq (by omega) (by omega)).mp h9
        rcases hr with hr | hr
        · rw [if_pos ⟨nI_pos' (by omega), nI_le (b := 140) (by omega) (by omega)⟩, nI_clamp hn] at hp
          unfold FL at hp
          rw [if_neg (show ¬ 60 ≤ n by omega)] at hp
          refine ⟨fun h9 => dflt ?_, fun h9 => ?_, fun h9 => ?_, fun h9 => ?_, fun h9 => ?_, fun h9 => ?_⟩
          · rw [nI_toInt (by omega)] at h9
            rw [if_neg (show ¬ n / 10 = 1 by omega), if_neg (show ¬ n / 10 = 2 by omega), if_neg (show ¬ n / 10 = 3 by omega), if_neg (show ¬ n / 10 = 4 by omega), if_neg (show ¬ n / 10 = 5 by omega)] at hp
            by_cases h6 : n ≤ 6
            · rw [if_pos ⟨nI_pos' (by omega), nI_le (b := 6) (by omega) (by omega)⟩, nI_clamp hn]
              rw [if_pos h6] at hp
              exact hp
            · rw [if_neg (fun h8 => h6 (by have := r_le h8.2; rw [nI_toInt hn] at this; omega))]
              rw [if_neg h6] at hp
              exact hp
          · have q := vd 1 (by omega) h9
            rw [if_pos q] at hp
            refine e_isH (by omega) h0 (fun hs => iz ?_) (fun hs => oi ?_)
            · rw [if_neg hs] at hp; exact hp _ _ _
            · rw [if_pos hs] at hp
              exact e_of (i := 7 + n % 10) hk (by omega) (jx 7 (n % 10)) (hp _ _ _)
          · have q := vd 2 (by omega) h9
            rw [if_neg (show ¬ n / 10 = 1 by omega), if_pos q] at hp
            refine e_isH (by omega) h0 (fun hs => iz ?_) (fun hs => oi ?_)
            · rw [if_neg hs] at hp; exact hp _ _ _
            · rw [if_pos hs] at hp
              exact e_of (i := 16 + n % 10) hk (by omega) (jx 16 (n % 10)) (hp _ _ _)
          · have q := vd 3 (by omega) h9
            rw [if_neg (show ¬ n / 10 = 1 by omega), if_neg (show ¬ n / 10 = 2 by omega), if_pos q] at hp
            refine e_isS (by omega) h1 (fun hs => iz ?_) (fun hs => oi ?_)
            · rw [if_neg hs] at hp; exact hp _ _ _
            · rw [if_pos hs] at hp
              exact e_of (i := 25 + n % 10) hk (by omega) (jx 25 (n % 10)) (hp _ _ _)
          · have q := vd 4 (by omega) h9
            rw [if_neg (show ¬ n / 10 = 1 by omega), if_neg (show ¬ n / 10 = 2 by omega), if_neg (show ¬ n / 10 = 3 by omega), if_pos q] at hp
            refine e_isS (by omega) h1 (fun hs => iz ?_) (fun hs => oi ?_)
            · rw [if_neg hs] at hp; exact hp _ _ _
            · rw [if_pos hs] at hp
              exact e_of (i := 31 + n % 10) hk (by omega) (jx 31 (n % 10)) (hp _ _ _)
          · have q := vd 5 (by omega) h9
            rw [if_neg (show ¬ n / 10 = 1 by omega), if_neg (show ¬ n / 10 = 2 by omega), if_neg (show ¬ n / 10 = 3 by omega), if_neg (show ¬ n / 10 = 4 by omega), if_pos q] at hp
            refine e_isS (by omega) h1 (fun hs => iz ?_) (fun hs => oi ?_)
            · rw [if_neg hs] at hp; exact hp _ _ _
            · rw [if_pos hs] at hp
              exact e_of (i := 37 + n % 10) hk (by omega) (jx 37 (n % 10)) (hp _ _ _)
        · have nle : ¬ (0 ≤ nI n ∧ nI n ≤ 140) := fun h8 => by have := r_le h8.2; rw [nI_toInt hn] at this; omega
          rw [if_neg nle] at hp
          have nd : ∀ m : Nat, m < 14 → ¬ nI (n / 10) = nI m := fun m hm h9 => by have := vd m (by omega) h9; omega
          refine ⟨fun _ => dflt (by rw [if_neg (fun h8 => by have := r_le h8.2; rw [nI_toInt hn] at this; omega)]; exact hp), fun h9 => absurd h9 (nd 1 (by omega)), fun h9 => absurd h9 (nd 2 (by omega)), fun h9 => absurd h9 (nd 3 (by omega)), fun h9 => absurd h9 (nd 4 (by omega)), fun h9 => absurd h9 (nd 5 (by omega))⟩
    · obtain ⟨n, hn, rfl⟩ := nI_of (x := w) (fun h9 => by have := r_lt h9; have := r_le g1; omega)
      have hge : 60 ≤ n := by have := r_le g1; rw [nI_toInt hn] at this; omega
      have hle : n ≤ 140 := by have := r_le g2; rw [nI_toInt hn] at this; omega
      rw [(dm9 (n := n) (by omega) hge).1] at ev2
      rw [(dm9 (n := n) (by omega) hge).2] at ev3
      subst ev2 ev3
      rw [if_pos ⟨nI_pos' (by omega), nI_le (b := 140) (by omega) (by omega)⟩, nI_clamp hn] at hp
      unfold FL at hp
      rw [if_pos hge] at hp
      refine e_isH (by omega) h0 (fun hs => iz ?_) (fun hs => oi (e_isH (by omega) h0 (fun hs2 => iz ?_) (fun hs2 => oi ?_)))
      · rw [if_neg (fun h9 => hs h9.1)] at hp; exact hp _ _ _
      · rw [if_neg (fun h9 => hs2 h9.2)] at hp; exact hp _ _ _
      · rw [if_pos ⟨hs, hs2⟩] at hp
        obtain ⟨k9, -⟩ := lt_cl b0 (by omega) (by omega) hs
        obtain ⟨k92, -⟩ := lt_cl b0 (by omega) (by omega) hs2
        exact e_of (i := 51 + 9 * ((n - 60) / 9) + (n - 60) % 9) hk (by omega) (ix9 _ _) (hp _ _ _)
