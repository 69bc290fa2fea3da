theorem mCP_k {M : Nat → Nat → Int32} {t z fa fp mn l e s c kp kp' : Nat → Int32} {f g : Nat} (h : mCP M (mmk t z fa fp mn l e s c kp) f g) : mCP M (mmk t z fa fp mn l e s c kp') f g := by
  intro q hq
  have h1 := h q hq
  have : q = 0 ∨ q = 1 ∨ q = 2 ∨ q = 3 ∨ q = 4 ∨ q = 5 ∨ q = 6 ∨ q = 7 ∨ q = 8 := by omega
  rcases this with rfl | rfl | rfl | rfl | rfl | rfl | rfl | rfl | rfl <;> exact h1
theorem e_m_image2 {M : Nat → Nat → Int32} {f_code x1 : Int32} {post : Int32 → Int32 → (Nat → Int32) → (Nat → Int32) → (Nat → Int32) → (Nat → Int32) → (Nat → Int32) → (Nat → Int32) → (Nat → Int32) → (Nat → Int32) → (Nat → Int32) → (Nat → Int32) → Prop} (ht : ∀ j, iv (-128) 127 (M 0 j)) (hp : ∀ r t z fa fp mn l e s c kp, mIM M (mmk t z fa fp mn l e s c kp) x1 r → post r 0 t z fa fp mn l e s c kp) : q_m_image_0 f_code (M 0) (M 1) (M 2) (M 3) (M 4) (M 5) (M 6) (M 7) (M 8) (M 9) x1 post := by
  refine sp_in (fun h => zi (hp _ _ _ _ _ _ _ _ _ _ _ ⟨fun _ => ⟨rfl, fun i hi => ?_⟩, fun k hk e => absurd (imJ_nI.mpr ⟨k, hk, e⟩) h⟩)) (fun a1 a2 => io ?_)
  · have : i = 0 ∨ i = 1 ∨ i = 2 ∨ i = 3 ∨ i = 4 ∨ i = 5 ∨ i = 6 ∨ i = 7 ∨ i = 8 ∨ i = 9 := by omega
    rcases this with rfl | rfl | rfl | rfl | rfl | rfl | rfl | rfl | rfl | rfl <;> rfl
  · obtain ⟨j, rfl, -, hj, hj2⟩ := iv_nI (iv_of (l := 0) (h := 2) rfl rfl a1 a2) (by omega)
    rw [nI_1]
    refine e_copyAll2 (f := 0) (by omega) (by omega) (by omega) ht (fun t z fa fp mn l e s c kp hcp => ⟨vp_in_nI (by omega) (by omega), fun kp2 ek => ?_⟩)
    rw [nI_clamp (by omega)] at ek
    refine hp _ _ _ _ _ _ _ _ _ _ _ ⟨fun h => absurd (imJ_nI.mpr ⟨j, by omega, rfl⟩) h, fun k hk e => ?_⟩
    have hkj : k = j := (nI_eq (by omega) (by omega)).mp e.symm
    subst hkj
    exact ⟨rfl, mCP_k hcp, by show kp2 k = 1; rw [ek]; exact up_s, fun q hq => by show kp2 q = M 9 q; rw [ek]; exact up_n hq⟩
theorem e_m_again2 {M : Nat → Nat → Int32} {f_code x1 : Int32} {post : Int32 → Int32 → (Nat → Int32) → (Nat → Int32) → (Nat → Int32) → (Nat → Int32) → (Nat → Int32) → (Nat → Int32) → (Nat → Int32) → (Nat → Int32) → (Nat → Int32) → Prop} (hb : ∀ j, iv (-128) 127 (M 0 j)) (hp : ∀ r t z fa fp mn l e s c, mAG M (mmk t z fa fp mn l e s c (M 9)) x1 r → post r 0 t z fa fp mn l e s c) : q_m_again_0 f_code (M 0) (M 1) (M 2) (M 3) (M 4) (M 5) (M 6) (M 7) (M 8) (M 9) x1 post := by
  have no : ¬ (∃ k, k < 3 ∧ x1 = nI k ∧ ¬ M 9 k = 0) → post 0 0 (M 0) (M 1) (M 2) (M 3) (M 4) (M 5) (M 6) (M 7) (M 8) := by
    intro h
    refine hp _ _ _ _ _ _ _ _ _ _ ⟨fun _ => ⟨rfl, fun i hi => ?_⟩, fun k hk e h9 => absurd ⟨k, hk, e, h9⟩ h⟩
    have : i = 0 ∨ i = 1 ∨ i = 2 ∨ i = 3 ∨ i = 4 ∨ i = 5 ∨ i = 6 ∨ i = 7 ∨ i = 8 ∨ i = 9 := by omega
    rcases this with rfl | rfl | rfl | rfl | rfl | rfl | rfl | rfl | rfl | rfl <;> rfl
  refine sp_in (fun h => ⟨fun _ => no (fun ⟨k, hk, e, _⟩ => h (by rw [e]; exact ⟨nI_pos' (by omega), nI_le (b := 2) (by omega) (by omega)⟩)), fun h9 => absurd rfl h9⟩) (fun a1 a2 => ⟨fun h9 => absurd h9 (by decide), fun _ => ?_⟩)
  obtain ⟨j, rfl, -, hj, hj2⟩ := iv_nI (iv_of (l := 0) (h := 2) rfl rfl a1 a2) (by omega)
  refine ⟨vp_in_nI (by omega) (by omega), ?_⟩
  rw [nI_clamp (by omega)]
  refine ⟨fun hk => ?_, fun hk => no (fun ⟨k, hk3, e, h9⟩ => h9 (by rw [(nI_eq (by omega) (by omega)).mp e] at hk; exact hk))⟩
  rw [nI_1]
  refine e_copyAll2 (g := 0) (by omega) (by omega) (by omega) hb (fun t z fa fp mn l e s c kp hcp => ?_)
  refine hp _ _ _ _ _ _ _ _ _ _ ⟨fun h => absurd ⟨j, by omega, rfl, hk⟩ h, fun k hk3 e _ => ?_⟩
  have hkj : k = j := (nI_eq (by omega) (by omega)).mp e.symm
  subst hkj
  exact ⟨rfl, mCP_k hcp, rfl⟩
set_option maxRecDepth 40000 in
theorem xSA_mk {T : TT} {t : Nat → Int32} {l : Int32} : xSA T (tmk t l (T.1 1) (T.1 2) (T.2 1) (T.1 3) (T.1 4) (T.1 5) (T.1 6) (T.1 7) (T.1 8) (T.1 9) (T.2 2) (T.2 3) (T.2 4) (T.2 5) (T.2 6) (T.2 7) (T.2 8) (T.2 9) (T.1 10) (T.1 11) (T.1 12) (T.1 13) (T.1 14) (T.1 15) (T.1 16) (T.2 10) (T.2 11) (T.2 12) (T.2 13) (T.2 14) (T.2 15) (T.2 16) (T.2 17) (T.1 17) (T.2 18) (T.2 19) (T.2 20) (T.1 18) (T.2 21) (T.2 22) (T.2 23) (T.1 19) (T.2 24) (T.2 25) (T.2 26) (T.1 20) (T.2 27) (T.2 28) (T.2 29) (T.1 21) (T.1 22) (T.2 30) (T.2 31) (T.1 23) (T.1 24) (T.2 32) (T.2 33)) := by
  refine ⟨fun i h1 h2 => ?_, fun i h1 h2 => ?_⟩
  · have : i = 1 ∨ i = 2 ∨ i = 3 ∨ i = 4 ∨ i = 5 ∨ i = 6 ∨ i = 7 ∨ i = 8 ∨ i = 9 ∨ i = 10 ∨ i = 11 ∨ i = 12 ∨ i = 13 ∨ i = 14 ∨ i = 15 ∨ i = 16 ∨ i = 17 ∨ i = 18 ∨ i = 19 ∨ i = 20 ∨ i = 21 ∨ i = 22 ∨ i = 23 ∨ i = 24 := by omega
    rcases this with rfl | rfl | rfl | rfl | rfl | rfl | rfl | rfl | rfl | rfl | rfl | rfl | rfl | rfl | rfl | rfl | rfl | rfl | rfl | rfl | rfl | rfl | rfl | rfl <;> rfl
  · have : i = 1 ∨ i = 2 ∨ i = 3 ∨ i = 4 ∨ i = 5 ∨ i = 6 ∨ i = 7 ∨ i = 8 ∨ i = 9 ∨ i = 10 ∨ i = 11 ∨ i = 12 ∨ i = 13 ∨ i = 14 ∨ i = 15 ∨ i = 16 ∨ i = 17 ∨ i = 18 ∨ i = 19 ∨ i = 20 ∨ i = 21 ∨ i = 22 ∨ i = 23 ∨ i = 24 ∨ i = 25 ∨ i = 26 ∨ i = 27 ∨ i = 28 ∨ i = 29 ∨ i = 30 ∨ i = 31 ∨ i = 32 ∨ i = 33 := by omega
    rcases this with rfl | rfl | rfl | rfl | rfl | rfl | rfl | rfl | rfl | rfl | rfl | rfl | rfl | rfl | rfl | rfl | rfl | rfl | rfl | rfl | rfl | rfl | rfl | rfl | rfl | rfl | rfl | rfl | rfl | rfl | rfl | rfl | rfl <;> rfl
theorem xFD_no {T : TT} {a b c d e : Int32} (hlen : iv 0 600 (T.1 0)) (h : ¬ T.1 0 + 20 ≤ 600) : xFD T (tmk (T.2 0) (T.1 0) (T.1 1) (T.1 2) (T.2 1) (T.1 3) (T.1 4) (T.1 5) (T.1 6) (T.1 7) (T.1 8) (T.1 9) (T.2 2) (T.2 3) (T.2 4) (T.2 5) (T.2 6) (T.2 7) (T.2 8) (T.2 9) (T.1 10) (T.1 11) (T.1 12) (T.1 13) (T.1 14) (T.1 15) (T.1 16) (T.2 10) (T.2 11) (T.2 12) (T.2 13) (T.2 14) (T.2 15) (T.2 16) (T.2 17) (T.1 17) (T.2 18) (T.2 19) (T.2 20) (T.1 18) (T.2 21) (T.2 22) (T.2 23) (T.1 19) (T.2 24) (T.2 25) (T.2 26) (T.1 20) (T.2 27) (T.2 28) (T.2 29) (T.1 21) (T.1 22) (T.2 30) (T.2 31) (T.1 23) (T.1 24) (T.2 32) (T.2 33)) a b c d e (-1) := ⟨xSA_mk, fun _ => ⟨rfl, rfl, rfl⟩, fun n hn hle => absurd (by rw [hn]; exact (e_len (by omega)).mpr hle) h⟩
theorem xFD_yes {T : TT} {a b c d e : Int32} {n : Nat} {t : Nat → Int32} (hn : T.1 0 = nI n) (hle : n + 20 ≤ 600) (hb : B20 (T.2 0) t n a b c d e) : xFD T (tmk t (nI (n + 20)) (T.1 1) (T.1 2) (T.2 1) (T.1 3) (T.1 4) (T.1 5) (T.1 6) (T.1 7) (T.1 8) (T.1 9) (T.2 2) (T.2 3) (T.2 4) (T.2 5) (T.2 6) (T.2 7) (T.2 8) (T.2 9) (T.1 10) (T.1 11) (T.1 12) (T.1 13) (T.1 14) (T.1 15) (T.1 16) (T.2 10) (T.2 11) (T.2 12) (T.2 13) (T.2 14) (T.2 15) (T.2 16) (T.2 17) (T.1 17) (T.2 18) (T.2 19) (T.2 20) (T.1 18) (T.2 21) (T.2 22) (T.2 23) (T.1 19) (T.2 24) (T.2 25) (T.2 26) (T.1 20) (T.2 27) (T.2 28) (T.2 29) (T.1 21) (T.1 22) (T.2 30) (T.2 31) (T.1 23) (T.1 24) (T.2 32) (T.2 33)) a b c d e (nI (n + 20)) := by
  refine ⟨xSA_mk, fun h => absurd (by rw [hn]; exact (e_len (by omega)).mpr hle) h, fun m hm hle2 => ?_⟩
  have : m = n := (nI_eq (by omega) (by omega)).mp (hm.symm.trans hn)
  subst this
  exact ⟨rfl, rfl, hb⟩
theorem mSA_mk {M : Nat → Nat → Int32} {t z : Nat → Int32} (hz : ∀ j, ¬ j = 0 → z j = M 1 j) : mSA M (mmk t z (M 2) (M 3) (M 4) (M 5) (M 6) (M 7) (M 8) (M 9)) := by
  refine ⟨fun i h1 h2 => ?_, hz⟩
  have : i = 2 ∨ i = 3 ∨ i = 4 ∨ i = 5 ∨ i = 6 ∨ i = 7 ∨ i = 8 ∨ i = 9 := by omega
  rcases this with rfl | rfl | rfl | rfl | rfl | rfl | rfl | rfl <;> rfl
theorem mFD_no {M : Nat → Nat → Int32} {a b c d e : Int32} (h : ¬ M 1 0 + 20 ≤ 600) : mFD M (mmk (M 0) (M 1) (M 2) (M 3) (M 4) (M 5) (M 6) (M 7) (M 8) (M 9)) a b c d e (-1) := ⟨mSA_mk (fun _ _ => rfl), fun _ => ⟨rfl, rfl, rfl⟩, fun n hn hle => absurd (by rw [hn]; exact (e_len (by omega)).mpr hle) h⟩
theorem mFD_yes {M : Nat → Nat → Int32} {a b c d e : Int32} {n : Nat} {t z : Nat → Int32} (hn : M 1 0 = nI n) (hle : n + 20 ≤ 600) (hb : B20 (M 0) t n a b c d e) (h0 : z 0 = nI (n + 20)) (hz : ∀ j, ¬ j = 0 → z j = M 1 j) : mFD M (mmk t z (M 2) (M 3) (M 4) (M 5) (M 6) (M 7) (M 8) (M 9)) a b c d e (nI (n + 20)) := by
  refine ⟨mSA_mk hz, fun h => absurd (by rw [hn]; exact (e_len (by omega)).mpr hle) h, fun m hm hle2 => ?_⟩
  have : m = n := (nI_eq (by omega) (by omega)).mp (hm.symm.trans hn)
  subst this
  exact ⟨rfl, h0, hb⟩
