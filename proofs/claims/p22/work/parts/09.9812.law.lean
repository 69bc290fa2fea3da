theorem TS_kp {E : zE} {t : Nat} {H H1 : Heap} (h : TS E t H) (hk : ∀ z : Nat, z < H.size → t ≤ z → z < t + 1 → H1[z]? = H[z]?) : TS E t H1 := by
  obtain ⟨z, h⟩ := h
  exact ⟨z, zkp h zRg_1 hk⟩
theorem TS_lt {E : zE} {t : Nat} {H : Heap} (h : TS E t H) : t + 1 ≤ H.size := by
  obtain ⟨z, h⟩ := h
  exact (h 0 _ rfl).lt
/-- the images and the table beside the object -/
def lE (E : zE) (lo : Nat) (mi : Nat → Option Nat) (ko : Option Nat) (H : Heap) : Prop :=
  (∀ j, j < 3 → ∀ q, mi j = some q → lo ≤ q ∧ IS E q H) ∧ (∀ j k, j < 3 → k < 3 → j ≠ k → ∀ q r, mi j = some q → mi k = some r → q + 47 ≤ r ∨ r + 47 ≤ q) ∧ (∀ t, ko = some t → lo ≤ t ∧ TS E t H) ∧ (∀ j, j < 3 → ∀ q t, mi j = some q → ko = some t → q + 47 ≤ t ∨ t + 1 ≤ q)
theorem lE_kp {E : zE} {lo : Nat} {mi : Nat → Option Nat} {ko : Option Nat} {H H1 : Heap} (h : lE E lo mi ko H) (hk : ∀ z : Nat, z < H.size → lo ≤ z → H1[z]? = H[z]?) : lE E lo mi ko H1 :=
  ⟨fun j hj q e => ⟨(h.1 j hj q e).1, IS_kp (h.1 j hj q e).2 (fun z h1 h2 _ => hk z h1 (Nat.le_trans (h.1 j hj q e).1 h2))⟩, h.2.1, fun t e => ⟨(h.2.2.1 t e).1, TS_kp (h.2.2.1 t e).2 (fun z h1 h2 _ => hk z h1 (Nat.le_trans (h.2.2.1 t e).1 h2))⟩, h.2.2.2⟩
def GG (E : zE) (bx bm : Nat) (mi : Nat → Option Nat) (ko : Option Nat) (H : Heap) : Prop := XS E bx mi ko H ∧ MS E bm H ∧ lE E (bm + 29) mi ko H
theorem zidx {i L k : Nat} {v : Int32} (hi : i + 6 ≤ L) (hL : L ≤ 3072) (hv : nI k = v) (hk : k < 6) : vp_in (nI i + v) L := by
  rw [← hv, nI_add]
  exact vp_in_nI (by omega) (by omega)
theorem zcmp (x : Int64) : lg_cmp x x = 0 := by unfold lg_cmp; simp
theorem hd_lt {L i : Nat} (hL : L ≤ 3072) (hi : i ≤ 6000) : Int32.ofNat L - 6 < nI i ↔ L < i + 6 := by
  have e1 : iv L L (Int32.ofNat L) := iv_ofN (by omega) (by omega) (by omega)
  have e2 : iv (L - 6) (L - 6) (Int32.ofNat L - 6) := iv_sub e1 (iv_lit (x := 6) (l := 6) (h := 6) (by decide)) (by omega)
  have e3 : iv i i (nI i) := iv_ofN (by omega) (by omega) (by omega)
  rw [Int32.lt_iff_toInt_lt]
  unfold iv at e2 e3
  omega
theorem zap {a n b q : Nat} (h : a + n ≤ b) (h1 : b ≤ q) (h2 : q < a + n) : False := by omega
theorem lE_tab {E : zE} {lo bx : Nat} {mi : Nat → Option Nat} {o : Option Nat} {H H1 : Heap} (hE : lE E lo mi none H) (hlo : bx + 93 ≤ lo) (hloH : lo ≤ H.size) (hk : ∀ q : Nat, q < H.size → ¬ zImA bx H.size q → H1[q]? = H[q]?) (ho : o = none ∨ ∃ a t, o = some a ∧ H.size ≤ a ∧ k0T E a t H1) : lE E lo mi o H1 := by
  have kz : ∀ z : Nat, z < H.size → lo ≤ z → H1[z]? = H[z]? := fun z h1 h2 => hk z h1 (fun hA => by unfold zImA zR at hA; omega)
  have h0 := lE_kp hE kz
  refine ⟨h0.1, h0.2.1, fun t e => ?_, fun j hj q t e1 e2 => ?_⟩
  · rcases ho with rfl | ⟨a, z, rfl, h1, h2⟩
    · cases e
    · cases e
      exact ⟨Nat.le_trans hloH h1, z, h2⟩
  · rcases ho with rfl | ⟨a, z, rfl, h1, h2⟩
    · cases e2
    · cases e2
      exact Or.inl (Nat.le_trans (IS_lt (hE.1 j hj q e1).2) h1)
theorem lE_tab2 {E : zE} {lo bx t : Nat} {mi : Nat → Option Nat} {z : Nat → Int32} {H H1 : Heap} (hE : lE E lo mi (some t) H) (hlo : bx + 93 ≤ lo) (hk : ∀ q : Nat, q < H.size → ¬ wxtA bx t q → H1[q]? = H[q]?) (hT : k0T E t z H1) : lE E lo mi (some t) H1 := by
  refine ⟨fun j hj q e => ?_, hE.2.1, fun r e => ?_, hE.2.2.2⟩
  · have h1 := hE.1 j hj q e
    have h2 := hE.2.2.2 j hj q t e rfl
    exact ⟨h1.1, IS_kp h1.2 (fun z a b c => hk z a (fun hA => by have := h1.1; unfold wxtA at hA; omega))⟩
  · cases e
    exact ⟨(hE.2.2.1 t rfl).1, z, hT⟩
theorem lE_img2 {E : zE} {lo bx j q : Nat} {mi : Nat → Option Nat} {ko : Option Nat} {H H1 : Heap} (hE : lE E lo mi ko H) (hlo : bx + 93 ≤ lo) (hj : j < 3) (hm : mi j = some q) (hk : ∀ z : Nat, z < H.size → ¬ ((bx ≤ z ∧ z < bx + 93) ∨ (q ≤ z ∧ z < q + 47)) → H1[z]? = H[z]?) (hI : IS E q H1) : lE E lo mi ko H1 := by
  refine ⟨fun k hk3 r e => ?_, hE.2.1, fun t e => ?_, hE.2.2.2⟩
  · by_cases hjk : k = j
    · subst hjk
      rw [hm] at e
      cases e
      exact ⟨(hE.1 k hk3 _ hm).1, hI⟩
    · have h1 := hE.1 k hk3 r e
      have h2 := hE.2.1 k j hk3 hj hjk r q e hm
      exact ⟨h1.1, IS_kp h1.2 (fun z a b c => hk z a (by have := h1.1; omega))⟩
  · have h1 := hE.2.2.1 t e
    have h2 := hE.2.2.2 j hj q t hm e
    exact ⟨h1.1, TS_kp h1.2 (fun z a b c => hk z a (by have := h1.1; omega))⟩
theorem lE_img {E : zE} {lo bx j : Nat} {mi : Nat → Option Nat} {ko : Option Nat} {H H1 : Heap} (hE : lE E lo mi ko H) (hlo : bx + 93 ≤ lo) (hloH : lo ≤ H.size) (hk : ∀ q : Nat, q < H.size → ¬ zImA bx H.size q → H1[q]? = H[q]?) (hI : IS E H.size H1) : lE E lo (va_up mi j (some H.size)) ko H1 := by
  have kz : ∀ z : Nat, z < H.size → lo ≤ z → H1[z]? = H[z]? := fun z h1 h2 => hk z h1 (fun hA => by unfold zImA zR at hA; omega)
  have h0 := lE_kp hE kz
  refine ⟨fun k hk3 r e => ?_, fun k1 k2 h1 h2 hne q r e1 e2 => ?_, h0.2.2.1, fun k hk3 q t e1 e2 => ?_⟩
  · by_cases hkj : k = j
    · subst hkj
      rw [va_up_self] at e
      cases e
      exact ⟨hloH, hI⟩
    · rw [va_up_ne _ _ hkj] at e
      exact h0.1 k hk3 r e
  · by_cases hk1 : k1 = j
    · subst hk1
      rw [va_up_self] at e1
      cases e1
      rw [va_up_ne _ _ (fun h => hne h.symm)] at e2
      exact Or.inr (IS_lt (hE.1 k2 h2 r e2).2)
    · rw [va_up_ne _ _ hk1] at e1
      by_cases hk2 : k2 = j
      · subst hk2
        rw [va_up_self] at e2
        cases e2
        exact Or.inl (IS_lt (hE.1 k1 h1 q e1).2)
      · rw [va_up_ne _ _ hk2] at e2
        exact hE.2.1 k1 k2 h1 h2 hne q r e1 e2
  · by_cases hkj : k = j
    · subst hkj
      rw [va_up_self] at e1
      cases e1
      exact Or.inr (TS_lt (hE.2.2.1 t e2).2)
    · rw [va_up_ne _ _ hkj] at e1
      exact hE.2.2.2 k hk3 q t e1 e2
