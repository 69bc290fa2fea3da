/-- pure facts of a line -/
theorem lbr_f {B : Nat → Int32} {n r j : Nat} : ∀ d k, k < j → j ≤ k + d → ¬ tK B n (ps B n r j) = 2 → (∀ i, k < i → i < j → tK B n (ps B n r i) = 2) → lbr B n r d k = j
  | 0, k => fun h1 h2 _ _ => absurd h2 (by omega)
  | d + 1, k => fun h1 h2 h3 h4 => by
    unfold lbr
    by_cases hj : j = k + 1
    · subst hj
      rw [if_neg h3]
    · rw [if_pos (h4 (k + 1) (by omega) (by omega))]
      exact lbr_f d (k + 1) (by omega) (by omega) h3 (fun i a b => h4 i (by omega) b)
theorem lbr_t {B : Nat → Int32} {n r : Nat} : ∀ d k, (∀ j, k < j → j ≤ k + d → tK B n (ps B n r j) = 2) → lbr B n r d k = if tK B n (ps B n r (k + d + 1)) = 3 then 9 else k + d + 1
  | 0, k => fun _ => rfl
  | d + 1, k => fun h => by
    unfold lbr
    rw [if_pos (h (k + 1) (by omega) (by omega)), lbr_t d (k + 1) (fun j a b => h j (by omega) (by omega))]
    rw [show k + 1 + d + 1 = k + (d + 1) + 1 by omega]
theorem fu_ext {w : Nat} {td td' : Nat → Int32} (h : ∀ j, j < 132 → td j = td' j) : fu w td = fu w td' := by
  unfold fu
  rw [h 0 (by omega), h 1 (by omega), h 4 (by omega)]
theorem mkF_ext {B : Nat → Int32} {n r w : Nat} {td td' : Nat → Int32} {fa : Int32} (h : fu w td = fu w td') : ∀ k, mkF B n r w td fa k = mkF B n r w td' fa k
  | 0 => by unfold mkF; rw [h]
  | k + 1 => by unfold mkF; rw [mkF_ext h k]
theorem mkP_ext {B : Nat → Int32} {n r w : Nat} {td td' : Nat → Int32} {fa pl : Int32} (h : fu w td = fu w td') : ∀ k, mkP B n r w td fa pl k = mkP B n r w td' fa pl k
  | 0 => by unfold mkP; rw [h]
  | k + 1 => by unfold mkP; rw [mkF_ext h k, mkP_ext h k]
theorem mkP_ir {B : Nat → Int32} {n r w : Nat} {td : Nat → Int32} {fa lp pl : Int32} (h : ¬ fa = 0 → lp = pl) : ∀ k, ¬ mkF B n r w td fa k = 0 → mkP B n r w td fa lp k = mkP B n r w td fa pl k
  | 0 => fun hm => by
    unfold mkF mF at hm
    unfold mkP mP
    by_cases hc : (!fu w td) = true
    · rw [if_pos hc] at hm ⊢
      rw [if_pos hc]
      exact h hm
    · rw [if_neg hc, if_neg hc]
      by_cases hf : fa = 0
      · rw [if_pos hf, if_pos hf]
      · rw [if_neg hf, if_neg hf]; exact h hf
  | k + 1 => fun hm => by
    unfold mkF mF at hm
    unfold mkP mP
    by_cases hc : cW w k (tV B n (ps B n r 1)) (tV B n (ps B n r (k + 1))) = true
    · rw [if_pos hc] at hm ⊢
      rw [if_pos hc]
      exact mkP_ir h k hm
    · rw [if_neg hc, if_neg hc]
      by_cases hf : mkF B n r w td fa k = 0
      · rw [if_pos hf, if_pos hf]
      · rw [if_neg hf, if_neg hf]; exact mkP_ir h k hf
theorem upd_ext {f g : Nat → Int32} {k : Nat} {v v' : Int32} (h : ∀ j, j < 132 → f j = g j) (hv : k < 132 → v = v') : ∀ j, j < 132 → upd f k v j = upd g k v' j := by
  intro j hj
  by_cases hjk : j = k
  · subst hjk; rw [up_s, up_s]; exact hv hj
  · rw [up_n hjk, up_n hjk]; exact h j hj
theorem lD_ext {w : Nat} {g : Bool} {a b c : Int32} {td td' : Nat → Int32} (h : ∀ j, j < 132 → td j = td' j) : ∀ j, j < 132 → lD w g a b c td j = lD w g a b c td' j := by
  have h0 := h 0 (by omega)
  have h1 := h 1 (by omega)
  have h4 := h 4 (by omega)
  have ite_ext : ∀ (P : Prop) [Decidable P] (f g f' g' : Nat → Int32), (∀ j, j < 132 → f j = f' j) → (∀ j, j < 132 → g j = g' j) → ∀ j, j < 132 → (if P then f else g) j = (if P then f' else g') j := by
    intro P _ f g f' g' ha hb j hj
    by_cases hP : P
    · rw [if_pos hP, if_pos hP]; exact ha j hj
    · rw [if_neg hP, if_neg hP]; exact hb j hj
  unfold lD
  rw [h0, h1, h4, h 2 (by omega), h 3 (by omega)]
  refine ite_ext _ _ _ _ _ (ite_ext _ _ _ _ _ h (upd_ext (upd_ext h (fun _ => rfl)) (fun _ => rfl))) ?_
  refine ite_ext _ _ _ _ _ (upd_ext h (fun _ => rfl)) ?_
  refine ite_ext _ _ _ _ _ (upd_ext h (fun _ => rfl)) ?_
  refine ite_ext _ _ _ _ _ (upd_ext h (fun _ => rfl)) ?_
  refine ite_ext _ _ _ _ _ (upd_ext h (fun _ => rfl)) ?_
  refine ite_ext _ _ _ _ _ (ite_ext _ _ _ _ _ (upd_ext (upd_ext h (fun _ => rfl)) (fun _ => rfl)) h) ?_
  refine ite_ext _ _ _ _ _ (ite_ext _ _ _ _ _ h (upd_ext (upd_ext (upd_ext h (fun _ => rfl)) (fun _ => rfl)) (fun _ => rfl))) ?_
  refine ite_ext _ _ _ _ _ (ite_ext _ _ _ _ _ (upd_ext h (fun _ => rfl)) h) ?_
  refine ite_ext _ _ _ _ _ (ite_ext _ _ _ _ _ h (upd_ext (upd_ext (upd_ext h (fun _ => rfl)) (fun _ => rfl)) (fun _ => rfl))) ?_
  refine ite_ext _ _ _ _ _ (ite_ext _ _ _ _ _ (upd_ext h (fun hk => by rw [h _ hk])) h) ?_
  refine ite_ext _ _ _ _ _ (ite_ext _ _ _ _ _ h (upd_ext (upd_ext (upd_ext (upd_ext h (fun _ => rfl)) (fun _ => rfl)) (fun _ => rfl)) (fun _ => rfl))) ?_
  refine ite_ext _ _ _ _ _ (ite_ext _ _ _ _ _ h (upd_ext (upd_ext (upd_ext (upd_ext h (fun _ => rfl)) (fun _ => rfl)) (fun _ => rfl)) (fun _ => rfl))) ?_
  refine ite_ext _ _ _ _ _ (ite_ext _ _ _ _ _ h (upd_ext (upd_ext (upd_ext h (fun _ => rfl)) (fun _ => rfl)) (fun _ => rfl))) ?_
  exact upd_ext h (fun _ => rfl)
theorem iv_inc {x : Int32} {h : Nat} {m : Int32} (hx : iv 0 h x) (hm : m = nI h) (hh : h < 1000) (hne : ¬ x = m) : iv 0 h (x + 1) := by
  obtain ⟨k, rfl, -, hk, -⟩ := iv_nI hx (by decide)
  have : k ≠ h := fun e => hne (by rw [hm, e])
  rw [nI_1]
  exact iv_ofN (by omega) (by omega) (by omega)
theorem cl_ge {x : Int32} {l h : Int} {m : Nat} (hx : iv l h x) (hl : (m : Int) ≤ l) : m ≤ x.toNatClampNeg := by
  have e : x.toNatClampNeg = x.toInt.toNat := rfl
  have := hx.1
  omega
theorem iv_offs {c : Nat} {x : Int32} {h : Nat} (hx : iv 0 h x) (hc : c + h < 1000) : iv c (c + h : Nat) (nI c + x) := by
  obtain ⟨k, rfl, -, hk, -⟩ := iv_nI hx (by decide)
  rw [nI_add]
  exact iv_ofN (by omega) (by omega) (by omega)
/-- the counts stay in their bounds -/
theorem CB_lD {o w : Nat} {g : Bool} {a b c : Int32} {td : Nat → Int32} (ho : o ≤ 3) (hw : wlo o ≤ w ∧ w < wlo (o + 1)) (hC : CB o td) (h5 : g = true → iv 0 8 a ∧ (w = 5 → iv 0 8 b)) : CB o (lD w g a b c td) := by
  have far : ∀ (t : Nat → Int32) (i : Nat) (v : Int32), 5 ≤ i → ∀ j, j ≤ 4 → upd t i v j = t j := fun t i v hi j hj => up_n (by omega)
  have keep : ∀ t : Nat → Int32, (∀ j, j ≤ 4 → t j = td j) → CB o t := by
    intro t ht
    unfold CB
    rw [ht 0 (by omega), ht 1 (by omega), ht 4 (by omega)]
    exact hC
  have hoc : o = 0 ∨ o = 1 ∨ o = 2 ∨ o = 3 := by omega
  rcases hoc with rfl | rfl | rfl | rfl
  · have h1 : w < 10 := hw.2
    obtain ⟨c0, c14⟩ := hC
    obtain ⟨c1, c4⟩ := c14 rfl
    have c0' : iv 0 (9 : Nat) (td 0) := c0
    have c1' : iv 0 (6 : Nat) (td 1) := c1
    have c4' : iv 0 (4 : Nat) (td 4) := c4
    have hc : w = 0 ∨ w = 1 ∨ w = 2 ∨ w = 3 ∨ w = 4 ∨ w = 5 ∨ w = 6 ∨ w = 7 ∨ w = 8 ∨ w = 9 := by omega
    rcases hc with rfl | rfl | rfl | rfl | rfl | rfl | rfl | rfl | rfl | rfl
    · show CB 0 (if td 0 = 9 then td else upd (upd td 0 (td 0 + 1)) (Int32.toNatClampNeg (7 + td 0)) a)
      by_cases h9 : td 0 = 9
      · rw [if_pos h9]; exact keep td (fun _ _ => rfl)
      · rw [if_neg h9]
        have hi : 7 ≤ Int32.toNatClampNeg (7 + td 0) := cl_ge (iv_offs (c := 7) c0' (by omega)) (by omega)
        refine ⟨?_, fun _ => ⟨?_, ?_⟩⟩
        · rw [far _ _ _ (by omega) 0 (by omega), up_s]; exact iv_inc (h := 9) c0' rfl (by omega) h9
        · rw [far _ _ _ (by omega) 1 (by omega), up_n (by omega)]; exact c1
        · rw [far _ _ _ (by omega) 4 (by omega), up_n (by omega)]; exact c4
    · refine ⟨?_, fun _ => ⟨?_, ?_⟩⟩
      · exact c0
      · exact c1
      · exact c4
    · refine ⟨?_, fun _ => ⟨?_, ?_⟩⟩
      · exact c0
      · exact c1
      · exact c4
    · exact keep _ (far _ _ _ (by omega))
    · exact keep _ (far _ _ _ (by omega))
    · show CB 0 (if g = true then upd (upd td (Int32.toNatClampNeg ((51 + 9 * a) + b)) c) (Int32.toNatClampNeg ((51 + 9 * b) + a)) c else td)
      by_cases hg : g = true
      · rw [if_pos hg]
        obtain ⟨ha, hb⟩ := h5 hg
        have hb := hb rfl
        obtain ⟨p, rfl, -, hp, -⟩ := iv_nI ha (by decide)
        obtain ⟨q, rfl, -, hq, -⟩ := iv_nI hb (by decide)
        rw [ix9, ix9, nI_clamp (by omega), nI_clamp (by omega)]
        exact keep _ (fun j hj => by rw [far _ _ _ (by omega) j hj, far _ _ _ (by omega) j hj])
      · rw [if_neg hg]; exact keep td (fun _ _ => rfl)
    · show CB 0 (if td 4 = 4 then td else upd (upd (upd td 4 (td 4 + 1)) (Int32.toNatClampNeg (43 + 2 * td 4)) a) (Int32.toNatClampNeg (43 + 2 * td 4 + 1)) b)
      by_cases h9 : td 4 = 4
      · rw [if_pos h9]; exact keep td (fun _ _ => rfl)
      · rw [if_neg h9]
        have hinc := iv_inc c4' (m := 4) rfl (by omega) h9
        obtain ⟨k, hk, -, hk4, -⟩ := iv_nI c4' (by decide)
        have i1 : Int32.toNatClampNeg (43 + 2 * td 4) = 43 + 2 * k := by rw [hk, show (43 : Int32) = nI 43 from rfl, show (2 : Int32) = nI 2 from rfl, pk_mul, nI_add, nI_clamp (by omega)]
        have i2 : Int32.toNatClampNeg (43 + 2 * td 4 + 1) = 43 + 2 * k + 1 := by rw [hk, show (43 : Int32) = nI 43 from rfl, show (2 : Int32) = nI 2 from rfl, pk_mul, nI_add, nI_1, nI_clamp (by omega)]
        rw [i1, i2]
        refine ⟨?_, fun _ => ⟨?_, ?_⟩⟩
        · rw [far _ _ _ (by omega) 0 (by omega), far _ _ _ (by omega) 0 (by omega), up_n (by omega)]; exact c0
        · rw [far _ _ _ (by omega) 1 (by omega), far _ _ _ (by omega) 1 (by omega), up_n (by omega)]; exact c1
        · rw [far _ _ _ (by omega) 4 (by omega), far _ _ _ (by omega) 4 (by omega), up_s]; exact hinc
    · show CB 0 (if g = true then upd td (Int32.toNatClampNeg (16 + a)) b else td)
      by_cases hg : g = true
      · rw [if_pos hg]
        have hi : 16 ≤ Int32.toNatClampNeg (16 + a) := cl_ge (iv_offs (c := 16) (h := 8) (h5 hg).1 (by omega)) (by omega)
        exact keep _ (far _ _ _ (by omega))
      · rw [if_neg hg]; exact keep td (fun _ _ => rfl)
    · show CB 0 (if td 1 = 6 then td else upd (upd (upd td 1 (td 1 + 1)) (Int32.toNatClampNeg (25 + td 1)) a) (Int32.toNatClampNeg (31 + td 1)) b)
      by_cases h9 : td 1 = 6
      · rw [if_pos h9]; exact keep td (fun _ _ => rfl)
      · rw [if_neg h9]
        have hi : 25 ≤ Int32.toNatClampNeg (25 + td 1) := cl_ge (iv_offs (c := 25) c1' (by omega)) (by omega)
        have hi2 : 31 ≤ Int32.toNatClampNeg (31 + td 1) := cl_ge (iv_offs (c := 31) c1' (by omega)) (by omega)
        refine ⟨?_, fun _ => ⟨?_, ?_⟩⟩
        · rw [far _ _ _ (by omega) 0 (by omega), far _ _ _ (by omega) 0 (by omega), up_n (by omega)]; exact c0
        · rw [far _ _ _ (by omega) 1 (by omega), far _ _ _ (by omega) 1 (by omega), up_s]; exact iv_inc (h := 6) c1' rfl (by omega) h9
        · rw [far _ _ _ (by omega) 4 (by omega), far _ _ _ (by omega) 4 (by omega), up_n (by omega)]; exact c4
    · show CB 0 (if g = true then upd td (Int32.toNatClampNeg (37 + a)) (td (Int32.toNatClampNeg (37 + a)) ||| 1 <<< (b &&& 31)) else td)
      by_cases hg : g = true
      · rw [if_pos hg]
        have hi : 37 ≤ Int32.toNatClampNeg (37 + a) := cl_ge (iv_offs (c := 37) (h := 8) (h5 hg).1 (by omega)) (by omega)
        exact keep _ (far _ _ _ (by omega))
      · rw [if_neg hg]; exact keep td (fun _ _ => rfl)
  · have h1 : w < 16 := hw.2
    have h2 : 10 ≤ w := hw.1
    have c0' : iv 0 (40 : Nat) (td 0) := hC.1
    have e : lD w g a b c td = (if td 0 = 40 then td else upd (upd (upd (upd td 0 (td 0 + 1)) (Int32.toNatClampNeg ((1 + 3 * td 0) + 0)) (nI (w - 10))) (Int32.toNatClampNeg ((1 + 3 * td 0) + 1)) a) (Int32.toNatClampNeg ((1 + 3 * td 0) + 2)) (if w < 14 then b else -1)) := by
      unfold lD
      rw [if_neg (by omega), if_neg (by omega), if_neg (by omega), if_neg (by omega), if_neg (by omega), if_neg (by omega), if_neg (by omega), if_neg (by omega), if_neg (by omega), if_neg (by omega), if_pos (by omega)]
    rw [e]
    by_cases h9 : td 0 = 40
    · rw [if_pos h9]; exact hC
    · rw [if_neg h9]
      obtain ⟨k, hk, -, hk4, -⟩ := iv_nI c0' (by decide)
      have i0 : ∀ i : Nat, i ≤ 2 → Int32.toNatClampNeg ((1 + 3 * td 0) + nI i) = 1 + 3 * k + i := fun i hi => by rw [hk, show (1 : Int32) = nI 1 from rfl, show (3 : Int32) = nI 3 from rfl, jx2, nI_clamp (by omega)]
      refine ⟨?_, fun h => absurd h (by decide)⟩
      rw [show (2 : Int32) = nI 2 from rfl, i0 2 (by omega), up_n (by omega)]
      rw [show Int32.toNatClampNeg ((1 + 3 * td 0) + 1) = 1 + 3 * k + 1 from i0 1 (by omega), up_n (by omega)]
      rw [show Int32.toNatClampNeg ((1 + 3 * td 0) + 0) = 1 + 3 * k + 0 from i0 0 (by omega), up_n (by omega), up_s]
      exact iv_inc (h := 40) c0' rfl (by omega) h9
  · have h1 : w < 18 := hw.2
    have h2 : 16 ≤ w := hw.1
    have c0' : iv 0 (10 : Nat) (td 0) := hC.1
    have e : lD w g a b c td = (if td 0 = 10 then td else upd (upd (upd (upd td 0 (td 0 + 1)) (Int32.toNatClampNeg ((1 + 3 * td 0) + 0)) (if w = 16 then 1 else 0)) (Int32.toNatClampNeg ((1 + 3 * td 0) + 1)) a) (Int32.toNatClampNeg ((1 + 3 * td 0) + 2)) b) := by
      unfold lD
      rw [if_neg (by omega), if_neg (by omega), if_neg (by omega), if_neg (by omega), if_neg (by omega), if_neg (by omega), if_neg (by omega), if_neg (by omega), if_neg (by omega), if_neg (by omega), if_neg (by omega), if_pos (by omega)]
    rw [e]
    by_cases h9 : td 0 = 10
    · rw [if_pos h9]; exact hC
    · rw [if_neg h9]
      obtain ⟨k, hk, -, hk4, -⟩ := iv_nI c0' (by decide)
      have i0 : ∀ i : Nat, i ≤ 2 → Int32.toNatClampNeg ((1 + 3 * td 0) + nI i) = 1 + 3 * k + i := fun i hi => by rw [hk, show (1 : Int32) = nI 1 from rfl, show (3 : Int32) = nI 3 from rfl, jx2, nI_clamp (by omega)]
      refine ⟨?_, fun h => absurd h (by decide)⟩
      rw [show (2 : Int32) = nI 2 from rfl, i0 2 (by omega), up_n (by omega)]
      rw [show Int32.toNatClampNeg ((1 + 3 * td 0) + 1) = 1 + 3 * k + 1 from i0 1 (by omega), up_n (by omega)]
      rw [show Int32.toNatClampNeg ((1 + 3 * td 0) + 0) = 1 + 3 * k + 0 from i0 0 (by omega), up_n (by omega), up_s]
      exact iv_inc (h := 10) c0' rfl (by omega) h9
  · have h1 : w < 20 := hw.2
    have h2 : 18 ≤ w := hw.1
    have c0' : iv 0 (9 : Nat) (td 0) := hC.1
    have hc : w = 18 ∨ w = 19 := by omega
    rcases hc with rfl | rfl
    · show CB 3 (if td 0 = 9 then td else upd (upd (upd td 0 (td 0 + 1)) (Int32.toNatClampNeg ((1 + 2 * td 0) + 0)) a) (Int32.toNatClampNeg ((1 + 2 * td 0) + 1)) b)
      by_cases h9 : td 0 = 9
      · rw [if_pos h9]; exact hC
      · rw [if_neg h9]
        obtain ⟨k, hk, -, hk4, -⟩ := iv_nI c0' (by decide)
        have i0 : ∀ i : Nat, i ≤ 2 → Int32.toNatClampNeg ((1 + 2 * td 0) + nI i) = 1 + 2 * k + i := fun i hi => by rw [hk, show (1 : Int32) = nI 1 from rfl, show (2 : Int32) = nI 2 from rfl, jx2, nI_clamp (by omega)]
        refine ⟨?_, fun h => absurd h (by decide)⟩
        rw [show Int32.toNatClampNeg ((1 + 2 * td 0) + 1) = 1 + 2 * k + 1 from i0 1 (by omega), up_n (by omega)]
        rw [show Int32.toNatClampNeg ((1 + 2 * td 0) + 0) = 1 + 2 * k + 0 from i0 0 (by omega), up_n (by omega), up_s]
        exact iv_inc (h := 9) c0' rfl (by omega) h9
    · exact ⟨by show iv 0 _ (upd td 19 a 0); rw [up_n (by omega)]; exact hC.1, fun h => absurd h (by decide)⟩
