section
theorem al1 {P : Nat → Prop} (h1 : P 1) : ∀ j, 1 ≤ j → j ≤ 1 → P j := fun j a b => by
  have : j = 1 := by omega
  subst this; exact h1
theorem al2 {P : Nat → Prop} (h1 : P 1) (h2 : P 2) : ∀ j, 1 ≤ j → j ≤ 2 → P j := fun j a b => by
  have : j = 1 ∨ j = 2 := by omega
  rcases this with rfl | rfl
  · exact h1
  · exact h2
theorem al3 {P : Nat → Prop} (h1 : P 1) (h2 : P 2) (h3 : P 3) : ∀ j, 1 ≤ j → j ≤ 3 → P j := fun j a b => by
  have : j = 1 ∨ j = 2 ∨ j = 3 := by omega
  rcases this with rfl | rfl | rfl
  · exact h1
  · exact h2
  · exact h3
theorem be1 {P : Nat → Prop} : ∀ j, 1 ≤ j → j < 1 → P j := fun j a b => absurd b (by omega)
theorem be2 {P : Nat → Prop} (h1 : P 1) : ∀ j, 1 ≤ j → j < 2 → P j := fun j a b => al1 h1 j a (by omega)
theorem be3 {P : Nat → Prop} (h1 : P 1) (h2 : P 2) : ∀ j, 1 ≤ j → j < 3 → P j := fun j a b => al2 h1 h2 j a (by omega)
def gI (b : Bool) : Int32 := if b = true then 1 else 0
theorem sI_2 : ∀ k, k ≤ 4 → (sI k = 2 ↔ k = 1) := by decide
theorem sI_3 : ∀ k, k ≤ 4 → (sI k = 3 ↔ k = 2) := by decide
theorem sI_4 : ∀ k, k ≤ 4 → (sI k = 4 ↔ k = 3) := by decide
theorem sI_0 : ∀ k, k ≤ 4 → (sI k = 0 ↔ k = 0) := by decide
theorem e_later {c : Bool} {lf lp f pl : Int32} {post : Int32 → Int32 → Prop} (hc : c = false) (hlp : ¬ lf = 0 → lp < pl) (h : post (mF c lf f) (mP c lf lp pl)) : q_m_later_0 lf lp f pl post := by
  unfold mF mP at h
  rw [hc] at h
  have hb : ¬ (false = true) := by decide
  rw [if_neg hb, if_neg hb] at h
  refine ⟨fun h9 => ?_, fun h9 => ?_⟩
  · rw [if_pos h9, if_pos h9] at h; exact h
  · rw [if_neg h9, if_neg h9] at h
    have hl := r_lt (hlp h9)
    refine ⟨fun h8 => absurd (r_lt h8) (by omega), fun _ => ⟨fun _ => h, fun h8 => ?_⟩⟩
    rw [h8] at hl
    omega
theorem LP_n {c : Bool} {lf lp f : Int32} {F F' : Nat} (hlp : ¬ lf = 0 → lp < nI F) (h1 : F < F') (h2 : F' ≤ 600) : ¬ mF c lf f = 0 → mP c lf lp (nI F) < nI F' := by
  intro hm
  have hFF : nI F < nI F' := nI_lt h1 (by omega)
  unfold mF at hm
  unfold mP
  by_cases hc : c = true
  · rw [if_pos hc] at hm ⊢
    exact Int32.lt_trans (hlp hm) hFF
  · rw [if_neg hc] at hm ⊢
    by_cases hl : lf = 0
    · rw [if_pos hl]; exact hFF
    · rw [if_neg hl]; exact Int32.lt_trans (hlp hl) hFF
theorem LP_s {lf lp : Int32} {F F' : Nat} (hlp : ¬ lf = 0 → lp < nI F) (h1 : F ≤ F') (h2 : F' ≤ 600) : ¬ lf = 0 → lp < nI F' := fun h => Int32.lt_of_lt_of_le (hlp h) (nI_le h1 (by omega))
theorem tF_nx {B : Nat → Int32} {n p : Nat} (hp : p ≤ n) (hK : ¬ tK B n p = 0) : tF B n p < tF B n (tN B n p) ∧ tF B n (tN B n p) ≤ n := by
  have h := tk_le (B := B) hp
  have h2 := tF_le (B := B) h.2.1
  have := h.2.2.1 hK
  omega
theorem e_greater {a b : Int32} {post : Int32 → Prop} (h : post (gr a b)) : q_m_greater_0 a b post := by
  unfold gr at h
  refine ⟨fun c => ?_, fun c => ?_⟩
  · rw [if_neg (Int32.not_lt.mpr c)] at h; exact h
  · rw [if_pos (Int32.not_le.mp c)] at h; exact h
theorem e_takeBut {tp B rd : Nat → Int32} {n r k i : Nat} {va wr lf lp lo hi but : Int32} {wd : Int64} {g c : Bool} {post : Int32 → Int32 → Int32 → Int32 → Int32 → Int64 → Int32 → Int32 → Int32 → (Nat → Int32) → Int32 → Prop} (hn : n ≤ 600) (hr : r ≤ n) (hB : ∀ j, j < n → tp j = B j) (hb : ∀ j, iv (-128) 127 (B j)) (hv : tK B n (ps B n r k) = 2 → va = (tV B n (ps B n r k))) (hlp : ¬ lf = 0 → lp < (nI (tF B n (ps B n r k)))) (hi3 : i < 3) (hc : c = cb lo hi but (tV B n (ps B n r k)))
    (h0 : ¬ tK B n (ps B n r k) = 2 → post 0 (nI (tN B n (ps B n r k))) (nI (tF B n (ps B n r k))) (sI (tK B n (ps B n r k))) va wd (nI (tF B n (ps B n r k))) lf lp rd (gI g))
    (h1 : tK B n (ps B n r k) = 2 → ∀ (va' : Int32) (wd' : Int64), (tK B n (ps B n r (k + 1)) = 2 → va' = (tV B n (ps B n r (k + 1)))) → (¬ mF c lf 2 = 0 → mP c lf lp (nI (tF B n (ps B n r k))) < (nI (tF B n (ps B n r (k + 1))))) → post 1 (nI (tN B n (ps B n r (k + 1)))) (nI (tF B n (ps B n r (k + 1)))) (sI (tK B n (ps B n r (k + 1)))) va' wd' wr (mF c lf 2) (mP c lf lp (nI (tF B n (ps B n r k)))) (upd rd i (tV B n (ps B n r k))) (gI (g && c))) : q_m_takeBut_0 tp (nI (tN B n (ps B n r k))) (nI n) (nI (tF B n (ps B n r k))) (sI (tK B n (ps B n r k))) va wd wr lf lp rd (gI g) (nI i) lo hi but post := by
  have hps := ps_le (B := B) hr k
  have hk := tk_le (B := B) hps.2
  refine ⟨fun h3 => ?_, fun h3 => ⟨rfl, h0 (fun h9 => h3 ((sI_3 _ hk.2.2.2.2).mpr h9))⟩⟩
  have hK := (sI_3 _ hk.2.2.2.2).mp h3
  have hF := tF_nx (B := B) hps.2 (by omega)
  refine ⟨vp_in_nI hi3 (by omega), fun rd1 e1 => ?_⟩
  rw [nI_clamp (by omega), hv hK] at e1
  rw [hv hK]
  have hgg : c = true → g = (g && c) := fun h => by rw [h, Bool.and_true]
  have hg0 : c = false → (0 : Int32) = gI (g && c) := fun h => by rw [h, Bool.and_false]; rfl
  have bad : c = false → q_m_takeBut_44 tp (nI (tN B n (ps B n r k))) (nI n) (nI (tF B n (ps B n r k))) (sI (tK B n (ps B n r k))) (tV B n (ps B n r k)) wd wr lf lp rd1 (gI g) post := by
    intro hcf
    refine e_later hcf hlp ?_
    refine e_tok (r := tN B n (ps B n r k)) hn hk.2.1 hB hb (fun v w hv2 _ => ?_)
    rw [e1, hg0 hcf]
    exact h1 hK v w hv2 (LP_n hlp hF.1 (Nat.le_trans hF.2 hn))
  refine sp_in (fun hnot => iz (bad (by rw [hc]; exact decide_eq_false (fun h9 => hnot ⟨h9.1, h9.2.1⟩)))) (fun a b => oi ⟨fun hne => ?_, fun he => bad (by rw [hc]; exact decide_eq_false (fun h9 => h9.2.2 he))⟩)
  have hct : c = true := by rw [hc]; exact decide_eq_true ⟨a, b, hne⟩
  refine e_tok (r := tN B n (ps B n r k)) hn hk.2.1 hB hb (fun v w hv2 _ => ?_)
  have g2 := h1 hK v w hv2 (LP_n hlp hF.1 (Nat.le_trans hF.2 hn))
  rw [← hgg hct, hct, mF_t, mP_t] at g2
  rw [e1]
  exact g2
theorem e_take {tp B rd : Nat → Int32} {n r k i : Nat} {va wr lf lp lo hi : Int32} {wd : Int64} {g c : Bool} {post : Int32 → Int32 → Int32 → Int32 → Int32 → Int64 → Int32 → Int32 → Int32 → (Nat → Int32) → Int32 → Prop} (hn : n ≤ 600) (hr : r ≤ n) (hB : ∀ j, j < n → tp j = B j) (hb : ∀ j, iv (-128) 127 (B j)) (hv : tK B n (ps B n r k) = 2 → va = (tV B n (ps B n r k))) (hlp : ¬ lf = 0 → lp < (nI (tF B n (ps B n r k)))) (hi3 : i < 3) (hc : c = cb lo hi (-1) (tV B n (ps B n r k)))
    (h0 : ¬ tK B n (ps B n r k) = 2 → post 0 (nI (tN B n (ps B n r k))) (nI (tF B n (ps B n r k))) (sI (tK B n (ps B n r k))) va wd (nI (tF B n (ps B n r k))) lf lp rd (gI g))
    (h1 : tK B n (ps B n r k) = 2 → ∀ (va' : Int32) (wd' : Int64), (tK B n (ps B n r (k + 1)) = 2 → va' = (tV B n (ps B n r (k + 1)))) → (¬ mF c lf 2 = 0 → mP c lf lp (nI (tF B n (ps B n r k))) < (nI (tF B n (ps B n r (k + 1))))) → post 1 (nI (tN B n (ps B n r (k + 1)))) (nI (tF B n (ps B n r (k + 1)))) (sI (tK B n (ps B n r (k + 1)))) va' wd' wr (mF c lf 2) (mP c lf lp (nI (tF B n (ps B n r k)))) (upd rd i (tV B n (ps B n r k))) (gI (g && c))) : q_m_take_0 tp (nI (tN B n (ps B n r k))) (nI n) (nI (tF B n (ps B n r k))) (sI (tK B n (ps B n r k))) va wd wr lf lp rd (gI g) (nI i) lo hi post :=
  e_takeBut hn hr hB hb hv hlp hi3 hc (fun h => ⟨rfl, h0 h⟩) (fun h v w a b => ⟨rfl, h1 h v w a b⟩)
theorem e_takeHut {tp B rd : Nat → Int32} {n r k i : Nat} {va wr lf lp fh but : Int32} {wd : Int64} {g c : Bool} {post : Int32 → Int32 → Int32 → Int32 → Int32 → Int64 → Int32 → Int32 → Int32 → (Nat → Int32) → Int32 → Int32 → Prop} (hn : n ≤ 600) (hr : r ≤ n) (hB : ∀ j, j < n → tp j = B j) (hb : ∀ j, iv (-128) 127 (B j)) (hv : tK B n (ps B n r k) = 2 → va = (tV B n (ps B n r k))) (hlp : ¬ lf = 0 → lp < (nI (tF B n (ps B n r k)))) (hi3 : i < 3) (hc : c = cb 0 8 but (tV B n (ps B n r k)))
    (h0 : ¬ tK B n (ps B n r k) = 2 → post 0 (nI (tN B n (ps B n r k))) (nI (tF B n (ps B n r k))) (sI (tK B n (ps B n r k))) va wd (nI (tF B n (ps B n r k))) lf lp rd fh (gI g))
    (h1 : tK B n (ps B n r k) = 2 → ∀ (va' : Int32) (wd' : Int64), (tK B n (ps B n r (k + 1)) = 2 → va' = (tV B n (ps B n r (k + 1)))) → (¬ mF c lf 2 = 0 → mP c lf lp (nI (tF B n (ps B n r k))) < (nI (tF B n (ps B n r (k + 1))))) → post 1 (nI (tN B n (ps B n r (k + 1)))) (nI (tF B n (ps B n r (k + 1)))) (sI (tK B n (ps B n r (k + 1)))) va' wd' wr (mF c lf 2) (mP c lf lp (nI (tF B n (ps B n r k)))) (upd rd i (tV B n (ps B n r k))) (gr fh (tV B n (ps B n r k))) (gI (g && c))) : q_m_takeHut_0 tp (nI (tN B n (ps B n r k))) (nI n) (nI (tF B n (ps B n r k))) (sI (tK B n (ps B n r k))) va wd wr lf lp rd fh (gI g) (nI i) but post := by
  refine e_takeBut hn hr hB hb hv hlp hi3 hc (fun h => zi (h0 h)) (fun h v w a b => io ⟨vp_in_nI hi3 (by omega), ?_⟩)
  rw [nI_clamp (by omega), up_s]
  exact e_greater (h1 h v w a b)
theorem e_further {td : Nat → Int32} {c : Nat} {M : Int32} {post : Int32 → (Nat → Int32) → Prop} (hc : c < 132) (h0 : td c = M → post (-1) td) (h1 : ¬ td c = M → post (td c) (upd td c (td c + 1))) : q_m_further_0 td (nI c) M post := by
  have hin : vp_in (nI c) 132 := vp_in_nI hc (by omega)
  refine ⟨hin, fun v e => ?_⟩
  rw [nI_clamp (by omega)] at e ⊢
  subst e
  refine ⟨fun h => ⟨hin, fun v2 e2 => ⟨hin, fun t e3 => ?_⟩⟩, fun h => h0 h⟩
  subst e2 e3
  exact h1 h
theorem e_full {td : Nat → Int32} {c : Nat} {M lf lp x : Int32} {b : Bool} {post : Int32 → Int32 → Prop} (hc : c < 132) (hb : b = decide (td c = M)) (hlp : ¬ lf = 0 → lp < x) (h : post (mF (!b) lf 3) (mP (!b) lf lp x)) : q_m_full_0 lf lp td (nI c) M x post := by
  refine ⟨vp_in_nI hc (by omega), ?_⟩
  rw [nI_clamp (by omega)]
  refine ⟨fun h9 => ?_, fun h9 => ?_⟩
  · have e : b = false := by rw [hb]; exact decide_eq_false h9
    rw [e] at h
    exact h
  · have e : b = true := by rw [hb]; exact decide_eq_true h9
    rw [e] at h
    exact e_later (c := !true) rfl hlp h
def kp (td rd : Nat → Int32) (W : Nat) : Nat → Nat → Int32
  | 0 => upd td 0 (td 0 + 1)
  | i + 1 => upd (kp td rd W i) (Int32.toNatClampNeg ((1 + nI W * td 0) + nI i)) (rd i)
theorem e_keep {td rd : Nat → Int32} {W : Nat} {M : Int32} {post : (Nat → Int32) → Prop} (hW : W ≤ 3) (hM : iv 0 40 (td 0)) (h0 : td 0 = M → post td) (h1 : ¬ td 0 = M → post (kp td rd W W)) : q_m_keep_0 td rd (nI W) M post := by
  refine e_further (c := 0) (by omega) (fun h => ?_) (fun h => ?_)
  · intro P hP
    apply hP
    exact pk_le W 0 (fun _ => h0 h) (fun _ => ⟨fun _ => h0 h, fun h9 => absurd rfl h9⟩)
  · have hm : ¬ td 0 = -1 := fun h9 => by
      have := hM.1
      rw [h9] at this
      exact absurd this (by decide)
    obtain ⟨k, hk, -, hk2, -⟩ := iv_nI hM (by decide)
    intro P hP
    have loop : ∀ d i, d + i = W → P (nI i) (kp td rd W i) := by
      intro d
      induction d with
      | zero =>
        intro i hd
        apply hP
        refine pk_le W i (fun _ => ?_) (fun h9 => absurd h9 (by omega))
        have e : i = W := by omega
        rw [e]
        exact h1 h
      | succ d ih =>
        intro i hd
        apply hP
        have hix : ((1 : Int32) + nI W * td 0) + nI i = nI (1 + W * k + i) := by rw [hk]; exact jx2 1 W k i
        have hlt : 1 + W * k + i < 132 := by
          have : W * k ≤ 3 * 40 := Nat.mul_le_mul hW (by omega)
          omega
        refine pk_le W i (fun h9 => absurd h9 (by omega)) (fun _ => ⟨fun h9 => absurd h9 hm, fun _ => ⟨vp_in_nI (by omega) (by omega), fun v e => ⟨by rw [hix]; exact vp_in_nI hlt (by omega), fun t e2 v2 e3 => ?_⟩⟩⟩)
        rw [nI_clamp (by omega)] at e
        rw [e3, nI_1, e2, e]
        exact ih (i + 1) (by omega)
    exact loop W 0 (by omega)
set_option maxRecDepth 20000 in
theorem e_hutLine {tp B rd td : Nat → Int32} {n r : Nat} {va wr fa pl : Int32} {wd : Int64} {post : Int32 → Int32 → Int32 → Int32 → Int32 → Int64 → Int32 → Int32 → Int32 → (Nat → Int32) → (Nat → Int32) → Int32 → Prop} (hn : n ≤ 600) (hr : r ≤ n) (hB : ∀ j, j < n → tp j = B j) (hb : ∀ j, iv (-128) 127 (B j)) (hv : tK B n (ps B n r 1) = 2 → va = (tV B n (ps B n r 1))) (hlp : ¬ mkF B n r 0 td fa 0 = 0 → mkP B n r 0 td fa pl 0 < (nI (tF B n (ps B n r 1)))) (hC : iv 0 9 (td 0))
    (hF : ∀ j, 1 ≤ j → j ≤ 1 → ¬ tK B n (ps B n r j) = 2 → (∀ i, 1 ≤ i → i < j → tK B n (ps B n r i) = 2) → ∀ (re be so va : Int32) (wd : Int64) (lf lp : Int32) (td rd : Nat → Int32) (gd : Int32), post 0 re be so va wd (nI (tF B n (ps B n r j))) lf lp td rd gd)
    (hT : (∀ j, 1 ≤ j → j ≤ 1 → tK B n (ps B n r j) = 2) → ∀ (va' : Int32) (wd' : Int64) (rd' : Nat → Int32) (gd' : Int32), (¬ mkF B n r 0 td fa 1 = 0 → mkP B n r 0 td fa pl 1 < (nI (tF B n (ps B n r 2)))) → post 1 (nI (tN B n (ps B n r 2))) (nI (tF B n (ps B n r 2))) (sI (tK B n (ps B n r 2))) va' wd' wr (mkF B n r 0 td fa 1) (mkP B n r 0 td fa pl 1) (lD 0 (gd B n r 0 1) (tV B n (ps B n r 1)) (tV B n (ps B n r 2)) (tV B n (ps B n r 3)) td) rd' gd') : q_m_hutLine_0 tp (nI (tN B n (ps B n r 1))) (nI n) (nI (tF B n (ps B n r 1))) (sI (tK B n (ps B n r 1))) va wd wr (mkF B n r 0 td fa 0) (mkP B n r 0 td fa pl 0) td rd 1 post := by
  refine e_take (k := 1) (i := 0) (c := cW 0 0 (tV B n (ps B n r 1)) (tV B n (ps B n r 1))) (g := gd B n r 0 0) hn hr hB hb hv hlp (by omega) rfl (fun hk => zi (hF 1 (by omega) (by omega) hk (be1 (P := fun j => tK B n (ps B n r j) = 2)) _ _ _ _ _ _ _ _ _ _)) (fun k1 va1 wd1 hv1 hl1 => io ?_)
  have g := hT (al1 (P := fun j => tK B n (ps B n r j) = 2) k1) va1 wd1 (upd rd 0 (tV B n (ps B n r 1))) (gI (gd B n r 0 1)) hl1
  rw [show lD 0 (gd B n r 0 1) (tV B n (ps B n r 1)) (tV B n (ps B n r 2)) (tV B n (ps B n r 3)) td = (if td 0 = 9 then td else upd (upd td 0 (td 0 + 1)) (Int32.toNatClampNeg (7 + td 0)) (tV B n (ps B n r 1))) from rfl] at g
  refine e_further (c := 0) (by omega) (fun h => ⟨fun _ => ?_, fun h9 => absurd rfl h9⟩) (fun h => ⟨fun h9 => ?_, fun _ v e => ⟨iv_in (iv_add (l := 7) (h := 16) (iv_lit (x := 7) (l := 7) (h := 7) (by decide)) hC (by decide)) (by decide), fun t2 e2 => ?_⟩⟩)
  · rw [if_pos h] at g; exact g
  · have := hC.1
    rw [h9] at this
    exact absurd this (by decide)
  · rw [if_neg h] at g
    rw [c_0, up_s] at e
    rw [e2, e]
    exact g
set_option maxRecDepth 20000 in
theorem e_plainLine_3 {tp B rd td : Nat → Int32} {n r : Nat} {va wr fa pl : Int32} {wd : Int64} {post : Int32 → Int32 → Int32 → Int32 → Int32 → Int64 → Int32 → Int32 → Int32 → (Nat → Int32) → (Nat → Int32) → Int32 → Prop} (hn : n ≤ 600) (hr : r ≤ n) (hB : ∀ j, j < n → tp j = B j) (hb : ∀ j, iv (-128) 127 (B j)) (hv : tK B n (ps B n r 1) = 2 → va = (tV B n (ps B n r 1))) (hlp : ¬ mkF B n r 3 td fa 0 = 0 → mkP B n r 3 td fa pl 0 < (nI (tF B n (ps B n r 1)))) 
    (hF : ∀ j, 1 ≤ j → j ≤ 1 → ¬ tK B n (ps B n r j) = 2 → (∀ i, 1 ≤ i → i < j → tK B n (ps B n r i) = 2) → ∀ (re be so va : Int32) (wd : Int64) (lf lp : Int32) (td rd : Nat → Int32) (gd : Int32), post 0 re be so va wd (nI (tF B n (ps B n r j))) lf lp td rd gd)
    (hT : (∀ j, 1 ≤ j → j ≤ 1 → tK B n (ps B n r j) = 2) → ∀ (va' : Int32) (wd' : Int64) (rd' : Nat → Int32) (gd' : Int32), (¬ mkF B n r 3 td fa 1 = 0 → mkP B n r 3 td fa pl 1 < (nI (tF B n (ps B n r 2)))) → post 1 (nI (tN B n (ps B n r 2))) (nI (tF B n (ps B n r 2))) (sI (tK B n (ps B n r 2))) va' wd' wr (mkF B n r 3 td fa 1) (mkP B n r 3 td fa pl 1) (lD 3 (gd B n r 3 1) (tV B n (ps B n r 1)) (tV B n (ps B n r 2)) (tV B n (ps B n r 3)) td) rd' gd') : q_m_plainLine_0 tp (nI (tN B n (ps B n r 1))) (nI n) (nI (tF B n (ps B n r 1))) (sI (tK B n (ps B n r 1))) va wd wr (mkF B n r 3 td fa 0) (mkP B n r 3 td fa pl 0) td rd 1 5 1 9 post := by
  refine e_take (k := 1) (i := 0) (c := cW 3 0 (tV B n (ps B n r 1)) (tV B n (ps B n r 1))) (g := gd B n r 3 0) hn hr hB hb hv hlp (by omega) rfl (fun hk => zi (hF 1 (by omega) (by omega) hk (be1 (P := fun j => tK B n (ps B n r j) = 2)) _ _ _ _ _ _ _ _ _ _)) (fun k1 va1 wd1 hv1 hl1 => io ?_)
  have g := hT (al1 (P := fun j => tK B n (ps B n r j) = 2) k1) va1 wd1 (upd rd 0 (tV B n (ps B n r 1))) (gI (gd B n r 3 1)) hl1
  refine fun v e => ⟨vp_in_nI (n := 5) (by decide) (by decide), fun t2 e2 => ?_⟩
  rw [c_0, up_s] at e
  rw [e2, e]
  exact g
set_option maxRecDepth 20000 in
theorem e_plainLine_4 {tp B rd td : Nat → Int32} {n r : Nat} {va wr fa pl : Int32} {wd : Int64} {post : Int32 → Int32 → Int32 → Int32 → Int32 → Int64 → Int32 → Int32 → Int32 → (Nat → Int32) → (Nat → Int32) → Int32 → Prop} (hn : n ≤ 600) (hr : r ≤ n) (hB : ∀ j, j < n → tp j = B j) (hb : ∀ j, iv (-128) 127 (B j)) (hv : tK B n (ps B n r 1) = 2 → va = (tV B n (ps B n r 1))) (hlp : ¬ mkF B n r 4 td fa 0 = 0 → mkP B n r 4 td fa pl 0 < (nI (tF B n (ps B n r 1)))) 
    (hF : ∀ j, 1 ≤ j → j ≤ 1 → ¬ tK B n (ps B n r j) = 2 → (∀ i, 1 ≤ i → i < j → tK B n (ps B n r i) = 2) → ∀ (re be so va : Int32) (wd : Int64) (lf lp : Int32) (td rd : Nat → Int32) (gd : Int32), post 0 re be so va wd (nI (tF B n (ps B n r j))) lf lp td rd gd)
    (hT : (∀ j, 1 ≤ j → j ≤ 1 → tK B n (ps B n r j) = 2) → ∀ (va' : Int32) (wd' : Int64) (rd' : Nat → Int32) (gd' : Int32), (¬ mkF B n r 4 td fa 1 = 0 → mkP B n r 4 td fa pl 1 < (nI (tF B n (ps B n r 2)))) → post 1 (nI (tN B n (ps B n r 2))) (nI (tF B n (ps B n r 2))) (sI (tK B n (ps B n r 2))) va' wd' wr (mkF B n r 4 td fa 1) (mkP B n r 4 td fa pl 1) (lD 4 (gd B n r 4 1) (tV B n (ps B n r 1)) (tV B n (ps B n r 2)) (tV B n (ps B n r 3)) td) rd' gd') : q_m_plainLine_0 tp (nI (tN B n (ps B n r 1))) (nI n) (nI (tF B n (ps B n r 1))) (sI (tK B n (ps B n r 1))) va wd wr (mkF B n r 4 td fa 0) (mkP B n r 4 td fa pl 0) td rd 1 6 0 10 post := by
  refine e_take (k := 1) (i := 0) (c := cW 4 0 (tV B n (ps B n r 1)) (tV B n (ps B n r 1))) (g := gd B n r 4 0) hn hr hB hb hv hlp (by omega) rfl (fun hk => zi (hF 1 (by omega) (by omega) hk (be1 (P := fun j => tK B n (ps B n r j) = 2)) _ _ _ _ _ _ _ _ _ _)) (fun k1 va1 wd1 hv1 hl1 => io ?_)
  have g := hT (al1 (P := fun j => tK B n (ps B n r j) = 2) k1) va1 wd1 (upd rd 0 (tV B n (ps B n r 1))) (gI (gd B n r 4 1)) hl1
  refine fun v e => ⟨vp_in_nI (n := 6) (by decide) (by decide), fun t2 e2 => ?_⟩
  rw [c_0, up_s] at e
  rw [e2, e]
  exact g
set_option maxRecDepth 20000 in
theorem e_plainLine_19 {tp B rd td : Nat → Int32} {n r : Nat} {va wr fa pl : Int32} {wd : Int64} {post : Int32 → Int32 → Int32 → Int32 → Int32 → Int64 → Int32 → Int32 → Int32 → (Nat → Int32) → (Nat → Int32) → Int32 → Prop} (hn : n ≤ 600) (hr : r ≤ n) (hB : ∀ j, j < n → tp j = B j) (hb : ∀ j, iv (-128) 127 (B j)) (hv : tK B n (ps B n r 1) = 2 → va = (tV B n (ps B n r 1))) (hlp : ¬ mkF B n r 19 td fa 0 = 0 → mkP B n r 19 td fa pl 0 < (nI (tF B n (ps B n r 1)))) 
    (hF : ∀ j, 1 ≤ j → j ≤ 1 → ¬ tK B n (ps B n r j) = 2 → (∀ i, 1 ≤ i → i < j → tK B n (ps B n r i) = 2) → ∀ (re be so va : Int32) (wd : Int64) (lf lp : Int32) (td rd : Nat → Int32) (gd : Int32), post 0 re be so va wd (nI (tF B n (ps B n r j))) lf lp td rd gd)
    (hT : (∀ j, 1 ≤ j → j ≤ 1 → tK B n (ps B n r j) = 2) → ∀ (va' : Int32) (wd' : Int64) (rd' : Nat → Int32) (gd' : Int32), (¬ mkF B n r 19 td fa 1 = 0 → mkP B n r 19 td fa pl 1 < (nI (tF B n (ps B n r 2)))) → post 1 (nI (tN B n (ps B n r 2))) (nI (tF B n (ps B n r 2))) (sI (tK B n (ps B n r 2))) va' wd' wr (mkF B n r 19 td fa 1) (mkP B n r 19 td fa pl 1) (lD 19 (gd B n r 19 1) (tV B n (ps B n r 1)) (tV B n (ps B n r 2)) (tV B n (ps B n r 3)) td) rd' gd') : q_m_plainLine_0 tp (nI (tN B n (ps B n r 1))) (nI n) (nI (tF B n (ps B n r 1))) (sI (tK B n (ps B n r 1))) va wd wr (mkF B n r 19 td fa 0) (mkP B n r 19 td fa pl 0) td rd 1 19 0 9 post := by
  refine e_take (k := 1) (i := 0) (c := cW 19 0 (tV B n (ps B n r 1)) (tV B n (ps B n r 1))) (g := gd B n r 19 0) hn hr hB hb hv hlp (by omega) rfl (fun hk => zi (hF 1 (by omega) (by omega) hk (be1 (P := fun j => tK B n (ps B n r j) = 2)) _ _ _ _ _ _ _ _ _ _)) (fun k1 va1 wd1 hv1 hl1 => io ?_)
  have g := hT (al1 (P := fun j => tK B n (ps B n r j) = 2) k1) va1 wd1 (upd rd 0 (tV B n (ps B n r 1))) (gI (gd B n r 19 1)) hl1
  refine fun v e => ⟨vp_in_nI (n := 19) (by decide) (by decide), fun t2 e2 => ?_⟩
  rw [c_0, up_s] at e
  rw [e2, e]
  exact g
set_option maxRecDepth 20000 in
theorem e_bitLine_1 {tp B rd td : Nat → Int32} {n r : Nat} {va wr fa pl fh : Int32} {wd : Int64} {post : Int32 → Int32 → Int32 → Int32 → Int32 → Int64 → Int32 → Int32 → Int32 → (Nat → Int32) → (Nat → Int32) → Int32 → Int32 → Prop} (hn : n ≤ 600) (hr : r ≤ n) (hB : ∀ j, j < n → tp j = B j) (hb : ∀ j, iv (-128) 127 (B j)) (hv : tK B n (ps B n r 1) = 2 → va = (tV B n (ps B n r 1))) (hlp : ¬ mkF B n r 1 td fa 0 = 0 → mkP B n r 1 td fa pl 0 < (nI (tF B n (ps B n r 1)))) 
    (hF : ∀ j, 1 ≤ j → j ≤ 1 → ¬ tK B n (ps B n r j) = 2 → (∀ i, 1 ≤ i → i < j → tK B n (ps B n r i) = 2) → ∀ (re be so va : Int32) (wd : Int64) (lf lp : Int32) (td rd : Nat → Int32) (fh : Int32) (gd : Int32), post 0 re be so va wd (nI (tF B n (ps B n r j))) lf lp td rd fh gd)
    (hT : (∀ j, 1 ≤ j → j ≤ 1 → tK B n (ps B n r j) = 2) → ∀ (va' : Int32) (wd' : Int64) (rd' : Nat → Int32) (gd' : Int32), (¬ mkF B n r 1 td fa 1 = 0 → mkP B n r 1 td fa pl 1 < (nI (tF B n (ps B n r 2)))) → post 1 (nI (tN B n (ps B n r 2))) (nI (tF B n (ps B n r 2))) (sI (tK B n (ps B n r 2))) va' wd' wr (mkF B n r 1 td fa 1) (mkP B n r 1 td fa pl 1) (lD 1 (gd B n r 1 1) (tV B n (ps B n r 1)) (tV B n (ps B n r 2)) (tV B n (ps B n r 3)) td) rd' (lH 1 (tV B n (ps B n r 1)) (tV B n (ps B n r 2)) fh) gd') : q_m_bitLine_0 tp (nI (tN B n (ps B n r 1))) (nI n) (nI (tF B n (ps B n r 1))) (sI (tK B n (ps B n r 1))) va wd wr (mkF B n r 1 td fa 0) (mkP B n r 1 td fa pl 0) td rd fh 1 2 post := by
  refine e_takeHut (k := 1) (i := 0) (c := cW 1 0 (tV B n (ps B n r 1)) (tV B n (ps B n r 1))) (g := gd B n r 1 0) hn hr hB hb hv hlp (by omega) rfl (fun hk => zi (hF 1 (by omega) (by omega) hk (be1 (P := fun j => tK B n (ps B n r j) = 2)) _ _ _ _ _ _ _ _ _ _ _)) (fun k1 va1 wd1 hv1 hl1 => io ?_)
  have g := hT (al1 (P := fun j => tK B n (ps B n r j) = 2) k1) va1 wd1 (upd rd 0 (tV B n (ps B n r 1))) (gI (gd B n r 1 1)) hl1
  rw [show lD 1 (gd B n r 1 1) (tV B n (ps B n r 1)) (tV B n (ps B n r 2)) (tV B n (ps B n r 3)) td = upd td 2 (td 2 ||| (if gd B n r 1 1 = true then 1 <<< ((tV B n (ps B n r 1)) &&& 31) else 0)) from rfl] at g
  refine ⟨vp_in_nI (n := 2) (by decide) (by decide), fun h => ?_, fun h => ?_⟩
  · have hg : ¬ gd B n r 1 1 = true := fun h9 => by
      have h8 : gI (gd B n r 1 1) = 0 := h
      rw [h9] at h8
      exact absurd h8 (by decide)
    rw [if_neg hg] at g
    intro v e
    refine ⟨vp_in_nI (n := 2) (by decide) (by decide), fun t2 e2 => ?_⟩
    rw [e2, e]
    exact g
  · have hg : gd B n r 1 1 = true := by
      cases hh : gd B n r 1 1 with
      | true => rfl
      | false =>
        have h8 : ¬ gI (gd B n r 1 1) = 0 := h
        rw [hh] at h8
        exact absurd rfl h8
    rw [if_pos hg] at g
    rw [c_0, up_s]
    intro v e
    refine ⟨vp_in_nI (n := 2) (by decide) (by decide), fun t2 e2 => ?_⟩
    rw [e2, e]
    exact g
set_option maxRecDepth 20000 in
theorem e_bitLine_2 {tp B rd td : Nat → Int32} {n r : Nat} {va wr fa pl fh : Int32} {wd : Int64} {post : Int32 → Int32 → Int32 → Int32 → Int32 → Int64 → Int32 → Int32 → Int32 → (Nat → Int32) → (Nat → Int32) → Int32 → Int32 → Prop} (hn : n ≤ 600) (hr : r ≤ n) (hB : ∀ j, j < n → tp j = B j) (hb : ∀ j, iv (-128) 127 (B j)) (hv : tK B n (ps B n r 1) = 2 → va = (tV B n (ps B n r 1))) (hlp : ¬ mkF B n r 2 td fa 0 = 0 → mkP B n r 2 td fa pl 0 < (nI (tF B n (ps B n r 1)))) 
    (hF : ∀ j, 1 ≤ j → j ≤ 1 → ¬ tK B n (ps B n r j) = 2 → (∀ i, 1 ≤ i → i < j → tK B n (ps B n r i) = 2) → ∀ (re be so va : Int32) (wd : Int64) (lf lp : Int32) (td rd : Nat → Int32) (fh : Int32) (gd : Int32), post 0 re be so va wd (nI (tF B n (ps B n r j))) lf lp td rd fh gd)
    (hT : (∀ j, 1 ≤ j → j ≤ 1 → tK B n (ps B n r j) = 2) → ∀ (va' : Int32) (wd' : Int64) (rd' : Nat → Int32) (gd' : Int32), (¬ mkF B n r 2 td fa 1 = 0 → mkP B n r 2 td fa pl 1 < (nI (tF B n (ps B n r 2)))) → post 1 (nI (tN B n (ps B n r 2))) (nI (tF B n (ps B n r 2))) (sI (tK B n (ps B n r 2))) va' wd' wr (mkF B n r 2 td fa 1) (mkP B n r 2 td fa pl 1) (lD 2 (gd B n r 2 1) (tV B n (ps B n r 1)) (tV B n (ps B n r 2)) (tV B n (ps B n r 3)) td) rd' (lH 2 (tV B n (ps B n r 1)) (tV B n (ps B n r 2)) fh) gd') : q_m_bitLine_0 tp (nI (tN B n (ps B n r 1))) (nI n) (nI (tF B n (ps B n r 1))) (sI (tK B n (ps B n r 1))) va wd wr (mkF B n r 2 td fa 0) (mkP B n r 2 td fa pl 0) td rd fh 1 3 post := by
  refine e_takeHut (k := 1) (i := 0) (c := cW 2 0 (tV B n (ps B n r 1)) (tV B n (ps B n r 1))) (g := gd B n r 2 0) hn hr hB hb hv hlp (by omega) rfl (fun hk => zi (hF 1 (by omega) (by omega) hk (be1 (P := fun j => tK B n (ps B n r j) = 2)) _ _ _ _ _ _ _ _ _ _ _)) (fun k1 va1 wd1 hv1 hl1 => io ?_)
  have g := hT (al1 (P := fun j => tK B n (ps B n r j) = 2) k1) va1 wd1 (upd rd 0 (tV B n (ps B n r 1))) (gI (gd B n r 2 1)) hl1
  rw [show lD 2 (gd B n r 2 1) (tV B n (ps B n r 1)) (tV B n (ps B n r 2)) (tV B n (ps B n r 3)) td = upd td 3 (td 3 ||| (if gd B n r 2 1 = true then 1 <<< ((tV B n (ps B n r 1)) &&& 31) else 0)) from rfl] at g
  refine ⟨vp_in_nI (n := 3) (by decide) (by decide), fun h => ?_, fun h => ?_⟩
  · have hg : ¬ gd B n r 2 1 = true := fun h9 => by
      have h8 : gI (gd B n r 2 1) = 0 := h
      rw [h9] at h8
      exact absurd h8 (by decide)
    rw [if_neg hg] at g
    intro v e
    refine ⟨vp_in_nI (n := 3) (by decide) (by decide), fun t2 e2 => ?_⟩
    rw [e2, e]
    exact g
  · have hg : gd B n r 2 1 = true := by
      cases hh : gd B n r 2 1 with
      | true => rfl
      | false =>
        have h8 : ¬ gI (gd B n r 2 1) = 0 := h
        rw [hh] at h8
        exact absurd rfl h8
    rw [if_pos hg] at g
    rw [c_0, up_s]
    intro v e
    refine ⟨vp_in_nI (n := 3) (by decide) (by decide), fun t2 e2 => ?_⟩
    rw [e2, e]
    exact g
theorem gd_c {B : Nat → Int32} {n r w : Nat} : ∀ k, gd B n r w k = true → ∀ j, j < k → cW w j (tV B n (ps B n r 1)) (tV B n (ps B n r (j + 1))) = true
  | 0 => fun _ j hj => absurd hj (by omega)
  | k + 1 => fun h j hj => by
    have h2 : (gd B n r w k && cW w k (tV B n (ps B n r 1)) (tV B n (ps B n r (k + 1)))) = true := h
    rw [Bool.and_eq_true] at h2
    by_cases hjk : j = k
    · subst hjk; exact h2.2
    · exact gd_c k h2.1 j (by omega)
set_option maxRecDepth 20000 in
theorem e_wayLine {tp B rd td : Nat → Int32} {n r : Nat} {va wr fa pl fh : Int32} {wd : Int64} {post : Int32 → Int32 → Int32 → Int32 → Int32 → Int64 → Int32 → Int32 → Int32 → (Nat → Int32) → (Nat → Int32) → Int32 → Int32 → Prop} (hn : n ≤ 600) (hr : r ≤ n) (hB : ∀ j, j < n → tp j = B j) (hb : ∀ j, iv (-128) 127 (B j)) (hv : tK B n (ps B n r 1) = 2 → va = (tV B n (ps B n r 1))) (hlp : ¬ mkF B n r 5 td fa 0 = 0 → mkP B n r 5 td fa pl 0 < (nI (tF B n (ps B n r 1)))) 
    (hF : ∀ j, 1 ≤ j → j ≤ 3 → ¬ tK B n (ps B n r j) = 2 → (∀ i, 1 ≤ i → i < j → tK B n (ps B n r i) = 2) → ∀ (re be so va : Int32) (wd : Int64) (lf lp : Int32) (td rd : Nat → Int32) (fh : Int32) (gd : Int32), post 0 re be so va wd (nI (tF B n (ps B n r j))) lf lp td rd fh gd)
    (hT : (∀ j, 1 ≤ j → j ≤ 3 → tK B n (ps B n r j) = 2) → ∀ (va' : Int32) (wd' : Int64) (rd' : Nat → Int32) (gd' : Int32), (¬ mkF B n r 5 td fa 3 = 0 → mkP B n r 5 td fa pl 3 < (nI (tF B n (ps B n r 4)))) → post 1 (nI (tN B n (ps B n r 4))) (nI (tF B n (ps B n r 4))) (sI (tK B n (ps B n r 4))) va' wd' wr (mkF B n r 5 td fa 3) (mkP B n r 5 td fa pl 3) (lD 5 (gd B n r 5 3) (tV B n (ps B n r 1)) (tV B n (ps B n r 2)) (tV B n (ps B n r 3)) td) rd' (lH 5 (tV B n (ps B n r 1)) (tV B n (ps B n r 2)) fh) gd') : q_m_wayLine_0 tp (nI (tN B n (ps B n r 1))) (nI n) (nI (tF B n (ps B n r 1))) (sI (tK B n (ps B n r 1))) va wd wr (mkF B n r 5 td fa 0) (mkP B n r 5 td fa pl 0) td rd fh 1 post := by
  refine e_takeHut (k := 1) (i := 0) (c := cW 5 0 (tV B n (ps B n r 1)) (tV B n (ps B n r 1))) (g := gd B n r 5 0) hn hr hB hb hv hlp (by omega) rfl (fun hk => iz (hF 1 (by omega) (by omega) hk (be1 (P := fun j => tK B n (ps B n r j) = 2)) _ _ _ _ _ _ _ _ _ _ _)) (fun k1 va1 wd1 hv1 hl1 => oi ?_)
  refine e_takeHut (k := 2) (i := 1) (c := cW 5 1 (tV B n (ps B n r 1)) (tV B n (ps B n r 2))) (g := gd B n r 5 1) hn hr hB hb hv1 hl1 (by omega) (by rw [c_0, up_s]; rfl) (fun hk => iz (hF 2 (by omega) (by omega) hk (be2 (P := fun j => tK B n (ps B n r j) = 2) k1) _ _ _ _ _ _ _ _ _ _ _)) (fun k2 va2 wd2 hv2 hl2 => oi ?_)
  refine e_take (k := 3) (i := 2) (c := cW 5 2 (tV B n (ps B n r 1)) (tV B n (ps B n r 3))) (g := gd B n r 5 2) hn hr hB hb hv2 hl2 (by omega) rfl (fun hk => zi (hF 3 (by omega) (by omega) hk (be3 (P := fun j => tK B n (ps B n r j) = 2) k1 k2) _ _ _ _ _ _ _ _ _ _ _)) (fun k3 va3 wd3 hv3 hl3 => io ?_)
  have hgt : ¬ gI (gd B n r 5 3) = 0 → gd B n r 5 3 = true := fun h => by
    cases hh : gd B n r 5 3 with
    | true => rfl
    | false => rw [hh] at h; exact absurd rfl h
  have hgf : gI (gd B n r 5 3) = 0 → ¬ gd B n r 5 3 = true := fun h h9 => by
    rw [h9] at h
    exact absurd h (by decide)
  have g := hT (al3 (P := fun j => tK B n (ps B n r j) = 2) k1 k2 k3) va3 wd3 (upd (upd (upd rd 0 (tV B n (ps B n r 1))) 1 (tV B n (ps B n r 2))) 2 (tV B n (ps B n r 3))) (gI (gd B n r 5 3)) hl3
  rw [show lD 5 (gd B n r 5 3) (tV B n (ps B n r 1)) (tV B n (ps B n r 2)) (tV B n (ps B n r 3)) td = (if gd B n r 5 3 = true then upd (upd td (Int32.toNatClampNeg ((51 + 9 * (tV B n (ps B n r 1))) + (tV B n (ps B n r 2)))) (tV B n (ps B n r 3))) (Int32.toNatClampNeg ((51 + 9 * (tV B n (ps B n r 2))) + (tV B n (ps B n r 1)))) (tV B n (ps B n r 3)) else td) from rfl] at g
  have r0 : (upd (upd (upd rd 0 (tV B n (ps B n r 1))) 1 (tV B n (ps B n r 2))) 2 (tV B n (ps B n r 3))) 0 = (tV B n (ps B n r 1)) := by rw [up_n (by omega), up_n (by omega), up_s]
  have r1 : (upd (upd (upd rd 0 (tV B n (ps B n r 1))) 1 (tV B n (ps B n r 2))) 2 (tV B n (ps B n r 3))) 1 = (tV B n (ps B n r 2)) := by rw [up_n (by omega), up_s]
  have r2 : (upd (upd (upd rd 0 (tV B n (ps B n r 1))) 1 (tV B n (ps B n r 2))) 2 (tV B n (ps B n r 3))) 2 = (tV B n (ps B n r 3)) := up_s
  refine ⟨fun h => ?_, fun h => ?_⟩
  · rw [if_neg (hgf h)] at g; exact g
  · have hg := hgt h
    rw [if_pos hg] at g
    rw [c_0, c_1, c_2, r0, r1, r2]
    have i1 : iv 0 8 (tV B n (ps B n r 1)) := iv_w (cW_iv (gd_c 3 hg 0 (by omega))) (by decide +kernel)
    have i2 : iv 0 8 (tV B n (ps B n r 2)) := iv_w (cW_iv (gd_c 3 hg 1 (by omega))) (by decide +kernel)
    have m1 : iv 0 72 (9 * (tV B n (ps B n r 1))) := iv_mul (l := 0) (h := 72) (iv_lit (x := 9) (l := 9) (h := 9) (by decide)) i1 (by decide)
    have m2 : iv 0 72 (9 * (tV B n (ps B n r 2))) := iv_mul (l := 0) (h := 72) (iv_lit (x := 9) (l := 9) (h := 9) (by decide)) i2 (by decide)
    have s1 : iv 51 131 ((51 + 9 * (tV B n (ps B n r 1))) + (tV B n (ps B n r 2))) := iv_add (l := 51) (h := 131) (iv_add (l := 51) (h := 123) (iv_lit (x := 51) (l := 51) (h := 51) (by decide)) m1 (by decide)) i2 (by decide)
    have s2 : iv 51 131 ((51 + 9 * (tV B n (ps B n r 2))) + (tV B n (ps B n r 1))) := iv_add (l := 51) (h := 131) (iv_add (l := 51) (h := 123) (iv_lit (x := 51) (l := 51) (h := 51) (by decide)) m2 (by decide)) i1 (by decide)
    refine fun v e => ⟨iv_in s1 (by decide), fun t1 e1 v2 e2 => ⟨iv_in s2 (by decide), fun t2 e3 => ?_⟩⟩
    rw [e3, e2, e1, e]
    exact g
set_option maxRecDepth 20000 in
theorem e_echoLine {tp B rd td : Nat → Int32} {n r : Nat} {va wr fa pl fh : Int32} {wd : Int64} {post : Int32 → Int32 → Int32 → Int32 → Int32 → Int64 → Int32 → Int32 → Int32 → (Nat → Int32) → (Nat → Int32) → Int32 → Int32 → Prop} (hn : n ≤ 600) (hr : r ≤ n) (hB : ∀ j, j < n → tp j = B j) (hb : ∀ j, iv (-128) 127 (B j)) (hv : tK B n (ps B n r 1) = 2 → va = (tV B n (ps B n r 1))) (hlp : ¬ mkF B n r 6 td fa 0 = 0 → mkP B n r 6 td fa pl 0 < (nI (tF B n (ps B n r 1)))) (hC : iv 0 4 (td 4))
    (hF : ∀ j, 1 ≤ j → j ≤ 2 → ¬ tK B n (ps B n r j) = 2 → (∀ i, 1 ≤ i → i < j → tK B n (ps B n r i) = 2) → ∀ (re be so va : Int32) (wd : Int64) (lf lp : Int32) (td rd : Nat → Int32) (fh : Int32) (gd : Int32), post 0 re be so va wd (nI (tF B n (ps B n r j))) lf lp td rd fh gd)
    (hT : (∀ j, 1 ≤ j → j ≤ 2 → tK B n (ps B n r j) = 2) → ∀ (va' : Int32) (wd' : Int64) (rd' : Nat → Int32) (gd' : Int32), (¬ mkF B n r 6 td fa 2 = 0 → mkP B n r 6 td fa pl 2 < (nI (tF B n (ps B n r 3)))) → post 1 (nI (tN B n (ps B n r 3))) (nI (tF B n (ps B n r 3))) (sI (tK B n (ps B n r 3))) va' wd' wr (mkF B n r 6 td fa 2) (mkP B n r 6 td fa pl 2) (lD 6 (gd B n r 6 2) (tV B n (ps B n r 1)) (tV B n (ps B n r 2)) (tV B n (ps B n r 3)) td) rd' (lH 6 (tV B n (ps B n r 1)) (tV B n (ps B n r 2)) fh) gd') : q_m_echoLine_0 tp (nI (tN B n (ps B n r 1))) (nI n) (nI (tF B n (ps B n r 1))) (sI (tK B n (ps B n r 1))) va wd wr (mkF B n r 6 td fa 0) (mkP B n r 6 td fa pl 0) td rd fh 1 post := by
  refine e_takeHut (k := 1) (i := 0) (c := cW 6 0 (tV B n (ps B n r 1)) (tV B n (ps B n r 1))) (g := gd B n r 6 0) hn hr hB hb hv hlp (by omega) rfl (fun hk => iz (hF 1 (by omega) (by omega) hk (be1 (P := fun j => tK B n (ps B n r j) = 2)) _ _ _ _ _ _ _ _ _ _ _)) (fun k1 va1 wd1 hv1 hl1 => oi ?_)
  refine e_takeHut (k := 2) (i := 1) (c := cW 6 1 (tV B n (ps B n r 1)) (tV B n (ps B n r 2))) (g := gd B n r 6 1) hn hr hB hb hv1 hl1 (by omega) (by rw [c_0, up_s]; rfl) (fun hk => zi (hF 2 (by omega) (by omega) hk (be2 (P := fun j => tK B n (ps B n r j) = 2) k1) _ _ _ _ _ _ _ _ _ _ _)) (fun k2 va2 wd2 hv2 hl2 => io ?_)
  have r0 : (upd (upd rd 0 (tV B n (ps B n r 1))) 1 (tV B n (ps B n r 2))) 0 = (tV B n (ps B n r 1)) := by rw [up_n (by omega), up_s]
  have r1 : (upd (upd rd 0 (tV B n (ps B n r 1))) 1 (tV B n (ps B n r 2))) 1 = (tV B n (ps B n r 2)) := up_s
  have g := hT (al2 (P := fun j => tK B n (ps B n r j) = 2) k1 k2) va2 wd2 (upd (upd rd 0 (tV B n (ps B n r 1))) 1 (tV B n (ps B n r 2))) (gI (gd B n r 6 2)) hl2
  rw [show lD 6 (gd B n r 6 2) (tV B n (ps B n r 1)) (tV B n (ps B n r 2)) (tV B n (ps B n r 3)) td = (if td 4 = 4 then td else upd (upd (upd td 4 (td 4 + 1)) (Int32.toNatClampNeg (43 + 2 * td 4)) (tV B n (ps B n r 1))) (Int32.toNatClampNeg ((43 + 2 * td 4) + 1)) (tV B n (ps B n r 2))) from rfl] at g
  have m1 : iv 0 8 (2 * td 4) := iv_mul (l := 0) (h := 8) (iv_lit (x := 2) (l := 2) (h := 2) (by decide)) hC (by decide)
  have s1 : iv 43 51 (43 + 2 * td 4) := iv_add (l := 43) (h := 51) (iv_lit (x := 43) (l := 43) (h := 43) (by decide)) m1 (by decide)
  have s2 : iv 44 52 ((43 + 2 * td 4) + 1) := iv_add (l := 44) (h := 52) s1 (iv_lit (x := 1) (l := 1) (h := 1) (by decide)) (by decide)
  refine e_further (c := 4) (by omega) (fun h => ⟨fun _ => ?_, fun h9 => absurd rfl h9⟩) (fun h => ⟨fun h9 => ?_, fun _ v e => ⟨iv_in s1 (by decide), fun t2 e2 v2 e3 => ⟨iv_in s2 (by decide), fun t3 e4 => ?_⟩⟩⟩)
  · rw [if_pos h] at g; exact g
  · have := hC.1
    rw [h9] at this
    exact absurd this (by decide)
  · rw [if_neg h] at g
    rw [c_0, r0] at e
    rw [c_1, r1] at e3
    rw [e4, e3, e2, e]
    exact g
set_option maxRecDepth 20000 in
theorem e_singerLine {tp B rd td : Nat → Int32} {n r : Nat} {va wr fa pl fh : Int32} {wd : Int64} {post : Int32 → Int32 → Int32 → Int32 → Int32 → Int64 → Int32 → Int32 → Int32 → (Nat → Int32) → (Nat → Int32) → Int32 → Int32 → Prop} (hn : n ≤ 600) (hr : r ≤ n) (hB : ∀ j, j < n → tp j = B j) (hb : ∀ j, iv (-128) 127 (B j)) (hv : tK B n (ps B n r 1) = 2 → va = (tV B n (ps B n r 1))) (hlp : ¬ mkF B n r 8 td fa 0 = 0 → mkP B n r 8 td fa pl 0 < (nI (tF B n (ps B n r 1)))) (hC : iv 0 6 (td 1))
    (hF : ∀ j, 1 ≤ j → j ≤ 2 → ¬ tK B n (ps B n r j) = 2 → (∀ i, 1 ≤ i → i < j → tK B n (ps B n r i) = 2) → ∀ (re be so va : Int32) (wd : Int64) (lf lp : Int32) (td rd : Nat → Int32) (fh : Int32) (gd : Int32), post 0 re be so va wd (nI (tF B n (ps B n r j))) lf lp td rd fh gd)
    (hT : (∀ j, 1 ≤ j → j ≤ 2 → tK B n (ps B n r j) = 2) → ∀ (va' : Int32) (wd' : Int64) (rd' : Nat → Int32) (gd' : Int32), (¬ mkF B n r 8 td fa 2 = 0 → mkP B n r 8 td fa pl 2 < (nI (tF B n (ps B n r 3)))) → post 1 (nI (tN B n (ps B n r 3))) (nI (tF B n (ps B n r 3))) (sI (tK B n (ps B n r 3))) va' wd' wr (mkF B n r 8 td fa 2) (mkP B n r 8 td fa pl 2) (lD 8 (gd B n r 8 2) (tV B n (ps B n r 1)) (tV B n (ps B n r 2)) (tV B n (ps B n r 3)) td) rd' (lH 8 (tV B n (ps B n r 1)) (tV B n (ps B n r 2)) fh) gd') : q_m_singerLine_0 tp (nI (tN B n (ps B n r 1))) (nI n) (nI (tF B n (ps B n r 1))) (sI (tK B n (ps B n r 1))) va wd wr (mkF B n r 8 td fa 0) (mkP B n r 8 td fa pl 0) td rd fh 1 post := by
  refine e_takeHut (k := 1) (i := 0) (c := cW 8 0 (tV B n (ps B n r 1)) (tV B n (ps B n r 1))) (g := gd B n r 8 0) hn hr hB hb hv hlp (by omega) rfl (fun hk => iz (hF 1 (by omega) (by omega) hk (be1 (P := fun j => tK B n (ps B n r j) = 2)) _ _ _ _ _ _ _ _ _ _ _)) (fun k1 va1 wd1 hv1 hl1 => oi ?_)
  refine e_take (k := 2) (i := 1) (c := cW 8 1 (tV B n (ps B n r 1)) (tV B n (ps B n r 2))) (g := gd B n r 8 1) hn hr hB hb hv1 hl1 (by omega) rfl (fun hk => zi (hF 2 (by omega) (by omega) hk (be2 (P := fun j => tK B n (ps B n r j) = 2) k1) _ _ _ _ _ _ _ _ _ _ _)) (fun k2 va2 wd2 hv2 hl2 => io ?_)
  have r0 : (upd (upd rd 0 (tV B n (ps B n r 1))) 1 (tV B n (ps B n r 2))) 0 = (tV B n (ps B n r 1)) := by rw [up_n (by omega), up_s]
  have r1 : (upd (upd rd 0 (tV B n (ps B n r 1))) 1 (tV B n (ps B n r 2))) 1 = (tV B n (ps B n r 2)) := up_s
  have g := hT (al2 (P := fun j => tK B n (ps B n r j) = 2) k1 k2) va2 wd2 (upd (upd rd 0 (tV B n (ps B n r 1))) 1 (tV B n (ps B n r 2))) (gI (gd B n r 8 2)) hl2
  rw [show lD 8 (gd B n r 8 2) (tV B n (ps B n r 1)) (tV B n (ps B n r 2)) (tV B n (ps B n r 3)) td = (if td 1 = 6 then td else upd (upd (upd td 1 (td 1 + 1)) (Int32.toNatClampNeg (25 + td 1)) (tV B n (ps B n r 1))) (Int32.toNatClampNeg (31 + td 1)) (tV B n (ps B n r 2))) from rfl] at g
  have s1 : iv 25 31 (25 + td 1) := iv_add (l := 25) (h := 31) (iv_lit (x := 25) (l := 25) (h := 25) (by decide)) hC (by decide)
  have s2 : iv 31 37 (31 + td 1) := iv_add (l := 31) (h := 37) (iv_lit (x := 31) (l := 31) (h := 31) (by decide)) hC (by decide)
  refine e_further (c := 1) (by omega) (fun h => ⟨fun _ => ?_, fun h9 => absurd rfl h9⟩) (fun h => ⟨fun h9 => ?_, fun _ v e => ⟨iv_in s1 (by decide), fun t2 e2 v2 e3 => ⟨iv_in s2 (by decide), fun t3 e4 => ?_⟩⟩⟩)
  · rw [if_pos h] at g; exact g
  · have := hC.1
    rw [h9] at this
    exact absurd this (by decide)
  · rw [if_neg h] at g
    rw [c_0, r0] at e
    rw [c_1, r1] at e3
    rw [e4, e3, e2, e]
    exact g
set_option maxRecDepth 20000 in
theorem e_ladderLine {tp B rd td : Nat → Int32} {n r : Nat} {va wr fa pl fh : Int32} {wd : Int64} {post : Int32 → Int32 → Int32 → Int32 → Int32 → Int64 → Int32 → Int32 → Int32 → (Nat → Int32) → (Nat → Int32) → Int32 → Int32 → Prop} (hn : n ≤ 600) (hr : r ≤ n) (hB : ∀ j, j < n → tp j = B j) (hb : ∀ j, iv (-128) 127 (B j)) (hv : tK B n (ps B n r 1) = 2 → va = (tV B n (ps B n r 1))) (hlp : ¬ mkF B n r 7 td fa 0 = 0 → mkP B n r 7 td fa pl 0 < (nI (tF B n (ps B n r 1)))) 
    (hF : ∀ j, 1 ≤ j → j ≤ 2 → ¬ tK B n (ps B n r j) = 2 → (∀ i, 1 ≤ i → i < j → tK B n (ps B n r i) = 2) → ∀ (re be so va : Int32) (wd : Int64) (lf lp : Int32) (td rd : Nat → Int32) (fh : Int32) (gd : Int32), post 0 re be so va wd (nI (tF B n (ps B n r j))) lf lp td rd fh gd)
    (hT : (∀ j, 1 ≤ j → j ≤ 2 → tK B n (ps B n r j) = 2) → ∀ (va' : Int32) (wd' : Int64) (rd' : Nat → Int32) (gd' : Int32), (¬ mkF B n r 7 td fa 2 = 0 → mkP B n r 7 td fa pl 2 < (nI (tF B n (ps B n r 3)))) → post 1 (nI (tN B n (ps B n r 3))) (nI (tF B n (ps B n r 3))) (sI (tK B n (ps B n r 3))) va' wd' wr (mkF B n r 7 td fa 2) (mkP B n r 7 td fa pl 2) (lD 7 (gd B n r 7 2) (tV B n (ps B n r 1)) (tV B n (ps B n r 2)) (tV B n (ps B n r 3)) td) rd' (lH 7 (tV B n (ps B n r 1)) (tV B n (ps B n r 2)) fh) gd') : q_m_ladderLine_0 tp (nI (tN B n (ps B n r 1))) (nI n) (nI (tF B n (ps B n r 1))) (sI (tK B n (ps B n r 1))) va wd wr (mkF B n r 7 td fa 0) (mkP B n r 7 td fa pl 0) td rd fh 1 post := by
  refine e_takeHut (k := 1) (i := 0) (c := cW 7 0 (tV B n (ps B n r 1)) (tV B n (ps B n r 1))) (g := gd B n r 7 0) hn hr hB hb hv hlp (by omega) rfl (fun hk => iz (hF 1 (by omega) (by omega) hk (be1 (P := fun j => tK B n (ps B n r j) = 2)) _ _ _ _ _ _ _ _ _ _ _)) (fun k1 va1 wd1 hv1 hl1 => oi ?_)
  refine e_take (k := 2) (i := 1) (c := cW 7 1 (tV B n (ps B n r 1)) (tV B n (ps B n r 2))) (g := gd B n r 7 1) hn hr hB hb hv1 hl1 (by omega) rfl (fun hk => zi (hF 2 (by omega) (by omega) hk (be2 (P := fun j => tK B n (ps B n r j) = 2) k1) _ _ _ _ _ _ _ _ _ _ _)) (fun k2 va2 wd2 hv2 hl2 => io ?_)
  have r0 : (upd (upd rd 0 (tV B n (ps B n r 1))) 1 (tV B n (ps B n r 2))) 0 = (tV B n (ps B n r 1)) := by rw [up_n (by omega), up_s]
  have r1 : (upd (upd rd 0 (tV B n (ps B n r 1))) 1 (tV B n (ps B n r 2))) 1 = (tV B n (ps B n r 2)) := up_s
  have hgt : ¬ gI (gd B n r 7 2) = 0 → gd B n r 7 2 = true := fun h => by
    cases hh : gd B n r 7 2 with
    | true => rfl
    | false => rw [hh] at h; exact absurd rfl h
  have hgf : gI (gd B n r 7 2) = 0 → ¬ gd B n r 7 2 = true := fun h h9 => by
    rw [h9] at h
    exact absurd h (by decide)
  have g := hT (al2 (P := fun j => tK B n (ps B n r j) = 2) k1 k2) va2 wd2 (upd (upd rd 0 (tV B n (ps B n r 1))) 1 (tV B n (ps B n r 2))) (gI (gd B n r 7 2)) hl2
  rw [show lD 7 (gd B n r 7 2) (tV B n (ps B n r 1)) (tV B n (ps B n r 2)) (tV B n (ps B n r 3)) td = (if gd B n r 7 2 = true then upd td (Int32.toNatClampNeg (16 + (tV B n (ps B n r 1)))) (tV B n (ps B n r 2)) else td) from rfl] at g
  refine ⟨fun h => ?_, fun h => ?_⟩
  · rw [if_neg (hgf h)] at g; exact g
  · have hg := hgt h
    rw [if_pos hg] at g
    rw [c_0, c_1, r0, r1]
    have i1 : iv 0 8 (tV B n (ps B n r 1)) := iv_w (cW_iv (gd_c 2 hg 0 (by omega))) (by decide +kernel)
    refine fun v e => ⟨iv_in (iv_add (l := 16) (h := 24) (iv_lit (x := 16) (l := 16) (h := 16) (by decide)) i1 (by decide)) (by decide), fun t1 e1 => ?_⟩
    rw [e1, e]
    exact g
set_option maxRecDepth 20000 in
theorem e_knowsLine {tp B rd td : Nat → Int32} {n r : Nat} {va wr fa pl fs : Int32} {wd : Int64} {post : Int32 → Int32 → Int32 → Int32 → Int32 → Int64 → Int32 → Int32 → Int32 → (Nat → Int32) → (Nat → Int32) → Int32 → Int32 → Prop} (hn : n ≤ 600) (hr : r ≤ n) (hB : ∀ j, j < n → tp j = B j) (hb : ∀ j, iv (-128) 127 (B j)) (hv : tK B n (ps B n r 1) = 2 → va = (tV B n (ps B n r 1))) (hlp : ¬ mkF B n r 9 td fa 0 = 0 → mkP B n r 9 td fa pl 0 < (nI (tF B n (ps B n r 1)))) 
    (hF : ∀ j, 1 ≤ j → j ≤ 2 → ¬ tK B n (ps B n r j) = 2 → (∀ i, 1 ≤ i → i < j → tK B n (ps B n r i) = 2) → ∀ (re be so va : Int32) (wd : Int64) (lf lp : Int32) (td rd : Nat → Int32) (fs : Int32) (gd : Int32), post 0 re be so va wd (nI (tF B n (ps B n r j))) lf lp td rd fs gd)
    (hT : (∀ j, 1 ≤ j → j ≤ 2 → tK B n (ps B n r j) = 2) → ∀ (va' : Int32) (wd' : Int64) (rd' : Nat → Int32) (gd' : Int32), (¬ mkF B n r 9 td fa 2 = 0 → mkP B n r 9 td fa pl 2 < (nI (tF B n (ps B n r 3)))) → post 1 (nI (tN B n (ps B n r 3))) (nI (tF B n (ps B n r 3))) (sI (tK B n (ps B n r 3))) va' wd' wr (mkF B n r 9 td fa 2) (mkP B n r 9 td fa pl 2) (lD 9 (gd B n r 9 2) (tV B n (ps B n r 1)) (tV B n (ps B n r 2)) (tV B n (ps B n r 3)) td) rd' (lS 9 (tV B n (ps B n r 1)) fs) gd') : q_m_knowsLine_0 tp (nI (tN B n (ps B n r 1))) (nI n) (nI (tF B n (ps B n r 1))) (sI (tK B n (ps B n r 1))) va wd wr (mkF B n r 9 td fa 0) (mkP B n r 9 td fa pl 0) td rd fs 1 post := by
  refine e_take (k := 1) (i := 0) (c := cW 9 0 (tV B n (ps B n r 1)) (tV B n (ps B n r 1))) (g := gd B n r 9 0) hn hr hB hb hv hlp (by omega) rfl (fun hk => iz (hF 1 (by omega) (by omega) hk (be1 (P := fun j => tK B n (ps B n r j) = 2)) _ _ _ _ _ _ _ _ _ _ _)) (fun k1 va1 wd1 hv1 hl1 => oi ?_)
  refine e_take (k := 2) (i := 1) (c := cW 9 1 (tV B n (ps B n r 1)) (tV B n (ps B n r 2))) (g := gd B n r 9 1) hn hr hB hb hv1 hl1 (by omega) rfl (fun hk => zi (hF 2 (by omega) (by omega) hk (be2 (P := fun j => tK B n (ps B n r j) = 2) k1) _ _ _ _ _ _ _ _ _ _ _)) (fun k2 va2 wd2 hv2 hl2 => io ?_)
  have r0 : (upd (upd rd 0 (tV B n (ps B n r 1))) 1 (tV B n (ps B n r 2))) 0 = (tV B n (ps B n r 1)) := by rw [up_n (by omega), up_s]
  have r1 : (upd (upd rd 0 (tV B n (ps B n r 1))) 1 (tV B n (ps B n r 2))) 1 = (tV B n (ps B n r 2)) := up_s
  have hgt : ¬ gI (gd B n r 9 2) = 0 → gd B n r 9 2 = true := fun h => by
    cases hh : gd B n r 9 2 with
    | true => rfl
    | false => rw [hh] at h; exact absurd rfl h
  have hgf : gI (gd B n r 9 2) = 0 → ¬ gd B n r 9 2 = true := fun h h9 => by
    rw [h9] at h
    exact absurd h (by decide)
  have g := hT (al2 (P := fun j => tK B n (ps B n r j) = 2) k1 k2) va2 wd2 (upd (upd rd 0 (tV B n (ps B n r 1))) 1 (tV B n (ps B n r 2))) (gI (gd B n r 9 2)) hl2
  rw [show lD 9 (gd B n r 9 2) (tV B n (ps B n r 1)) (tV B n (ps B n r 2)) (tV B n (ps B n r 3)) td = (if gd B n r 9 2 = true then upd td (Int32.toNatClampNeg (37 + (tV B n (ps B n r 1)))) (td (Int32.toNatClampNeg (37 + (tV B n (ps B n r 1)))) ||| 1 <<< ((tV B n (ps B n r 2)) &&& 31)) else td) from rfl] at g
  rw [c_0, c_1, r0, r1]
  refine e_greater ⟨fun h => ?_, fun h => ?_⟩
  · rw [if_neg (hgf h)] at g; exact g
  · have hg := hgt h
    rw [if_pos hg] at g
    have i1 : iv 0 5 (tV B n (ps B n r 1)) := iv_w (cW_iv (gd_c 2 hg 0 (by omega))) (by decide +kernel)
    have hin := iv_in (n := 132) (iv_add (l := 37) (h := 42) (iv_lit (x := 37) (l := 37) (h := 37) (by decide)) i1 (by decide)) (by decide)
    refine ⟨hin, fun v e => ⟨hin, fun t1 e1 => ?_⟩⟩
    rw [e1, e]
    exact g
end
section
set_option maxRecDepth 20000 in
theorem e_land_0 {tp B rd td : Nat → Int32} {n r : Nat} {va wr fa pl fh fs : Int32} {wd : Int64} {post : Int32 → Int32 → Int32 → Int32 → Int32 → Int64 → Int32 → Int32 → Int32 → (Nat → Int32) → (Nat → Int32) → Int32 → Int32 → Int32 → Prop} (hn : n ≤ 600) (hr : r ≤ n) (hB : ∀ j, j < n → tp j = B j) (hb : ∀ j, iv (-128) 127 (B j)) (hlp : ¬ fa = 0 → pl < (nI (tF B n r))) (hK0 : ¬ tK B n r = 0) (hC : CB 0 td)
    (hF : ∀ j, 1 ≤ j → j ≤ 1 → ¬ tK B n (ps B n r j) = 2 → (∀ i, 1 ≤ i → i < j → tK B n (ps B n r i) = 2) → ∀ (re be so va : Int32) (wd : Int64) (lf lp : Int32) (td rd : Nat → Int32) (fh fs : Int32) (gd : Int32), post 0 re be so va wd (nI (tF B n (ps B n r j))) lf lp td rd fh fs gd)
    (hT : (∀ j, 1 ≤ j → j ≤ 1 → tK B n (ps B n r j) = 2) → ∀ (va' : Int32) (wd' : Int64) (rd' : Nat → Int32) (gd' : Int32), (¬ mkF B n r 0 td fa 1 = 0 → mkP B n r 0 td fa pl 1 < (nI (tF B n (ps B n r 2)))) → post 1 (nI (tN B n (ps B n r 2))) (nI (tF B n (ps B n r 2))) (sI (tK B n (ps B n r 2))) va' wd' wr (mkF B n r 0 td fa 1) (mkP B n r 0 td fa pl 1) (lD 0 (gd B n r 0 1) (tV B n (ps B n r 1)) (tV B n (ps B n r 2)) (tV B n (ps B n r 3)) td) rd' (lH 0 (tV B n (ps B n r 1)) (tV B n (ps B n r 2)) fh) (lS 0 (tV B n (ps B n r 1)) fs) gd') : q_m_landLine_0 tp (nI (tN B n r)) (nI n) (nI (tF B n r)) (sI (tK B n r)) va wd wr fa pl td rd fh fs 1 (lN 6845812) (nI (tF B n r)) post := by
  have hF1 := tF_nx hr hK0
  have htk := tk_le (B := B) hr
  have hl1 : ¬ mkF B n r 0 td fa 0 = 0 → mkP B n r 0 td fa pl 0 < nI (tF B n (tN B n r)) := LP_n hlp hF1.1 (by omega)
  have st : q_m_landLine_60 tp (nI (tN B n r)) (nI n) (nI (tF B n r)) (sI (tK B n r)) va wd wr (mkF B n r 0 td fa 0) (mkP B n r 0 td fa pl 0) td rd fh fs 1 (lN 6845812) post := by
    refine e_tok (r := tN B n r) hn htk.2.1 hB hb (fun v1 w1 hv1 _ => ?_)
    refine ⟨fun h9 => absurd h9 (by decide +kernel), fun _ => ?_⟩
    exact e_hutLine hn hr hB hb hv1 hl1 hC.1 (fun j a b c d re be so va wd lf lp td rd gd => ⟨rfl, hF j a b c d re be so va wd lf lp td rd fh fs gd⟩) (fun hk va2 wd2 rd2 gd2 hl => ⟨rfl, hT hk va2 wd2 rd2 gd2 hl⟩)
  exact ⟨fun _ => io ⟨fun h9 => absurd h9 (by decide +kernel), fun _ => e_full (c := 0) (b := fu 0 td) (by omega) (by simp [fu]) hlp ⟨fun _ => ⟨fun _ => st, fun h9 => absurd h9 (by decide +kernel)⟩, fun h9 => absurd h9 (by decide +kernel)⟩⟩, fun h9 => absurd h9 (by decide +kernel)⟩
set_option maxRecDepth 20000 in
theorem e_land_1 {tp B rd td : Nat → Int32} {n r : Nat} {va wr fa pl fh fs : Int32} {wd : Int64} {post : Int32 → Int32 → Int32 → Int32 → Int32 → Int64 → Int32 → Int32 → Int32 → (Nat → Int32) → (Nat → Int32) → Int32 → Int32 → Int32 → Prop} (hn : n ≤ 600) (hr : r ≤ n) (hB : ∀ j, j < n → tp j = B j) (hb : ∀ j, iv (-128) 127 (B j)) (hlp : ¬ fa = 0 → pl < (nI (tF B n r))) (hK0 : ¬ tK B n r = 0) (hC : CB 0 td)
    (hF : ∀ j, 1 ≤ j → j ≤ 1 → ¬ tK B n (ps B n r j) = 2 → (∀ i, 1 ≤ i → i < j → tK B n (ps B n r i) = 2) → ∀ (re be so va : Int32) (wd : Int64) (lf lp : Int32) (td rd : Nat → Int32) (fh fs : Int32) (gd : Int32), post 0 re be so va wd (nI (tF B n (ps B n r j))) lf lp td rd fh fs gd)
    (hT : (∀ j, 1 ≤ j → j ≤ 1 → tK B n (ps B n r j) = 2) → ∀ (va' : Int32) (wd' : Int64) (rd' : Nat → Int32) (gd' : Int32), (¬ mkF B n r 1 td fa 1 = 0 → mkP B n r 1 td fa pl 1 < (nI (tF B n (ps B n r 2)))) → post 1 (nI (tN B n (ps B n r 2))) (nI (tF B n (ps B n r 2))) (sI (tK B n (ps B n r 2))) va' wd' wr (mkF B n r 1 td fa 1) (mkP B n r 1 td fa pl 1) (lD 1 (gd B n r 1 1) (tV B n (ps B n r 1)) (tV B n (ps B n r 2)) (tV B n (ps B n r 3)) td) rd' (lH 1 (tV B n (ps B n r 1)) (tV B n (ps B n r 2)) fh) (lS 1 (tV B n (ps B n r 1)) fs) gd') : q_m_landLine_0 tp (nI (tN B n r)) (nI n) (nI (tF B n r)) (sI (tK B n r)) va wd wr fa pl td rd fh fs 1 (lN 33329961647564645) (nI (tF B n r)) post := by
  have hF1 := tF_nx hr hK0
  have htk := tk_le (B := B) hr
  have hl1 : ¬ mkF B n r 1 td fa 0 = 0 → mkP B n r 1 td fa pl 0 < nI (tF B n (tN B n r)) := LP_n hlp hF1.1 (by omega)
  have st : q_m_landLine_60 tp (nI (tN B n r)) (nI n) (nI (tF B n r)) (sI (tK B n r)) va wd wr (mkF B n r 1 td fa 0) (mkP B n r 1 td fa pl 0) td rd fh fs 1 (lN 33329961647564645) post := by
    refine e_tok (r := tN B n r) hn htk.2.1 hB hb (fun v1 w1 hv1 _ => ?_)
    refine ⟨fun _ => ⟨fun _ => ⟨fun h9 => absurd h9 (by decide +kernel), fun _ => ?_⟩, fun h9 => absurd h9 (by decide +kernel)⟩, fun h9 => absurd h9 (by decide +kernel)⟩
    exact e_bitLine_1 hn hr hB hb hv1 hl1 (fun j a b c d re be so va wd lf lp td rd fh gd => ⟨rfl, hF j a b c d re be so va wd lf lp td rd fh fs gd⟩) (fun hk va2 wd2 rd2 gd2 hl => ⟨rfl, hT hk va2 wd2 rd2 gd2 hl⟩)
  have hfu : fu 1 td = false := by simp [fu]
  have e1 : mkF B n r 1 td fa 0 = fa := by show mF (!fu 1 td) fa 3 = fa; rw [hfu]; rfl
  have e2 : mkP B n r 1 td fa pl 0 = pl := by show mP (!fu 1 td) fa pl _ = pl; rw [hfu]; rfl
  rw [e1, e2] at st
  exact ⟨fun h9 => absurd h9 (by decide +kernel), fun _ => ⟨fun _ => io ⟨fun _ => ⟨fun _ => ⟨fun _ => st, fun h9 => absurd h9 (by decide +kernel)⟩, fun h9 => absurd h9 (by decide +kernel)⟩, fun h9 => absurd h9 (by decide +kernel)⟩, fun h9 => absurd h9 (by decide +kernel)⟩⟩
set_option maxRecDepth 20000 in
theorem e_land_2 {tp B rd td : Nat → Int32} {n r : Nat} {va wr fa pl fh fs : Int32} {wd : Int64} {post : Int32 → Int32 → Int32 → Int32 → Int32 → Int64 → Int32 → Int32 → Int32 → (Nat → Int32) → (Nat → Int32) → Int32 → Int32 → Int32 → Prop} (hn : n ≤ 600) (hr : r ≤ n) (hB : ∀ j, j < n → tp j = B j) (hb : ∀ j, iv (-128) 127 (B j)) (hlp : ¬ fa = 0 → pl < (nI (tF B n r))) (hK0 : ¬ tK B n r = 0) (hC : CB 0 td)
    (hF : ∀ j, 1 ≤ j → j ≤ 1 → ¬ tK B n (ps B n r j) = 2 → (∀ i, 1 ≤ i → i < j → tK B n (ps B n r i) = 2) → ∀ (re be so va : Int32) (wd : Int64) (lf lp : Int32) (td rd : Nat → Int32) (fh fs : Int32) (gd : Int32), post 0 re be so va wd (nI (tF B n (ps B n r j))) lf lp td rd fh fs gd)
    (hT : (∀ j, 1 ≤ j → j ≤ 1 → tK B n (ps B n r j) = 2) → ∀ (va' : Int32) (wd' : Int64) (rd' : Nat → Int32) (gd' : Int32), (¬ mkF B n r 2 td fa 1 = 0 → mkP B n r 2 td fa pl 1 < (nI (tF B n (ps B n r 2)))) → post 1 (nI (tN B n (ps B n r 2))) (nI (tF B n (ps B n r 2))) (sI (tK B n (ps B n r 2))) va' wd' wr (mkF B n r 2 td fa 1) (mkP B n r 2 td fa pl 1) (lD 2 (gd B n r 2 1) (tV B n (ps B n r 1)) (tV B n (ps B n r 2)) (tV B n (ps B n r 3)) td) rd' (lH 2 (tV B n (ps B n r 1)) (tV B n (ps B n r 2)) fh) (lS 2 (tV B n (ps B n r 1)) fs) gd') : q_m_landLine_0 tp (nI (tN B n r)) (nI n) (nI (tF B n r)) (sI (tK B n r)) va wd wr fa pl td rd fh fs 1 (lN 6578541) (nI (tF B n r)) post := by
  have hF1 := tF_nx hr hK0
  have htk := tk_le (B := B) hr
  have hl1 : ¬ mkF B n r 2 td fa 0 = 0 → mkP B n r 2 td fa pl 0 < nI (tF B n (tN B n r)) := LP_n hlp hF1.1 (by omega)
  have st : q_m_landLine_60 tp (nI (tN B n r)) (nI n) (nI (tF B n r)) (sI (tK B n r)) va wd wr (mkF B n r 2 td fa 0) (mkP B n r 2 td fa pl 0) td rd fh fs 1 (lN 6578541) post := by
    refine e_tok (r := tN B n r) hn htk.2.1 hB hb (fun v1 w1 hv1 _ => ?_)
    refine ⟨fun _ => ⟨fun h9 => absurd h9 (by decide +kernel), fun _ => ⟨fun h9 => absurd h9 (by decide +kernel), fun _ => ⟨fun _ => ?_, fun h9 => absurd h9 (by decide +kernel)⟩⟩⟩, fun h9 => absurd h9 (by decide +kernel)⟩
    exact e_bitLine_2 hn hr hB hb hv1 hl1 (fun j a b c d re be so va wd lf lp td rd fh gd => ⟨rfl, hF j a b c d re be so va wd lf lp td rd fh fs gd⟩) (fun hk va2 wd2 rd2 gd2 hl => ⟨rfl, hT hk va2 wd2 rd2 gd2 hl⟩)
  have hfu : fu 2 td = false := by simp [fu]
  have e1 : mkF B n r 2 td fa 0 = fa := by show mF (!fu 2 td) fa 3 = fa; rw [hfu]; rfl
  have e2 : mkP B n r 2 td fa pl 0 = pl := by show mP (!fu 2 td) fa pl _ = pl; rw [hfu]; rfl
  rw [e1, e2] at st
  exact ⟨fun h9 => absurd h9 (by decide +kernel), fun _ => ⟨fun h9 => absurd h9 (by decide +kernel), fun _ => ⟨fun _ => io ⟨fun _ => ⟨fun _ => ⟨fun _ => st, fun h9 => absurd h9 (by decide +kernel)⟩, fun h9 => absurd h9 (by decide +kernel)⟩, fun h9 => absurd h9 (by decide +kernel)⟩, fun h9 => absurd h9 (by decide +kernel)⟩⟩⟩
set_option maxRecDepth 20000 in
theorem e_land_3 {tp B rd td : Nat → Int32} {n r : Nat} {va wr fa pl fh fs : Int32} {wd : Int64} {post : Int32 → Int32 → Int32 → Int32 → Int32 → Int64 → Int32 → Int32 → Int32 → (Nat → Int32) → (Nat → Int32) → Int32 → Int32 → Int32 → Prop} (hn : n ≤ 600) (hr : r ≤ n) (hB : ∀ j, j < n → tp j = B j) (hb : ∀ j, iv (-128) 127 (B j)) (hlp : ¬ fa = 0 → pl < (nI (tF B n r))) (hK0 : ¬ tK B n r = 0) (hC : CB 0 td)
    (hF : ∀ j, 1 ≤ j → j ≤ 1 → ¬ tK B n (ps B n r j) = 2 → (∀ i, 1 ≤ i → i < j → tK B n (ps B n r i) = 2) → ∀ (re be so va : Int32) (wd : Int64) (lf lp : Int32) (td rd : Nat → Int32) (fh fs : Int32) (gd : Int32), post 0 re be so va wd (nI (tF B n (ps B n r j))) lf lp td rd fh fs gd)
    (hT : (∀ j, 1 ≤ j → j ≤ 1 → tK B n (ps B n r j) = 2) → ∀ (va' : Int32) (wd' : Int64) (rd' : Nat → Int32) (gd' : Int32), (¬ mkF B n r 3 td fa 1 = 0 → mkP B n r 3 td fa pl 1 < (nI (tF B n (ps B n r 2)))) → post 1 (nI (tN B n (ps B n r 2))) (nI (tF B n (ps B n r 2))) (sI (tK B n (ps B n r 2))) va' wd' wr (mkF B n r 3 td fa 1) (mkP B n r 3 td fa pl 1) (lD 3 (gd B n r 3 1) (tV B n (ps B n r 1)) (tV B n (ps B n r 2)) (tV B n (ps B n r 3)) td) rd' (lH 3 (tV B n (ps B n r 1)) (tV B n (ps B n r 2)) fh) (lS 3 (tV B n (ps B n r 1)) fs) gd') : q_m_landLine_0 tp (nI (tN B n r)) (nI n) (nI (tF B n r)) (sI (tK B n r)) va wd wr fa pl td rd fh fs 1 (lN 1684366704) (nI (tF B n r)) post := by
  have hF1 := tF_nx hr hK0
  have htk := tk_le (B := B) hr
  have hl1 : ¬ mkF B n r 3 td fa 0 = 0 → mkP B n r 3 td fa pl 0 < nI (tF B n (tN B n r)) := LP_n hlp hF1.1 (by omega)
  have st : q_m_landLine_60 tp (nI (tN B n r)) (nI n) (nI (tF B n r)) (sI (tK B n r)) va wd wr (mkF B n r 3 td fa 0) (mkP B n r 3 td fa pl 0) td rd fh fs 1 (lN 1684366704) post := by
    refine e_tok (r := tN B n r) hn htk.2.1 hB hb (fun v1 w1 hv1 _ => ?_)
    refine ⟨fun _ => ⟨fun h9 => absurd h9 (by decide +kernel), fun _ => ⟨fun _ => ⟨fun h9 => absurd h9 (by decide +kernel), fun _ => ?_⟩, fun h9 => absurd h9 (by decide +kernel)⟩⟩, fun h9 => absurd h9 (by decide +kernel)⟩
    exact e_plainLine_3 hn hr hB hb hv1 hl1 (fun j a b c d re be so va wd lf lp td rd gd => ⟨rfl, hF j a b c d re be so va wd lf lp td rd fh fs gd⟩) (fun hk va2 wd2 rd2 gd2 hl => ⟨rfl, hT hk va2 wd2 rd2 gd2 hl⟩)
  have hfu : fu 3 td = false := by simp [fu]
  have e1 : mkF B n r 3 td fa 0 = fa := by show mF (!fu 3 td) fa 3 = fa; rw [hfu]; rfl
  have e2 : mkP B n r 3 td fa pl 0 = pl := by show mP (!fu 3 td) fa pl _ = pl; rw [hfu]; rfl
  rw [e1, e2] at st
  exact ⟨fun h9 => absurd h9 (by decide +kernel), fun _ => ⟨fun h9 => absurd h9 (by decide +kernel), fun _ => ⟨fun h9 => absurd h9 (by decide +kernel), fun _ => ⟨fun _ => io ⟨fun _ => ⟨fun _ => ⟨fun _ => st, fun h9 => absurd h9 (by decide +kernel)⟩, fun h9 => absurd h9 (by decide +kernel)⟩, fun h9 => absurd h9 (by decide +kernel)⟩, fun h9 => absurd h9 (by decide +kernel)⟩⟩⟩⟩
set_option maxRecDepth 20000 in
theorem e_land_4 {tp B rd td : Nat → Int32} {n r : Nat} {va wr fa pl fh fs : Int32} {wd : Int64} {post : Int32 → Int32 → Int32 → Int32 → Int32 → Int64 → Int32 → Int32 → Int32 → (Nat → Int32) → (Nat → Int32) → Int32 → Int32 → Int32 → Prop} (hn : n ≤ 600) (hr : r ≤ n) (hB : ∀ j, j < n → tp j = B j) (hb : ∀ j, iv (-128) 127 (B j)) (hlp : ¬ fa = 0 → pl < (nI (tF B n r))) (hK0 : ¬ tK B n r = 0) (hC : CB 0 td)
    (hF : ∀ j, 1 ≤ j → j ≤ 1 → ¬ tK B n (ps B n r j) = 2 → (∀ i, 1 ≤ i → i < j → tK B n (ps B n r i) = 2) → ∀ (re be so va : Int32) (wd : Int64) (lf lp : Int32) (td rd : Nat → Int32) (fh fs : Int32) (gd : Int32), post 0 re be so va wd (nI (tF B n (ps B n r j))) lf lp td rd fh fs gd)
    (hT : (∀ j, 1 ≤ j → j ≤ 1 → tK B n (ps B n r j) = 2) → ∀ (va' : Int32) (wd' : Int64) (rd' : Nat → Int32) (gd' : Int32), (¬ mkF B n r 4 td fa 1 = 0 → mkP B n r 4 td fa pl 1 < (nI (tF B n (ps B n r 2)))) → post 1 (nI (tN B n (ps B n r 2))) (nI (tF B n (ps B n r 2))) (sI (tK B n (ps B n r 2))) va' wd' wr (mkF B n r 4 td fa 1) (mkP B n r 4 td fa pl 1) (lD 4 (gd B n r 4 1) (tV B n (ps B n r 1)) (tV B n (ps B n r 2)) (tV B n (ps B n r 3)) td) rd' (lH 4 (tV B n (ps B n r 1)) (tV B n (ps B n r 2)) fh) (lS 4 (tV B n (ps B n r 1)) fs) gd') : q_m_landLine_0 tp (nI (tN B n r)) (nI n) (nI (tF B n r)) (sI (tK B n r)) va wd wr fa pl td rd fh fs 1 (lN 495740085349) (nI (tF B n r)) post := by
  have hF1 := tF_nx hr hK0
  have htk := tk_le (B := B) hr
  have hl1 : ¬ mkF B n r 4 td fa 0 = 0 → mkP B n r 4 td fa pl 0 < nI (tF B n (tN B n r)) := LP_n hlp hF1.1 (by omega)
  have st : q_m_landLine_60 tp (nI (tN B n r)) (nI n) (nI (tF B n r)) (sI (tK B n r)) va wd wr (mkF B n r 4 td fa 0) (mkP B n r 4 td fa pl 0) td rd fh fs 1 (lN 495740085349) post := by
    refine e_tok (r := tN B n r) hn htk.2.1 hB hb (fun v1 w1 hv1 _ => ?_)
    refine ⟨fun _ => ⟨fun h9 => absurd h9 (by decide +kernel), fun _ => ⟨fun _ => ⟨fun _ => ⟨fun h9 => absurd h9 (by decide +kernel), fun _ => ?_⟩, fun h9 => absurd h9 (by decide +kernel)⟩, fun h9 => absurd h9 (by decide +kernel)⟩⟩, fun h9 => absurd h9 (by decide +kernel)⟩
    exact e_plainLine_4 hn hr hB hb hv1 hl1 (fun j a b c d re be so va wd lf lp td rd gd => ⟨rfl, hF j a b c d re be so va wd lf lp td rd fh fs gd⟩) (fun hk va2 wd2 rd2 gd2 hl => ⟨rfl, hT hk va2 wd2 rd2 gd2 hl⟩)
  have hfu : fu 4 td = false := by simp [fu]
  have e1 : mkF B n r 4 td fa 0 = fa := by show mF (!fu 4 td) fa 3 = fa; rw [hfu]; rfl
  have e2 : mkP B n r 4 td fa pl 0 = pl := by show mP (!fu 4 td) fa pl _ = pl; rw [hfu]; rfl
  rw [e1, e2] at st
  exact ⟨fun h9 => absurd h9 (by decide +kernel), fun _ => ⟨fun h9 => absurd h9 (by decide +kernel), fun _ => ⟨fun h9 => absurd h9 (by decide +kernel), fun _ => ⟨fun h9 => absurd h9 (by decide +kernel), fun _ => ⟨fun _ => io ⟨fun _ => ⟨fun _ => ⟨fun _ => st, fun h9 => absurd h9 (by decide +kernel)⟩, fun h9 => absurd h9 (by decide +kernel)⟩, fun h9 => absurd h9 (by decide +kernel)⟩, fun h9 => absurd h9 (by decide +kernel)⟩⟩⟩⟩⟩
set_option maxRecDepth 20000 in
theorem e_land_5 {tp B rd td : Nat → Int32} {n r : Nat} {va wr fa pl fh fs : Int32} {wd : Int64} {post : Int32 → Int32 → Int32 → Int32 → Int32 → Int64 → Int32 → Int32 → Int32 → (Nat → Int32) → (Nat → Int32) → Int32 → Int32 → Int32 → Prop} (hn : n ≤ 600) (hr : r ≤ n) (hB : ∀ j, j < n → tp j = B j) (hb : ∀ j, iv (-128) 127 (B j)) (hlp : ¬ fa = 0 → pl < (nI (tF B n r))) (hK0 : ¬ tK B n r = 0) (hC : CB 0 td)
    (hF : ∀ j, 1 ≤ j → j ≤ 3 → ¬ tK B n (ps B n r j) = 2 → (∀ i, 1 ≤ i → i < j → tK B n (ps B n r i) = 2) → ∀ (re be so va : Int32) (wd : Int64) (lf lp : Int32) (td rd : Nat → Int32) (fh fs : Int32) (gd : Int32), post 0 re be so va wd (nI (tF B n (ps B n r j))) lf lp td rd fh fs gd)
    (hT : (∀ j, 1 ≤ j → j ≤ 3 → tK B n (ps B n r j) = 2) → ∀ (va' : Int32) (wd' : Int64) (rd' : Nat → Int32) (gd' : Int32), (¬ mkF B n r 5 td fa 3 = 0 → mkP B n r 5 td fa pl 3 < (nI (tF B n (ps B n r 4)))) → post 1 (nI (tN B n (ps B n r 4))) (nI (tF B n (ps B n r 4))) (sI (tK B n (ps B n r 4))) va' wd' wr (mkF B n r 5 td fa 3) (mkP B n r 5 td fa pl 3) (lD 5 (gd B n r 5 3) (tV B n (ps B n r 1)) (tV B n (ps B n r 2)) (tV B n (ps B n r 3)) td) rd' (lH 5 (tV B n (ps B n r 1)) (tV B n (ps B n r 2)) fh) (lS 5 (tV B n (ps B n r 1)) fs) gd') : q_m_landLine_0 tp (nI (tN B n r)) (nI n) (nI (tF B n r)) (sI (tK B n r)) va wd wr fa pl td rd fh fs 1 (lN 7823737) (nI (tF B n r)) post := by
  have hF1 := tF_nx hr hK0
  have htk := tk_le (B := B) hr
  have hl1 : ¬ mkF B n r 5 td fa 0 = 0 → mkP B n r 5 td fa pl 0 < nI (tF B n (tN B n r)) := LP_n hlp hF1.1 (by omega)
  have st : q_m_landLine_60 tp (nI (tN B n r)) (nI n) (nI (tF B n r)) (sI (tK B n r)) va wd wr (mkF B n r 5 td fa 0) (mkP B n r 5 td fa pl 0) td rd fh fs 1 (lN 7823737) post := by
    refine e_tok (r := tN B n r) hn htk.2.1 hB hb (fun v1 w1 hv1 _ => ?_)
    refine ⟨fun _ => ⟨fun h9 => absurd h9 (by decide +kernel), fun _ => ⟨fun _ => ⟨fun _ => ⟨fun _ => ⟨fun h9 => absurd h9 (by decide +kernel), fun _ => ?_⟩, fun h9 => absurd h9 (by decide +kernel)⟩, fun h9 => absurd h9 (by decide +kernel)⟩, fun h9 => absurd h9 (by decide +kernel)⟩⟩, fun h9 => absurd h9 (by decide +kernel)⟩
    exact e_wayLine hn hr hB hb hv1 hl1 (fun j a b c d re be so va wd lf lp td rd fh gd => ⟨rfl, hF j a b c d re be so va wd lf lp td rd fh fs gd⟩) (fun hk va2 wd2 rd2 gd2 hl => ⟨rfl, hT hk va2 wd2 rd2 gd2 hl⟩)
  have hfu : fu 5 td = false := by simp [fu]
  have e1 : mkF B n r 5 td fa 0 = fa := by show mF (!fu 5 td) fa 3 = fa; rw [hfu]; rfl
  have e2 : mkP B n r 5 td fa pl 0 = pl := by show mP (!fu 5 td) fa pl _ = pl; rw [hfu]; rfl
  rw [e1, e2] at st
  exact ⟨fun h9 => absurd h9 (by decide +kernel), fun _ => ⟨fun h9 => absurd h9 (by decide +kernel), fun _ => ⟨fun h9 => absurd h9 (by decide +kernel), fun _ => ⟨fun h9 => absurd h9 (by decide +kernel), fun _ => ⟨fun h9 => absurd h9 (by decide +kernel), fun _ => ⟨fun _ => io ⟨fun _ => ⟨fun _ => ⟨fun _ => st, fun h9 => absurd h9 (by decide +kernel)⟩, fun h9 => absurd h9 (by decide +kernel)⟩, fun h9 => absurd h9 (by decide +kernel)⟩, fun h9 => absurd h9 (by decide +kernel)⟩⟩⟩⟩⟩⟩
set_option maxRecDepth 20000 in
theorem e_land_6 {tp B rd td : Nat → Int32} {n r : Nat} {va wr fa pl fh fs : Int32} {wd : Int64} {post : Int32 → Int32 → Int32 → Int32 → Int32 → Int64 → Int32 → Int32 → Int32 → (Nat → Int32) → (Nat → Int32) → Int32 → Int32 → Int32 → Prop} (hn : n ≤ 600) (hr : r ≤ n) (hB : ∀ j, j < n → tp j = B j) (hb : ∀ j, iv (-128) 127 (B j)) (hlp : ¬ fa = 0 → pl < (nI (tF B n r))) (hK0 : ¬ tK B n r = 0) (hC : CB 0 td)
    (hF : ∀ j, 1 ≤ j → j ≤ 2 → ¬ tK B n (ps B n r j) = 2 → (∀ i, 1 ≤ i → i < j → tK B n (ps B n r i) = 2) → ∀ (re be so va : Int32) (wd : Int64) (lf lp : Int32) (td rd : Nat → Int32) (fh fs : Int32) (gd : Int32), post 0 re be so va wd (nI (tF B n (ps B n r j))) lf lp td rd fh fs gd)
    (hT : (∀ j, 1 ≤ j → j ≤ 2 → tK B n (ps B n r j) = 2) → ∀ (va' : Int32) (wd' : Int64) (rd' : Nat → Int32) (gd' : Int32), (¬ mkF B n r 6 td fa 2 = 0 → mkP B n r 6 td fa pl 2 < (nI (tF B n (ps B n r 3)))) → post 1 (nI (tN B n (ps B n r 3))) (nI (tF B n (ps B n r 3))) (sI (tK B n (ps B n r 3))) va' wd' wr (mkF B n r 6 td fa 2) (mkP B n r 6 td fa pl 2) (lD 6 (gd B n r 6 2) (tV B n (ps B n r 1)) (tV B n (ps B n r 2)) (tV B n (ps B n r 3)) td) rd' (lH 6 (tV B n (ps B n r 1)) (tV B n (ps B n r 2)) fh) (lS 6 (tV B n (ps B n r 1)) fs) gd') : q_m_landLine_0 tp (nI (tN B n r)) (nI n) (nI (tF B n r)) (sI (tK B n r)) va wd wr fa pl td rd fh fs 1 (lN 1701013615) (nI (tF B n r)) post := by
  have hF1 := tF_nx hr hK0
  have htk := tk_le (B := B) hr
  have hl1 : ¬ mkF B n r 6 td fa 0 = 0 → mkP B n r 6 td fa pl 0 < nI (tF B n (tN B n r)) := LP_n hlp hF1.1 (by omega)
  have st : q_m_landLine_60 tp (nI (tN B n r)) (nI n) (nI (tF B n r)) (sI (tK B n r)) va wd wr (mkF B n r 6 td fa 0) (mkP B n r 6 td fa pl 0) td rd fh fs 1 (lN 1701013615) post := by
    refine e_tok (r := tN B n r) hn htk.2.1 hB hb (fun v1 w1 hv1 _ => ?_)
    refine ⟨fun _ => ⟨fun h9 => absurd h9 (by decide +kernel), fun _ => ⟨fun _ => ⟨fun _ => ⟨fun _ => ⟨fun _ => ⟨fun h9 => absurd h9 (by decide +kernel), fun _ => ?_⟩, fun h9 => absurd h9 (by decide +kernel)⟩, fun h9 => absurd h9 (by decide +kernel)⟩, fun h9 => absurd h9 (by decide +kernel)⟩, fun h9 => absurd h9 (by decide +kernel)⟩⟩, fun h9 => absurd h9 (by decide +kernel)⟩
    exact e_echoLine hn hr hB hb hv1 hl1 (hC.2 rfl).2 (fun j a b c d re be so va wd lf lp td rd fh gd => ⟨rfl, hF j a b c d re be so va wd lf lp td rd fh fs gd⟩) (fun hk va2 wd2 rd2 gd2 hl => ⟨rfl, hT hk va2 wd2 rd2 gd2 hl⟩)
  exact ⟨fun h9 => absurd h9 (by decide +kernel), fun _ => ⟨fun h9 => absurd h9 (by decide +kernel), fun _ => ⟨fun h9 => absurd h9 (by decide +kernel), fun _ => ⟨fun h9 => absurd h9 (by decide +kernel), fun _ => ⟨fun h9 => absurd h9 (by decide +kernel), fun _ => ⟨fun h9 => absurd h9 (by decide +kernel), fun _ => ⟨fun _ => io ⟨fun _ => ⟨fun h9 => absurd h9 (by decide +kernel), fun _ => e_full (c := 4) (b := fu 6 td) (by omega) (by simp [fu]) hlp ⟨fun _ => st, fun h9 => absurd h9 (by decide +kernel)⟩⟩, fun h9 => absurd h9 (by decide +kernel)⟩, fun h9 => absurd h9 (by decide +kernel)⟩⟩⟩⟩⟩⟩⟩
set_option maxRecDepth 20000 in
theorem e_land_7 {tp B rd td : Nat → Int32} {n r : Nat} {va wr fa pl fh fs : Int32} {wd : Int64} {post : Int32 → Int32 → Int32 → Int32 → Int32 → Int64 → Int32 → Int32 → Int32 → (Nat → Int32) → (Nat → Int32) → Int32 → Int32 → Int32 → Prop} (hn : n ≤ 600) (hr : r ≤ n) (hB : ∀ j, j < n → tp j = B j) (hb : ∀ j, iv (-128) 127 (B j)) (hlp : ¬ fa = 0 → pl < (nI (tF B n r))) (hK0 : ¬ tK B n r = 0) (hC : CB 0 td)
    (hF : ∀ j, 1 ≤ j → j ≤ 2 → ¬ tK B n (ps B n r j) = 2 → (∀ i, 1 ≤ i → i < j → tK B n (ps B n r i) = 2) → ∀ (re be so va : Int32) (wd : Int64) (lf lp : Int32) (td rd : Nat → Int32) (fh fs : Int32) (gd : Int32), post 0 re be so va wd (nI (tF B n (ps B n r j))) lf lp td rd fh fs gd)
    (hT : (∀ j, 1 ≤ j → j ≤ 2 → tK B n (ps B n r j) = 2) → ∀ (va' : Int32) (wd' : Int64) (rd' : Nat → Int32) (gd' : Int32), (¬ mkF B n r 7 td fa 2 = 0 → mkP B n r 7 td fa pl 2 < (nI (tF B n (ps B n r 3)))) → post 1 (nI (tN B n (ps B n r 3))) (nI (tF B n (ps B n r 3))) (sI (tK B n (ps B n r 3))) va' wd' wr (mkF B n r 7 td fa 2) (mkP B n r 7 td fa pl 2) (lD 7 (gd B n r 7 2) (tV B n (ps B n r 1)) (tV B n (ps B n r 2)) (tV B n (ps B n r 3)) td) rd' (lH 7 (tV B n (ps B n r 1)) (tV B n (ps B n r 2)) fh) (lS 7 (tV B n (ps B n r 1)) fs) gd') : q_m_landLine_0 tp (nI (tN B n r)) (nI n) (nI (tF B n r)) (sI (tK B n r)) va wd wr fa pl td rd fh fs 1 (lN 119165551928690) (nI (tF B n r)) post := by
  have hF1 := tF_nx hr hK0
  have htk := tk_le (B := B) hr
  have hl1 : ¬ mkF B n r 7 td fa 0 = 0 → mkP B n r 7 td fa pl 0 < nI (tF B n (tN B n r)) := LP_n hlp hF1.1 (by omega)
  have st : q_m_landLine_60 tp (nI (tN B n r)) (nI n) (nI (tF B n r)) (sI (tK B n r)) va wd wr (mkF B n r 7 td fa 0) (mkP B n r 7 td fa pl 0) td rd fh fs 1 (lN 119165551928690) post := by
    refine e_tok (r := tN B n r) hn htk.2.1 hB hb (fun v1 w1 hv1 _ => ?_)
    refine ⟨fun _ => ⟨fun h9 => absurd h9 (by decide +kernel), fun _ => ⟨fun _ => ⟨fun _ => ⟨fun _ => ⟨fun _ => ⟨fun _ => ⟨fun h9 => absurd h9 (by decide +kernel), fun _ => ?_⟩, fun h9 => absurd h9 (by decide +kernel)⟩, fun h9 => absurd h9 (by decide +kernel)⟩, fun h9 => absurd h9 (by decide +kernel)⟩, fun h9 => absurd h9 (by decide +kernel)⟩, fun h9 => absurd h9 (by decide +kernel)⟩⟩, fun h9 => absurd h9 (by decide +kernel)⟩
    exact e_ladderLine hn hr hB hb hv1 hl1 (fun j a b c d re be so va wd lf lp td rd fh gd => ⟨rfl, hF j a b c d re be so va wd lf lp td rd fh fs gd⟩) (fun hk va2 wd2 rd2 gd2 hl => ⟨rfl, hT hk va2 wd2 rd2 gd2 hl⟩)
  have hfu : fu 7 td = false := by simp [fu]
  have e1 : mkF B n r 7 td fa 0 = fa := by show mF (!fu 7 td) fa 3 = fa; rw [hfu]; rfl
  have e2 : mkP B n r 7 td fa pl 0 = pl := by show mP (!fu 7 td) fa pl _ = pl; rw [hfu]; rfl
  rw [e1, e2] at st
  exact ⟨fun h9 => absurd h9 (by decide +kernel), fun _ => ⟨fun h9 => absurd h9 (by decide +kernel), fun _ => ⟨fun h9 => absurd h9 (by decide +kernel), fun _ => ⟨fun h9 => absurd h9 (by decide +kernel), fun _ => ⟨fun h9 => absurd h9 (by decide +kernel), fun _ => ⟨fun h9 => absurd h9 (by decide +kernel), fun _ => ⟨fun h9 => absurd h9 (by decide +kernel), fun _ => ⟨fun _ => io ⟨fun _ => ⟨fun _ => ⟨fun _ => st, fun h9 => absurd h9 (by decide +kernel)⟩, fun h9 => absurd h9 (by decide +kernel)⟩, fun h9 => absurd h9 (by decide +kernel)⟩, fun h9 => absurd h9 (by decide +kernel)⟩⟩⟩⟩⟩⟩⟩⟩
set_option maxRecDepth 20000 in
theorem e_land_8 {tp B rd td : Nat → Int32} {n r : Nat} {va wr fa pl fh fs : Int32} {wd : Int64} {post : Int32 → Int32 → Int32 → Int32 → Int32 → Int64 → Int32 → Int32 → Int32 → (Nat → Int32) → (Nat → Int32) → Int32 → Int32 → Int32 → Prop} (hn : n ≤ 600) (hr : r ≤ n) (hB : ∀ j, j < n → tp j = B j) (hb : ∀ j, iv (-128) 127 (B j)) (hlp : ¬ fa = 0 → pl < (nI (tF B n r))) (hK0 : ¬ tK B n r = 0) (hC : CB 0 td)
    (hF : ∀ j, 1 ≤ j → j ≤ 2 → ¬ tK B n (ps B n r j) = 2 → (∀ i, 1 ≤ i → i < j → tK B n (ps B n r i) = 2) → ∀ (re be so va : Int32) (wd : Int64) (lf lp : Int32) (td rd : Nat → Int32) (fh fs : Int32) (gd : Int32), post 0 re be so va wd (nI (tF B n (ps B n r j))) lf lp td rd fh fs gd)
    (hT : (∀ j, 1 ≤ j → j ≤ 2 → tK B n (ps B n r j) = 2) → ∀ (va' : Int32) (wd' : Int64) (rd' : Nat → Int32) (gd' : Int32), (¬ mkF B n r 8 td fa 2 = 0 → mkP B n r 8 td fa pl 2 < (nI (tF B n (ps B n r 3)))) → post 1 (nI (tN B n (ps B n r 3))) (nI (tF B n (ps B n r 3))) (sI (tK B n (ps B n r 3))) va' wd' wr (mkF B n r 8 td fa 2) (mkP B n r 8 td fa pl 2) (lD 8 (gd B n r 8 2) (tV B n (ps B n r 1)) (tV B n (ps B n r 2)) (tV B n (ps B n r 3)) td) rd' (lH 8 (tV B n (ps B n r 1)) (tV B n (ps B n r 2)) fh) (lS 8 (tV B n (ps B n r 1)) fs) gd') : q_m_landLine_0 tp (nI (tN B n r)) (nI n) (nI (tF B n r)) (sI (tK B n r)) va wd wr fa pl td rd fh fs 1 (lN 126896661030258) (nI (tF B n r)) post := by
  have hF1 := tF_nx hr hK0
  have htk := tk_le (B := B) hr
  have hl1 : ¬ mkF B n r 8 td fa 0 = 0 → mkP B n r 8 td fa pl 0 < nI (tF B n (tN B n r)) := LP_n hlp hF1.1 (by omega)
  have st : q_m_landLine_60 tp (nI (tN B n r)) (nI n) (nI (tF B n r)) (sI (tK B n r)) va wd wr (mkF B n r 8 td fa 0) (mkP B n r 8 td fa pl 0) td rd fh fs 1 (lN 126896661030258) post := by
    refine e_tok (r := tN B n r) hn htk.2.1 hB hb (fun v1 w1 hv1 _ => ?_)
    refine ⟨fun _ => ⟨fun h9 => absurd h9 (by decide +kernel), fun _ => ⟨fun _ => ⟨fun _ => ⟨fun _ => ⟨fun _ => ⟨fun _ => ⟨fun _ => ⟨fun h9 => absurd h9 (by decide +kernel), fun _ => ?_⟩, fun h9 => absurd h9 (by decide +kernel)⟩, fun h9 => absurd h9 (by decide +kernel)⟩, fun h9 => absurd h9 (by decide +kernel)⟩, fun h9 => absurd h9 (by decide +kernel)⟩, fun h9 => absurd h9 (by decide +kernel)⟩, fun h9 => absurd h9 (by decide +kernel)⟩⟩, fun h9 => absurd h9 (by decide +kernel)⟩
    exact e_singerLine hn hr hB hb hv1 hl1 (hC.2 rfl).1 (fun j a b c d re be so va wd lf lp td rd fh gd => ⟨rfl, hF j a b c d re be so va wd lf lp td rd fh fs gd⟩) (fun hk va2 wd2 rd2 gd2 hl => ⟨rfl, hT hk va2 wd2 rd2 gd2 hl⟩)
  exact ⟨fun h9 => absurd h9 (by decide +kernel), fun _ => ⟨fun h9 => absurd h9 (by decide +kernel), fun _ => ⟨fun h9 => absurd h9 (by decide +kernel), fun _ => ⟨fun h9 => absurd h9 (by decide +kernel), fun _ => ⟨fun h9 => absurd h9 (by decide +kernel), fun _ => ⟨fun h9 => absurd h9 (by decide +kernel), fun _ => ⟨fun h9 => absurd h9 (by decide +kernel), fun _ => ⟨fun h9 => absurd h9 (by decide +kernel), fun _ => ⟨fun _ => io ⟨fun _ => ⟨fun _ => ⟨fun h9 => absurd h9 (by decide +kernel), fun _ => e_full (c := 1) (b := fu 8 td) (by omega) (by simp [fu]) hlp st⟩, fun h9 => absurd h9 (by decide +kernel)⟩, fun h9 => absurd h9 (by decide +kernel)⟩, fun h9 => absurd h9 (by decide +kernel)⟩⟩⟩⟩⟩⟩⟩⟩⟩
set_option maxRecDepth 20000 in
theorem e_land_9 {tp B rd td : Nat → Int32} {n r : Nat} {va wr fa pl fh fs : Int32} {wd : Int64} {post : Int32 → Int32 → Int32 → Int32 → Int32 → Int64 → Int32 → Int32 → Int32 → (Nat → Int32) → (Nat → Int32) → Int32 → Int32 → Int32 → Prop} (hn : n ≤ 600) (hr : r ≤ n) (hB : ∀ j, j < n → tp j = B j) (hb : ∀ j, iv (-128) 127 (B j)) (hlp : ¬ fa = 0 → pl < (nI (tF B n r))) (hK0 : ¬ tK B n r = 0) (hC : CB 0 td)
    (hF : ∀ j, 1 ≤ j → j ≤ 2 → ¬ tK B n (ps B n r j) = 2 → (∀ i, 1 ≤ i → i < j → tK B n (ps B n r i) = 2) → ∀ (re be so va : Int32) (wd : Int64) (lf lp : Int32) (td rd : Nat → Int32) (fh fs : Int32) (gd : Int32), post 0 re be so va wd (nI (tF B n (ps B n r j))) lf lp td rd fh fs gd)
    (hT : (∀ j, 1 ≤ j → j ≤ 2 → tK B n (ps B n r j) = 2) → ∀ (va' : Int32) (wd' : Int64) (rd' : Nat → Int32) (gd' : Int32), (¬ mkF B n r 9 td fa 2 = 0 → mkP B n r 9 td fa pl 2 < (nI (tF B n (ps B n r 3)))) → post 1 (nI (tN B n (ps B n r 3))) (nI (tF B n (ps B n r 3))) (sI (tK B n (ps B n r 3))) va' wd' wr (mkF B n r 9 td fa 2) (mkP B n r 9 td fa pl 2) (lD 9 (gd B n r 9 2) (tV B n (ps B n r 1)) (tV B n (ps B n r 2)) (tV B n (ps B n r 3)) td) rd' (lH 9 (tV B n (ps B n r 1)) (tV B n (ps B n r 2)) fh) (lS 9 (tV B n (ps B n r 1)) fs) gd') : q_m_landLine_0 tp (nI (tN B n r)) (nI n) (nI (tF B n r)) (sI (tK B n r)) va wd wr fa pl td rd fh fs 1 (lN 461414299507) (nI (tF B n r)) post := by
  have hF1 := tF_nx hr hK0
  have htk := tk_le (B := B) hr
  have hl1 : ¬ mkF B n r 9 td fa 0 = 0 → mkP B n r 9 td fa pl 0 < nI (tF B n (tN B n r)) := LP_n hlp hF1.1 (by omega)
  have st : q_m_landLine_60 tp (nI (tN B n r)) (nI n) (nI (tF B n r)) (sI (tK B n r)) va wd wr (mkF B n r 9 td fa 0) (mkP B n r 9 td fa pl 0) td rd fh fs 1 (lN 461414299507) post := by
    refine e_tok (r := tN B n r) hn htk.2.1 hB hb (fun v1 w1 hv1 _ => ?_)
    refine ⟨fun _ => ⟨fun h9 => absurd h9 (by decide +kernel), fun _ => ⟨fun _ => ⟨fun _ => ⟨fun _ => ⟨fun _ => ⟨fun _ => ⟨fun _ => ⟨fun _ => ?_, fun h9 => absurd h9 (by decide +kernel)⟩, fun h9 => absurd h9 (by decide +kernel)⟩, fun h9 => absurd h9 (by decide +kernel)⟩, fun h9 => absurd h9 (by decide +kernel)⟩, fun h9 => absurd h9 (by decide +kernel)⟩, fun h9 => absurd h9 (by decide +kernel)⟩, fun h9 => absurd h9 (by decide +kernel)⟩⟩, fun h9 => absurd h9 (by decide +kernel)⟩
    exact e_knowsLine hn hr hB hb hv1 hl1 (fun j a b c d re be so va wd lf lp td rd fs gd => ⟨rfl, hF j a b c d re be so va wd lf lp td rd fh fs gd⟩) (fun hk va2 wd2 rd2 gd2 hl => ⟨rfl, hT hk va2 wd2 rd2 gd2 hl⟩)
  have hfu : fu 9 td = false := by simp [fu]
  have e1 : mkF B n r 9 td fa 0 = fa := by show mF (!fu 9 td) fa 3 = fa; rw [hfu]; rfl
  have e2 : mkP B n r 9 td fa pl 0 = pl := by show mP (!fu 9 td) fa pl _ = pl; rw [hfu]; rfl
  rw [e1, e2] at st
  exact ⟨fun h9 => absurd h9 (by decide +kernel), fun _ => ⟨fun h9 => absurd h9 (by decide +kernel), fun _ => ⟨fun h9 => absurd h9 (by decide +kernel), fun _ => ⟨fun h9 => absurd h9 (by decide +kernel), fun _ => ⟨fun h9 => absurd h9 (by decide +kernel), fun _ => ⟨fun h9 => absurd h9 (by decide +kernel), fun _ => ⟨fun h9 => absurd h9 (by decide +kernel), fun _ => ⟨fun h9 => absurd h9 (by decide +kernel), fun _ => ⟨fun h9 => absurd h9 (by decide +kernel), fun _ => ⟨fun h9 => absurd h9 (by decide +kernel), fun _ => io ⟨fun _ => ⟨fun _ => ⟨fun _ => st, fun h9 => absurd h9 (by decide +kernel)⟩, fun h9 => absurd h9 (by decide +kernel)⟩, fun h9 => absurd h9 (by decide +kernel)⟩⟩⟩⟩⟩⟩⟩⟩⟩⟩⟩
theorem e_landNo {tp td rd : Nat → Int32} {re n be so va wr lf lp fh fs gd a : Int32} {x wd : Int64} {post : Int32 → Int32 → Int32 → Int32 → Int32 → Int64 → Int32 → Int32 → Int32 → (Nat → Int32) → (Nat → Int32) → Int32 → Int32 → Int32 → Prop} (hx : ∀ j, 0 ≤ j → j < 10 → ¬ x = lN (wC.getD j 0)) (hp : post 0 re be so va wd be lf lp td rd fh fs gd) : q_m_landLine_0 tp re n be so va wd wr lf lp td rd fh fs gd x a post :=
  ⟨fun h9 => absurd ((lg_cmp_eq _ _).mp h9) (hx 0 (by omega) (by omega)), fun _ => ⟨fun h9 => absurd ((lg_cmp_eq _ _).mp h9) (hx 1 (by omega) (by omega)), fun _ => ⟨fun h9 => absurd ((lg_cmp_eq _ _).mp h9) (hx 2 (by omega) (by omega)), fun _ => ⟨fun h9 => absurd ((lg_cmp_eq _ _).mp h9) (hx 3 (by omega) (by omega)), fun _ => ⟨fun h9 => absurd ((lg_cmp_eq _ _).mp h9) (hx 4 (by omega) (by omega)), fun _ => ⟨fun h9 => absurd ((lg_cmp_eq _ _).mp h9) (hx 5 (by omega) (by omega)), fun _ => ⟨fun h9 => absurd ((lg_cmp_eq _ _).mp h9) (hx 6 (by omega) (by omega)), fun _ => ⟨fun h9 => absurd ((lg_cmp_eq _ _).mp h9) (hx 7 (by omega) (by omega)), fun _ => ⟨fun h9 => absurd ((lg_cmp_eq _ _).mp h9) (hx 8 (by omega) (by omega)), fun _ => ⟨fun _ => zi ⟨rfl, hp⟩, fun h9 => absurd ((lg_cmp_eq _ _).mp h9) (hx 9 (by omega) (by omega))⟩⟩⟩⟩⟩⟩⟩⟩⟩⟩
theorem e_eveNo {tp td rd : Nat → Int32} {re n be so va wr lf lp gd a : Int32} {x wd : Int64} {post : Int32 → Int32 → Int32 → Int32 → Int32 → Int64 → Int32 → Int32 → Int32 → (Nat → Int32) → (Nat → Int32) → Int32 → Prop} (hx : ∀ j, 10 ≤ j → j < 16 → ¬ x = lN (wC.getD j 0)) (hp : post 0 re be so va wd be lf lp td rd gd) : q_m_eveningLine_0 tp re n be so va wd wr lf lp td rd gd x a post :=
  ⟨fun _ => ⟨fun _ => ⟨fun _ => ⟨fun _ => ⟨fun _ => ⟨fun _ => ⟨fun h9 => absurd rfl h9, fun _ => ⟨rfl, hp⟩⟩, fun h9 => absurd ((lg_cmp_eq _ _).mp h9) (hx 15 (by omega) (by omega))⟩, fun h9 => absurd ((lg_cmp_eq _ _).mp h9) (hx 14 (by omega) (by omega))⟩, fun h9 => absurd ((lg_cmp_eq _ _).mp h9) (hx 13 (by omega) (by omega))⟩, fun h9 => absurd ((lg_cmp_eq _ _).mp h9) (hx 12 (by omega) (by omega))⟩, fun h9 => absurd ((lg_cmp_eq _ _).mp h9) (hx 11 (by omega) (by omega))⟩, fun h9 => absurd ((lg_cmp_eq _ _).mp h9) (hx 10 (by omega) (by omega))⟩
theorem e_sigNo {tp td rd : Nat → Int32} {re n be so va wr lf lp gd a : Int32} {x wd : Int64} {post : Int32 → Int32 → Int32 → Int32 → Int32 → Int64 → Int32 → Int32 → Int32 → (Nat → Int32) → (Nat → Int32) → Int32 → Prop} (hx : ∀ j, 16 ≤ j → j < 18 → ¬ x = lN (wC.getD j 0)) (hp : post 0 re be so va wd be lf lp td rd gd) : q_m_sightLine_0 tp re n be so va wd wr lf lp td rd gd x a post :=
  ⟨fun h9 => absurd ((lg_cmp_eq _ _).mp h9) (hx 16 (by omega) (by omega)), fun _ => ⟨fun h9 => absurd ((lg_cmp_eq _ _).mp h9) (hx 17 (by omega) (by omega)), fun _ => ⟨rfl, hp⟩⟩⟩
theorem e_choNo {tp td rd : Nat → Int32} {re n be so va wr lf lp gd a : Int32} {x wd : Int64} {post : Int32 → Int32 → Int32 → Int32 → Int32 → Int64 → Int32 → Int32 → Int32 → (Nat → Int32) → (Nat → Int32) → Int32 → Prop} (hx : ∀ j, 18 ≤ j → j < 20 → ¬ x = lN (wC.getD j 0)) (hp : post 0 re be so va wd be lf lp td rd gd) : q_m_choirLine_0 tp re n be so va wd wr lf lp td rd gd x a post :=
  ⟨fun h9 => absurd ((lg_cmp_eq _ _).mp h9) (hx 18 (by omega) (by omega)), fun _ => ⟨fun h9 => absurd ((lg_cmp_eq _ _).mp h9) (hx 19 (by omega) (by omega)), fun _ => ⟨rfl, hp⟩⟩⟩
set_option maxRecDepth 20000 in
theorem e_eve_10 {tp B rd td : Nat → Int32} {n r : Nat} {va wr fa pl : Int32} {wd : Int64} {post : Int32 → Int32 → Int32 → Int32 → Int32 → Int64 → Int32 → Int32 → Int32 → (Nat → Int32) → (Nat → Int32) → Int32 → Prop} (hn : n ≤ 600) (hr : r ≤ n) (hB : ∀ j, j < n → tp j = B j) (hb : ∀ j, iv (-128) 127 (B j)) (hlp : ¬ fa = 0 → pl < (nI (tF B n r))) (hK0 : ¬ tK B n r = 0) (hC : CB 1 td)
    (hF : ∀ j, 1 ≤ j → j ≤ 2 → ¬ tK B n (ps B n r j) = 2 → (∀ i, 1 ≤ i → i < j → tK B n (ps B n r i) = 2) → ∀ (re be so va : Int32) (wd : Int64) (lf lp : Int32) (td rd : Nat → Int32) (gd : Int32), post 0 re be so va wd (nI (tF B n (ps B n r j))) lf lp td rd gd)
    (hT : (∀ j, 1 ≤ j → j ≤ 2 → tK B n (ps B n r j) = 2) → ∀ (va' : Int32) (wd' : Int64) (rd' : Nat → Int32) (gd' : Int32), (¬ mkF B n r 10 td fa 2 = 0 → mkP B n r 10 td fa pl 2 < (nI (tF B n (ps B n r 3)))) → post 1 (nI (tN B n (ps B n r 3))) (nI (tF B n (ps B n r 3))) (sI (tK B n (ps B n r 3))) va' wd' wr (mkF B n r 10 td fa 2) (mkP B n r 10 td fa pl 2) (lD 10 (gd B n r 10 2) (tV B n (ps B n r 1)) (tV B n (ps B n r 2)) (tV B n (ps B n r 3)) td) rd' gd') : q_m_eveningLine_0 tp (nI (tN B n r)) (nI n) (nI (tF B n r)) (sI (tK B n r)) va wd wr fa pl td rd 1 (lN 422608071022) (nI (tF B n r)) post := by
  have hF1 := tF_nx hr hK0
  have htk := tk_le (B := B) hr
  have hl1 : ¬ mkF B n r 10 td fa 0 = 0 → mkP B n r 10 td fa pl 0 < nI (tF B n (tN B n r)) := LP_n hlp hF1.1 (by omega)
  refine ⟨fun h9 => absurd h9 (by decide +kernel), fun _ => ⟨fun _ => e_full (c := 0) (b := fu 10 td) (by omega) (by simp [fu]) hlp (e_tok (r := tN B n r) hn htk.2.1 hB hb (fun v1 w1 hv1 _ => ?_)), fun h9 => absurd h9 (by decide +kernel)⟩⟩
  intro rd1 e1
  rw [c_2] at e1
  refine e_take (k := 1) (i := 1) (c := cW 10 0 (tV B n (ps B n r 1)) (tV B n (ps B n r 1))) (rd := rd1) (g := gd B n r 10 0) hn hr hB hb hv1 hl1 (by omega) rfl (fun hk => iz (hF 1 (by omega) (by omega) hk (be1 (P := fun j => tK B n (ps B n r j) = 2)) _ _ _ _ _ _ _ _ _ _)) (fun k1 va1 wd1 hv2 hl2 => oi ?_)
  refine ⟨fun h9 => absurd h9 (by decide +kernel), fun _ => ⟨fun _ => ?_, fun h9 => absurd h9 (by decide +kernel)⟩⟩
  refine e_take (k := 2) (i := 2) (c := cW 10 1 (tV B n (ps B n r 1)) (tV B n (ps B n r 2))) (g := gd B n r 10 1) hn hr hB hb hv2 hl2 (by omega) rfl (fun hk => zi (hF 2 (by omega) (by omega) hk (be2 (P := fun j => tK B n (ps B n r j) = 2) k1) _ _ _ _ _ _ _ _ _ _)) (fun k2 va2 wd2 hv3 hl3 => io ?_)
  intro rd3 e3
  rw [c_0, e1] at e3
  have g := hT (al2 (P := fun j => tK B n (ps B n r j) = 2) k1 k2) va2 wd2 rd3 (gI (gd B n r 10 2)) hl3
  rw [show lD 10 (gd B n r 10 2) (tV B n (ps B n r 1)) (tV B n (ps B n r 2)) (tV B n (ps B n r 3)) td = (if td 0 = 40 then td else upd (upd (upd (upd td 0 (td 0 + 1)) (Int32.toNatClampNeg ((1 + 3 * td 0) + 0)) 0) (Int32.toNatClampNeg ((1 + 3 * td 0) + 1)) (tV B n (ps B n r 1))) (Int32.toNatClampNeg ((1 + 3 * td 0) + 2)) (tV B n (ps B n r 2))) from rfl] at g
  have r0 : rd3 0 = 0 := by rw [e3]; exact up_s
  have r1 : rd3 1 = (tV B n (ps B n r 1)) := by rw [e3, up_n (by omega), up_n (by omega), up_s]
  have r2 : rd3 2 = (tV B n (ps B n r 2)) := by rw [e3, up_n (by omega), up_s]
  refine e_keep (W := 3) (by omega) hC.1 (fun h => ?_) (fun h => ?_)
  · rw [if_pos h] at g; exact g
  · rw [if_neg h] at g
    have e : kp td rd3 3 3 = upd (upd (upd (upd td 0 (td 0 + 1)) (Int32.toNatClampNeg ((1 + 3 * td 0) + 0)) (rd3 0)) (Int32.toNatClampNeg ((1 + 3 * td 0) + 1)) (rd3 1)) (Int32.toNatClampNeg ((1 + 3 * td 0) + 2)) (rd3 2) := rfl
    rw [e, r0, r1, r2]
    exact g
set_option maxRecDepth 20000 in
theorem e_eve_11 {tp B rd td : Nat → Int32} {n r : Nat} {va wr fa pl : Int32} {wd : Int64} {post : Int32 → Int32 → Int32 → Int32 → Int32 → Int64 → Int32 → Int32 → Int32 → (Nat → Int32) → (Nat → Int32) → Int32 → Prop} (hn : n ≤ 600) (hr : r ≤ n) (hB : ∀ j, j < n → tp j = B j) (hb : ∀ j, iv (-128) 127 (B j)) (hlp : ¬ fa = 0 → pl < (nI (tF B n r))) (hK0 : ¬ tK B n r = 0) (hC : CB 1 td)
    (hF : ∀ j, 1 ≤ j → j ≤ 2 → ¬ tK B n (ps B n r j) = 2 → (∀ i, 1 ≤ i → i < j → tK B n (ps B n r i) = 2) → ∀ (re be so va : Int32) (wd : Int64) (lf lp : Int32) (td rd : Nat → Int32) (gd : Int32), post 0 re be so va wd (nI (tF B n (ps B n r j))) lf lp td rd gd)
    (hT : (∀ j, 1 ≤ j → j ≤ 2 → tK B n (ps B n r j) = 2) → ∀ (va' : Int32) (wd' : Int64) (rd' : Nat → Int32) (gd' : Int32), (¬ mkF B n r 11 td fa 2 = 0 → mkP B n r 11 td fa pl 2 < (nI (tF B n (ps B n r 3)))) → post 1 (nI (tN B n (ps B n r 3))) (nI (tF B n (ps B n r 3))) (sI (tK B n (ps B n r 3))) va' wd' wr (mkF B n r 11 td fa 2) (mkP B n r 11 td fa pl 2) (lD 11 (gd B n r 11 2) (tV B n (ps B n r 1)) (tV B n (ps B n r 2)) (tV B n (ps B n r 3)) td) rd' gd') : q_m_eveningLine_0 tp (nI (tN B n r)) (nI n) (nI (tF B n r)) (sI (tK B n r)) va wd wr fa pl td rd 1 (lN 1936289383) (nI (tF B n r)) post := by
  have hF1 := tF_nx hr hK0
  have htk := tk_le (B := B) hr
  have hl1 : ¬ mkF B n r 11 td fa 0 = 0 → mkP B n r 11 td fa pl 0 < nI (tF B n (tN B n r)) := LP_n hlp hF1.1 (by omega)
  refine ⟨fun _ => ⟨fun h9 => absurd h9 (by decide +kernel), fun _ => ⟨fun _ => e_full (c := 0) (b := fu 11 td) (by omega) (by simp [fu]) hlp (e_tok (r := tN B n r) hn htk.2.1 hB hb (fun v1 w1 hv1 _ => ?_)), fun h9 => absurd h9 (by decide +kernel)⟩⟩, fun h9 => absurd h9 (by decide +kernel)⟩
  intro rd1 e1
  rw [c_2] at e1
  refine e_take (k := 1) (i := 1) (c := cW 11 0 (tV B n (ps B n r 1)) (tV B n (ps B n r 1))) (rd := rd1) (g := gd B n r 11 0) hn hr hB hb hv1 hl1 (by omega) rfl (fun hk => iz (hF 1 (by omega) (by omega) hk (be1 (P := fun j => tK B n (ps B n r j) = 2)) _ _ _ _ _ _ _ _ _ _)) (fun k1 va1 wd1 hv2 hl2 => oi ?_)
  refine ⟨fun h9 => absurd h9 (by decide +kernel), fun _ => ⟨fun _ => ?_, fun h9 => absurd h9 (by decide +kernel)⟩⟩
  refine e_take (k := 2) (i := 2) (c := cW 11 1 (tV B n (ps B n r 1)) (tV B n (ps B n r 2))) (g := gd B n r 11 1) hn hr hB hb hv2 hl2 (by omega) rfl (fun hk => zi (hF 2 (by omega) (by omega) hk (be2 (P := fun j => tK B n (ps B n r j) = 2) k1) _ _ _ _ _ _ _ _ _ _)) (fun k2 va2 wd2 hv3 hl3 => io ?_)
  intro rd3 e3
  rw [c_0, e1] at e3
  have g := hT (al2 (P := fun j => tK B n (ps B n r j) = 2) k1 k2) va2 wd2 rd3 (gI (gd B n r 11 2)) hl3
  rw [show lD 11 (gd B n r 11 2) (tV B n (ps B n r 1)) (tV B n (ps B n r 2)) (tV B n (ps B n r 3)) td = (if td 0 = 40 then td else upd (upd (upd (upd td 0 (td 0 + 1)) (Int32.toNatClampNeg ((1 + 3 * td 0) + 0)) 1) (Int32.toNatClampNeg ((1 + 3 * td 0) + 1)) (tV B n (ps B n r 1))) (Int32.toNatClampNeg ((1 + 3 * td 0) + 2)) (tV B n (ps B n r 2))) from rfl] at g
  have r0 : rd3 0 = 1 := by rw [e3]; exact up_s
  have r1 : rd3 1 = (tV B n (ps B n r 1)) := by rw [e3, up_n (by omega), up_n (by omega), up_s]
  have r2 : rd3 2 = (tV B n (ps B n r 2)) := by rw [e3, up_n (by omega), up_s]
  refine e_keep (W := 3) (by omega) hC.1 (fun h => ?_) (fun h => ?_)
  · rw [if_pos h] at g; exact g
  · rw [if_neg h] at g
    have e : kp td rd3 3 3 = upd (upd (upd (upd td 0 (td 0 + 1)) (Int32.toNatClampNeg ((1 + 3 * td 0) + 0)) (rd3 0)) (Int32.toNatClampNeg ((1 + 3 * td 0) + 1)) (rd3 1)) (Int32.toNatClampNeg ((1 + 3 * td 0) + 2)) (rd3 2) := rfl
    rw [e, r0, r1, r2]
    exact g
set_option maxRecDepth 20000 in
theorem e_eve_12 {tp B rd td : Nat → Int32} {n r : Nat} {va wr fa pl : Int32} {wd : Int64} {post : Int32 → Int32 → Int32 → Int32 → Int32 → Int64 → Int32 → Int32 → Int32 → (Nat → Int32) → (Nat → Int32) → Int32 → Prop} (hn : n ≤ 600) (hr : r ≤ n) (hB : ∀ j, j < n → tp j = B j) (hb : ∀ j, iv (-128) 127 (B j)) (hlp : ¬ fa = 0 → pl < (nI (tF B n r))) (hK0 : ¬ tK B n r = 0) (hC : CB 1 td)
    (hF : ∀ j, 1 ≤ j → j ≤ 2 → ¬ tK B n (ps B n r j) = 2 → (∀ i, 1 ≤ i → i < j → tK B n (ps B n r i) = 2) → ∀ (re be so va : Int32) (wd : Int64) (lf lp : Int32) (td rd : Nat → Int32) (gd : Int32), post 0 re be so va wd (nI (tF B n (ps B n r j))) lf lp td rd gd)
    (hT : (∀ j, 1 ≤ j → j ≤ 2 → tK B n (ps B n r j) = 2) → ∀ (va' : Int32) (wd' : Int64) (rd' : Nat → Int32) (gd' : Int32), (¬ mkF B n r 12 td fa 2 = 0 → mkP B n r 12 td fa pl 2 < (nI (tF B n (ps B n r 3)))) → post 1 (nI (tN B n (ps B n r 3))) (nI (tF B n (ps B n r 3))) (sI (tK B n (ps B n r 3))) va' wd' wr (mkF B n r 12 td fa 2) (mkP B n r 12 td fa pl 2) (lD 12 (gd B n r 12 2) (tV B n (ps B n r 1)) (tV B n (ps B n r 2)) (tV B n (ps B n r 3)) td) rd' gd') : q_m_eveningLine_0 tp (nI (tN B n r)) (nI n) (nI (tF B n r)) (sI (tK B n r)) va wd wr fa pl td rd 1 (lN 33610324346432613) (nI (tF B n r)) post := by
  have hF1 := tF_nx hr hK0
  have htk := tk_le (B := B) hr
  have hl1 : ¬ mkF B n r 12 td fa 0 = 0 → mkP B n r 12 td fa pl 0 < nI (tF B n (tN B n r)) := LP_n hlp hF1.1 (by omega)
  refine ⟨fun _ => ⟨fun _ => ⟨fun h9 => absurd h9 (by decide +kernel), fun _ => ⟨fun _ => e_full (c := 0) (b := fu 12 td) (by omega) (by simp [fu]) hlp (e_tok (r := tN B n r) hn htk.2.1 hB hb (fun v1 w1 hv1 _ => ?_)), fun h9 => absurd h9 (by decide +kernel)⟩⟩, fun h9 => absurd h9 (by decide +kernel)⟩, fun h9 => absurd h9 (by decide +kernel)⟩
  intro rd1 e1
  rw [c_2] at e1
  refine e_take (k := 1) (i := 1) (c := cW 12 0 (tV B n (ps B n r 1)) (tV B n (ps B n r 1))) (rd := rd1) (g := gd B n r 12 0) hn hr hB hb hv1 hl1 (by omega) rfl (fun hk => iz (hF 1 (by omega) (by omega) hk (be1 (P := fun j => tK B n (ps B n r j) = 2)) _ _ _ _ _ _ _ _ _ _)) (fun k1 va1 wd1 hv2 hl2 => oi ?_)
  refine ⟨fun h9 => absurd h9 (by decide +kernel), fun _ => ⟨fun _ => ?_, fun h9 => absurd h9 (by decide +kernel)⟩⟩
  refine e_take (k := 2) (i := 2) (c := cW 12 1 (tV B n (ps B n r 1)) (tV B n (ps B n r 2))) (g := gd B n r 12 1) hn hr hB hb hv2 hl2 (by omega) rfl (fun hk => zi (hF 2 (by omega) (by omega) hk (be2 (P := fun j => tK B n (ps B n r j) = 2) k1) _ _ _ _ _ _ _ _ _ _)) (fun k2 va2 wd2 hv3 hl3 => io ?_)
  intro rd3 e3
  rw [c_0, e1] at e3
  have g := hT (al2 (P := fun j => tK B n (ps B n r j) = 2) k1 k2) va2 wd2 rd3 (gI (gd B n r 12 2)) hl3
  rw [show lD 12 (gd B n r 12 2) (tV B n (ps B n r 1)) (tV B n (ps B n r 2)) (tV B n (ps B n r 3)) td = (if td 0 = 40 then td else upd (upd (upd (upd td 0 (td 0 + 1)) (Int32.toNatClampNeg ((1 + 3 * td 0) + 0)) 2) (Int32.toNatClampNeg ((1 + 3 * td 0) + 1)) (tV B n (ps B n r 1))) (Int32.toNatClampNeg ((1 + 3 * td 0) + 2)) (tV B n (ps B n r 2))) from rfl] at g
  have r0 : rd3 0 = 2 := by rw [e3]; exact up_s
  have r1 : rd3 1 = (tV B n (ps B n r 1)) := by rw [e3, up_n (by omega), up_n (by omega), up_s]
  have r2 : rd3 2 = (tV B n (ps B n r 2)) := by rw [e3, up_n (by omega), up_s]
  refine e_keep (W := 3) (by omega) hC.1 (fun h => ?_) (fun h => ?_)
  · rw [if_pos h] at g; exact g
  · rw [if_neg h] at g
    have e : kp td rd3 3 3 = upd (upd (upd (upd td 0 (td 0 + 1)) (Int32.toNatClampNeg ((1 + 3 * td 0) + 0)) (rd3 0)) (Int32.toNatClampNeg ((1 + 3 * td 0) + 1)) (rd3 1)) (Int32.toNatClampNeg ((1 + 3 * td 0) + 2)) (rd3 2) := rfl
    rw [e, r0, r1, r2]
    exact g
set_option maxRecDepth 20000 in
theorem e_eve_13 {tp B rd td : Nat → Int32} {n r : Nat} {va wr fa pl : Int32} {wd : Int64} {post : Int32 → Int32 → Int32 → Int32 → Int32 → Int64 → Int32 → Int32 → Int32 → (Nat → Int32) → (Nat → Int32) → Int32 → Prop} (hn : n ≤ 600) (hr : r ≤ n) (hB : ∀ j, j < n → tp j = B j) (hb : ∀ j, iv (-128) 127 (B j)) (hlp : ¬ fa = 0 → pl < (nI (tF B n r))) (hK0 : ¬ tK B n r = 0) (hC : CB 1 td)
    (hF : ∀ j, 1 ≤ j → j ≤ 2 → ¬ tK B n (ps B n r j) = 2 → (∀ i, 1 ≤ i → i < j → tK B n (ps B n r i) = 2) → ∀ (re be so va : Int32) (wd : Int64) (lf lp : Int32) (td rd : Nat → Int32) (gd : Int32), post 0 re be so va wd (nI (tF B n (ps B n r j))) lf lp td rd gd)
    (hT : (∀ j, 1 ≤ j → j ≤ 2 → tK B n (ps B n r j) = 2) → ∀ (va' : Int32) (wd' : Int64) (rd' : Nat → Int32) (gd' : Int32), (¬ mkF B n r 13 td fa 2 = 0 → mkP B n r 13 td fa pl 2 < (nI (tF B n (ps B n r 3)))) → post 1 (nI (tN B n (ps B n r 3))) (nI (tF B n (ps B n r 3))) (sI (tK B n (ps B n r 3))) va' wd' wr (mkF B n r 13 td fa 2) (mkP B n r 13 td fa pl 2) (lD 13 (gd B n r 13 2) (tV B n (ps B n r 1)) (tV B n (ps B n r 2)) (tV B n (ps B n r 3)) td) rd' gd') : q_m_eveningLine_0 tp (nI (tN B n r)) (nI n) (nI (tF B n r)) (sI (tK B n r)) va wd wr fa pl td rd 1 (lN 2002873451) (nI (tF B n r)) post := by
  have hF1 := tF_nx hr hK0
  have htk := tk_le (B := B) hr
  have hl1 : ¬ mkF B n r 13 td fa 0 = 0 → mkP B n r 13 td fa pl 0 < nI (tF B n (tN B n r)) := LP_n hlp hF1.1 (by omega)
  refine ⟨fun _ => ⟨fun _ => ⟨fun _ => ⟨fun h9 => absurd h9 (by decide +kernel), fun _ => ⟨fun _ => e_full (c := 0) (b := fu 13 td) (by omega) (by simp [fu]) hlp (e_tok (r := tN B n r) hn htk.2.1 hB hb (fun v1 w1 hv1 _ => ?_)), fun h9 => absurd h9 (by decide +kernel)⟩⟩, fun h9 => absurd h9 (by decide +kernel)⟩, fun h9 => absurd h9 (by decide +kernel)⟩, fun h9 => absurd h9 (by decide +kernel)⟩
  intro rd1 e1
  rw [c_2] at e1
  refine e_take (k := 1) (i := 1) (c := cW 13 0 (tV B n (ps B n r 1)) (tV B n (ps B n r 1))) (rd := rd1) (g := gd B n r 13 0) hn hr hB hb hv1 hl1 (by omega) rfl (fun hk => iz (hF 1 (by omega) (by omega) hk (be1 (P := fun j => tK B n (ps B n r j) = 2)) _ _ _ _ _ _ _ _ _ _)) (fun k1 va1 wd1 hv2 hl2 => oi ?_)
  refine ⟨fun h9 => absurd h9 (by decide +kernel), fun _ => ⟨fun h9 => absurd h9 (by decide +kernel), fun _ => ?_⟩⟩
  refine e_take (k := 2) (i := 2) (c := cW 13 1 (tV B n (ps B n r 1)) (tV B n (ps B n r 2))) (g := gd B n r 13 1) hn hr hB hb hv2 hl2 (by omega) rfl (fun hk => zi (hF 2 (by omega) (by omega) hk (be2 (P := fun j => tK B n (ps B n r j) = 2) k1) _ _ _ _ _ _ _ _ _ _)) (fun k2 va2 wd2 hv3 hl3 => io ?_)
  intro rd3 e3
  rw [c_0, e1] at e3
  have g := hT (al2 (P := fun j => tK B n (ps B n r j) = 2) k1 k2) va2 wd2 rd3 (gI (gd B n r 13 2)) hl3
  rw [show lD 13 (gd B n r 13 2) (tV B n (ps B n r 1)) (tV B n (ps B n r 2)) (tV B n (ps B n r 3)) td = (if td 0 = 40 then td else upd (upd (upd (upd td 0 (td 0 + 1)) (Int32.toNatClampNeg ((1 + 3 * td 0) + 0)) 3) (Int32.toNatClampNeg ((1 + 3 * td 0) + 1)) (tV B n (ps B n r 1))) (Int32.toNatClampNeg ((1 + 3 * td 0) + 2)) (tV B n (ps B n r 2))) from rfl] at g
  have r0 : rd3 0 = 3 := by rw [e3]; exact up_s
  have r1 : rd3 1 = (tV B n (ps B n r 1)) := by rw [e3, up_n (by omega), up_n (by omega), up_s]
  have r2 : rd3 2 = (tV B n (ps B n r 2)) := by rw [e3, up_n (by omega), up_s]
  refine e_keep (W := 3) (by omega) hC.1 (fun h => ?_) (fun h => ?_)
  · rw [if_pos h] at g; exact g
  · rw [if_neg h] at g
    have e : kp td rd3 3 3 = upd (upd (upd (upd td 0 (td 0 + 1)) (Int32.toNatClampNeg ((1 + 3 * td 0) + 0)) (rd3 0)) (Int32.toNatClampNeg ((1 + 3 * td 0) + 1)) (rd3 1)) (Int32.toNatClampNeg ((1 + 3 * td 0) + 2)) (rd3 2) := rfl
    rw [e, r0, r1, r2]
    exact g
set_option maxRecDepth 20000 in
theorem e_eve_14 {tp B rd td : Nat → Int32} {n r : Nat} {va wr fa pl : Int32} {wd : Int64} {post : Int32 → Int32 → Int32 → Int32 → Int32 → Int64 → Int32 → Int32 → Int32 → (Nat → Int32) → (Nat → Int32) → Int32 → Prop} (hn : n ≤ 600) (hr : r ≤ n) (hB : ∀ j, j < n → tp j = B j) (hb : ∀ j, iv (-128) 127 (B j)) (hlp : ¬ fa = 0 → pl < (nI (tF B n r))) (hK0 : ¬ tK B n r = 0) (hC : CB 1 td)
    (hF : ∀ j, 1 ≤ j → j ≤ 1 → ¬ tK B n (ps B n r j) = 2 → (∀ i, 1 ≤ i → i < j → tK B n (ps B n r i) = 2) → ∀ (re be so va : Int32) (wd : Int64) (lf lp : Int32) (td rd : Nat → Int32) (gd : Int32), post 0 re be so va wd (nI (tF B n (ps B n r j))) lf lp td rd gd)
    (hT : (∀ j, 1 ≤ j → j ≤ 1 → tK B n (ps B n r j) = 2) → ∀ (va' : Int32) (wd' : Int64) (rd' : Nat → Int32) (gd' : Int32), (¬ mkF B n r 14 td fa 1 = 0 → mkP B n r 14 td fa pl 1 < (nI (tF B n (ps B n r 2)))) → post 1 (nI (tN B n (ps B n r 2))) (nI (tF B n (ps B n r 2))) (sI (tK B n (ps B n r 2))) va' wd' wr (mkF B n r 14 td fa 1) (mkP B n r 14 td fa pl 1) (lD 14 (gd B n r 14 1) (tV B n (ps B n r 1)) (tV B n (ps B n r 2)) (tV B n (ps B n r 3)) td) rd' gd') : q_m_eveningLine_0 tp (nI (tN B n r)) (nI n) (nI (tF B n r)) (sI (tK B n r)) va wd wr fa pl td rd 1 (lN 427020610914) (nI (tF B n r)) post := by
  have hF1 := tF_nx hr hK0
  have htk := tk_le (B := B) hr
  have hl1 : ¬ mkF B n r 14 td fa 0 = 0 → mkP B n r 14 td fa pl 0 < nI (tF B n (tN B n r)) := LP_n hlp hF1.1 (by omega)
  refine ⟨fun _ => ⟨fun _ => ⟨fun _ => ⟨fun _ => ⟨fun h9 => absurd h9 (by decide +kernel), fun _ => ⟨fun _ => e_full (c := 0) (b := fu 14 td) (by omega) (by simp [fu]) hlp (e_tok (r := tN B n r) hn htk.2.1 hB hb (fun v1 w1 hv1 _ => ?_)), fun h9 => absurd h9 (by decide +kernel)⟩⟩, fun h9 => absurd h9 (by decide +kernel)⟩, fun h9 => absurd h9 (by decide +kernel)⟩, fun h9 => absurd h9 (by decide +kernel)⟩, fun h9 => absurd h9 (by decide +kernel)⟩
  intro rd1 e1
  rw [c_2] at e1
  refine e_take (k := 1) (i := 1) (c := cW 14 0 (tV B n (ps B n r 1)) (tV B n (ps B n r 1))) (rd := rd1) (g := gd B n r 14 0) hn hr hB hb hv1 hl1 (by omega) rfl (fun hk => iz (hF 1 (by omega) (by omega) hk (be1 (P := fun j => tK B n (ps B n r j) = 2)) _ _ _ _ _ _ _ _ _ _)) (fun k1 va1 wd1 hv2 hl2 => oi ?_)
  refine ⟨fun _ => ?_, fun h9 => absurd h9 (by decide +kernel)⟩
  intro rd3 e3
  rw [c_0, e1] at e3
  have g := hT (al1 (P := fun j => tK B n (ps B n r j) = 2) k1) va1 wd1 rd3 (gI (gd B n r 14 1)) hl2
  rw [show lD 14 (gd B n r 14 1) (tV B n (ps B n r 1)) (tV B n (ps B n r 2)) (tV B n (ps B n r 3)) td = (if td 0 = 40 then td else upd (upd (upd (upd td 0 (td 0 + 1)) (Int32.toNatClampNeg ((1 + 3 * td 0) + 0)) 4) (Int32.toNatClampNeg ((1 + 3 * td 0) + 1)) (tV B n (ps B n r 1))) (Int32.toNatClampNeg ((1 + 3 * td 0) + 2)) (-1)) from rfl] at g
  have r0 : rd3 0 = 4 := by rw [e3]; exact up_s
  have r1 : rd3 1 = (tV B n (ps B n r 1)) := by rw [e3, up_n (by omega), up_s]
  have r2 : rd3 2 = (-1) := by rw [e3, up_n (by omega), up_n (by omega), up_s]
  refine e_keep (W := 3) (by omega) hC.1 (fun h => ?_) (fun h => ?_)
  · rw [if_pos h] at g; exact g
  · rw [if_neg h] at g
    have e : kp td rd3 3 3 = upd (upd (upd (upd td 0 (td 0 + 1)) (Int32.toNatClampNeg ((1 + 3 * td 0) + 0)) (rd3 0)) (Int32.toNatClampNeg ((1 + 3 * td 0) + 1)) (rd3 1)) (Int32.toNatClampNeg ((1 + 3 * td 0) + 2)) (rd3 2) := rfl
    rw [e, r0, r1, r2]
    exact g
set_option maxRecDepth 20000 in
theorem e_eve_15 {tp B rd td : Nat → Int32} {n r : Nat} {va wr fa pl : Int32} {wd : Int64} {post : Int32 → Int32 → Int32 → Int32 → Int32 → Int64 → Int32 → Int32 → Int32 → (Nat → Int32) → (Nat → Int32) → Int32 → Prop} (hn : n ≤ 600) (hr : r ≤ n) (hB : ∀ j, j < n → tp j = B j) (hb : ∀ j, iv (-128) 127 (B j)) (hlp : ¬ fa = 0 → pl < (nI (tF B n r))) (hK0 : ¬ tK B n r = 0) (hC : CB 1 td)
    (hF : ∀ j, 1 ≤ j → j ≤ 1 → ¬ tK B n (ps B n r j) = 2 → (∀ i, 1 ≤ i → i < j → tK B n (ps B n r i) = 2) → ∀ (re be so va : Int32) (wd : Int64) (lf lp : Int32) (td rd : Nat → Int32) (gd : Int32), post 0 re be so va wd (nI (tF B n (ps B n r j))) lf lp td rd gd)
    (hT : (∀ j, 1 ≤ j → j ≤ 1 → tK B n (ps B n r j) = 2) → ∀ (va' : Int32) (wd' : Int64) (rd' : Nat → Int32) (gd' : Int32), (¬ mkF B n r 15 td fa 1 = 0 → mkP B n r 15 td fa pl 1 < (nI (tF B n (ps B n r 2)))) → post 1 (nI (tN B n (ps B n r 2))) (nI (tF B n (ps B n r 2))) (sI (tK B n (ps B n r 2))) va' wd' wr (mkF B n r 15 td fa 1) (mkP B n r 15 td fa pl 1) (lD 15 (gd B n r 15 1) (tV B n (ps B n r 1)) (tV B n (ps B n r 2)) (tV B n (ps B n r 3)) td) rd' gd') : q_m_eveningLine_0 tp (nI (tN B n r)) (nI n) (nI (tF B n r)) (sI (tK B n r)) va wd wr fa pl td rd 1 (lN 28259043934301796) (nI (tF B n r)) post := by
  have hF1 := tF_nx hr hK0
  have htk := tk_le (B := B) hr
  have hl1 : ¬ mkF B n r 15 td fa 0 = 0 → mkP B n r 15 td fa pl 0 < nI (tF B n (tN B n r)) := LP_n hlp hF1.1 (by omega)
  refine ⟨fun _ => ⟨fun _ => ⟨fun _ => ⟨fun _ => ⟨fun _ => ⟨fun h9 => absurd h9 (by decide +kernel), fun _ => ⟨fun _ => e_full (c := 0) (b := fu 15 td) (by omega) (by simp [fu]) hlp (e_tok (r := tN B n r) hn htk.2.1 hB hb (fun v1 w1 hv1 _ => ?_)), fun h9 => absurd h9 (by decide +kernel)⟩⟩, fun h9 => absurd h9 (by decide +kernel)⟩, fun h9 => absurd h9 (by decide +kernel)⟩, fun h9 => absurd h9 (by decide +kernel)⟩, fun h9 => absurd h9 (by decide +kernel)⟩, fun h9 => absurd h9 (by decide +kernel)⟩
  intro rd1 e1
  rw [c_2] at e1
  refine e_take (k := 1) (i := 1) (c := cW 15 0 (tV B n (ps B n r 1)) (tV B n (ps B n r 1))) (rd := rd1) (g := gd B n r 15 0) hn hr hB hb hv1 hl1 (by omega) rfl (fun hk => iz (hF 1 (by omega) (by omega) hk (be1 (P := fun j => tK B n (ps B n r j) = 2)) _ _ _ _ _ _ _ _ _ _)) (fun k1 va1 wd1 hv2 hl2 => oi ?_)
  refine ⟨fun _ => ?_, fun h9 => absurd h9 (by decide +kernel)⟩
  intro rd3 e3
  rw [c_0, e1] at e3
  have g := hT (al1 (P := fun j => tK B n (ps B n r j) = 2) k1) va1 wd1 rd3 (gI (gd B n r 15 1)) hl2
  rw [show lD 15 (gd B n r 15 1) (tV B n (ps B n r 1)) (tV B n (ps B n r 2)) (tV B n (ps B n r 3)) td = (if td 0 = 40 then td else upd (upd (upd (upd td 0 (td 0 + 1)) (Int32.toNatClampNeg ((1 + 3 * td 0) + 0)) 5) (Int32.toNatClampNeg ((1 + 3 * td 0) + 1)) (tV B n (ps B n r 1))) (Int32.toNatClampNeg ((1 + 3 * td 0) + 2)) (-1)) from rfl] at g
  have r0 : rd3 0 = 5 := by rw [e3]; exact up_s
  have r1 : rd3 1 = (tV B n (ps B n r 1)) := by rw [e3, up_n (by omega), up_s]
  have r2 : rd3 2 = (-1) := by rw [e3, up_n (by omega), up_n (by omega), up_s]
  refine e_keep (W := 3) (by omega) hC.1 (fun h => ?_) (fun h => ?_)
  · rw [if_pos h] at g; exact g
  · rw [if_neg h] at g
    have e : kp td rd3 3 3 = upd (upd (upd (upd td 0 (td 0 + 1)) (Int32.toNatClampNeg ((1 + 3 * td 0) + 0)) (rd3 0)) (Int32.toNatClampNeg ((1 + 3 * td 0) + 1)) (rd3 1)) (Int32.toNatClampNeg ((1 + 3 * td 0) + 2)) (rd3 2) := rfl
    rw [e, r0, r1, r2]
    exact g
set_option maxRecDepth 20000 in
theorem e_sig_16 {tp B rd td : Nat → Int32} {n r : Nat} {va wr fa pl : Int32} {wd : Int64} {post : Int32 → Int32 → Int32 → Int32 → Int32 → Int64 → Int32 → Int32 → Int32 → (Nat → Int32) → (Nat → Int32) → Int32 → Prop} (hn : n ≤ 600) (hr : r ≤ n) (hB : ∀ j, j < n → tp j = B j) (hb : ∀ j, iv (-128) 127 (B j)) (hlp : ¬ fa = 0 → pl < (nI (tF B n r))) (hK0 : ¬ tK B n r = 0) (hC : CB 2 td)
    (hF : ∀ j, 1 ≤ j → j ≤ 2 → ¬ tK B n (ps B n r j) = 2 → (∀ i, 1 ≤ i → i < j → tK B n (ps B n r i) = 2) → ∀ (re be so va : Int32) (wd : Int64) (lf lp : Int32) (td rd : Nat → Int32) (gd : Int32), post 0 re be so va wd (nI (tF B n (ps B n r j))) lf lp td rd gd)
    (hT : (∀ j, 1 ≤ j → j ≤ 2 → tK B n (ps B n r j) = 2) → ∀ (va' : Int32) (wd' : Int64) (rd' : Nat → Int32) (gd' : Int32), (¬ mkF B n r 16 td fa 2 = 0 → mkP B n r 16 td fa pl 2 < (nI (tF B n (ps B n r 3)))) → post 1 (nI (tN B n (ps B n r 3))) (nI (tF B n (ps B n r 3))) (sI (tK B n (ps B n r 3))) va' wd' wr (mkF B n r 16 td fa 2) (mkP B n r 16 td fa pl 2) (lD 16 (gd B n r 16 2) (tV B n (ps B n r 1)) (tV B n (ps B n r 2)) (tV B n (ps B n r 3)) td) rd' gd') : q_m_sightLine_0 tp (nI (tN B n r)) (nI n) (nI (tF B n r)) (sI (tK B n r)) va wd wr fa pl td rd 1 (lN 448377483876) (nI (tF B n r)) post := by
  have hF1 := tF_nx hr hK0
  have htk := tk_le (B := B) hr
  have hl1 : ¬ mkF B n r 16 td fa 0 = 0 → mkP B n r 16 td fa pl 0 < nI (tF B n (tN B n r)) := LP_n hlp hF1.1 (by omega)
  refine ⟨fun _ => e_full (c := 0) (b := fu 16 td) (by omega) (by simp [fu]) hlp (e_tok (r := tN B n r) hn htk.2.1 hB hb (fun v1 w1 hv1 _ => ?_)), fun h9 => absurd h9 (by decide +kernel)⟩
  refine e_take (k := 1) (i := 1) (c := cW 16 0 (tV B n (ps B n r 1)) (tV B n (ps B n r 1))) (g := gd B n r 16 0) hn hr hB hb hv1 hl1 (by omega) rfl (fun hk => iz (hF 1 (by omega) (by omega) hk (be1 (P := fun j => tK B n (ps B n r j) = 2)) _ _ _ _ _ _ _ _ _ _)) (fun k1 va1 wd1 hv2 hl2 => oi ?_)
  refine e_take (k := 2) (i := 2) (c := cW 16 1 (tV B n (ps B n r 1)) (tV B n (ps B n r 2))) (g := gd B n r 16 1) hn hr hB hb hv2 hl2 (by omega) rfl (fun hk => zi (hF 2 (by omega) (by omega) hk (be2 (P := fun j => tK B n (ps B n r j) = 2) k1) _ _ _ _ _ _ _ _ _ _)) (fun k2 va2 wd2 hv3 hl3 => io ?_)
  refine ⟨fun h9 => absurd h9 (by decide +kernel), fun _ => ⟨vp_in_nI (n := 0) (by decide) (by decide), fun rd3 e3 => ?_⟩⟩
  rw [c_0] at e3
  have g := hT (al2 (P := fun j => tK B n (ps B n r j) = 2) k1 k2) va2 wd2 rd3 (gI (gd B n r 16 2)) hl3
  rw [show lD 16 (gd B n r 16 2) (tV B n (ps B n r 1)) (tV B n (ps B n r 2)) (tV B n (ps B n r 3)) td = (if td 0 = 10 then td else upd (upd (upd (upd td 0 (td 0 + 1)) (Int32.toNatClampNeg ((1 + 3 * td 0) + 0)) 1) (Int32.toNatClampNeg ((1 + 3 * td 0) + 1)) (tV B n (ps B n r 1))) (Int32.toNatClampNeg ((1 + 3 * td 0) + 2)) (tV B n (ps B n r 2))) from rfl] at g
  have r0 : rd3 0 = 1 := by rw [e3]; exact up_s
  have r1 : rd3 1 = (tV B n (ps B n r 1)) := by rw [e3, up_n (by omega), up_n (by omega), up_s]
  have r2 : rd3 2 = (tV B n (ps B n r 2)) := by rw [e3, up_n (by omega), up_s]
  refine e_keep (W := 3) (by omega) (iv_w hC.1 (by decide)) (fun h => ?_) (fun h => ?_)
  · rw [if_pos h] at g; exact g
  · rw [if_neg h] at g
    have e : kp td rd3 3 3 = upd (upd (upd (upd td 0 (td 0 + 1)) (Int32.toNatClampNeg ((1 + 3 * td 0) + 0)) (rd3 0)) (Int32.toNatClampNeg ((1 + 3 * td 0) + 1)) (rd3 1)) (Int32.toNatClampNeg ((1 + 3 * td 0) + 2)) (rd3 2) := rfl
    rw [e, r0, r1, r2]
    exact g
set_option maxRecDepth 20000 in
theorem e_sig_17 {tp B rd td : Nat → Int32} {n r : Nat} {va wr fa pl : Int32} {wd : Int64} {post : Int32 → Int32 → Int32 → Int32 → Int32 → Int64 → Int32 → Int32 → Int32 → (Nat → Int32) → (Nat → Int32) → Int32 → Prop} (hn : n ≤ 600) (hr : r ≤ n) (hB : ∀ j, j < n → tp j = B j) (hb : ∀ j, iv (-128) 127 (B j)) (hlp : ¬ fa = 0 → pl < (nI (tF B n r))) (hK0 : ¬ tK B n r = 0) (hC : CB 2 td)
    (hF : ∀ j, 1 ≤ j → j ≤ 2 → ¬ tK B n (ps B n r j) = 2 → (∀ i, 1 ≤ i → i < j → tK B n (ps B n r i) = 2) → ∀ (re be so va : Int32) (wd : Int64) (lf lp : Int32) (td rd : Nat → Int32) (gd : Int32), post 0 re be so va wd (nI (tF B n (ps B n r j))) lf lp td rd gd)
    (hT : (∀ j, 1 ≤ j → j ≤ 2 → tK B n (ps B n r j) = 2) → ∀ (va' : Int32) (wd' : Int64) (rd' : Nat → Int32) (gd' : Int32), (¬ mkF B n r 17 td fa 2 = 0 → mkP B n r 17 td fa pl 2 < (nI (tF B n (ps B n r 3)))) → post 1 (nI (tN B n (ps B n r 3))) (nI (tF B n (ps B n r 3))) (sI (tK B n (ps B n r 3))) va' wd' wr (mkF B n r 17 td fa 2) (mkP B n r 17 td fa pl 2) (lD 17 (gd B n r 17 2) (tV B n (ps B n r 1)) (tV B n (ps B n r 2)) (tV B n (ps B n r 3)) td) rd' gd') : q_m_sightLine_0 tp (nI (tN B n r)) (nI n) (nI (tF B n r)) (sI (tK B n r)) va wd wr fa pl td rd 1 (lN 1836414053) (nI (tF B n r)) post := by
  have hF1 := tF_nx hr hK0
  have htk := tk_le (B := B) hr
  have hl1 : ¬ mkF B n r 17 td fa 0 = 0 → mkP B n r 17 td fa pl 0 < nI (tF B n (tN B n r)) := LP_n hlp hF1.1 (by omega)
  refine ⟨fun h9 => absurd h9 (by decide +kernel), fun _ => ⟨fun _ => e_full (c := 0) (b := fu 17 td) (by omega) (by simp [fu]) hlp (e_tok (r := tN B n r) hn htk.2.1 hB hb (fun v1 w1 hv1 _ => ?_)), fun h9 => absurd h9 (by decide +kernel)⟩⟩
  refine e_take (k := 1) (i := 1) (c := cW 17 0 (tV B n (ps B n r 1)) (tV B n (ps B n r 1))) (g := gd B n r 17 0) hn hr hB hb hv1 hl1 (by omega) rfl (fun hk => iz (hF 1 (by omega) (by omega) hk (be1 (P := fun j => tK B n (ps B n r j) = 2)) _ _ _ _ _ _ _ _ _ _)) (fun k1 va1 wd1 hv2 hl2 => oi ?_)
  refine e_take (k := 2) (i := 2) (c := cW 17 1 (tV B n (ps B n r 1)) (tV B n (ps B n r 2))) (g := gd B n r 17 1) hn hr hB hb hv2 hl2 (by omega) rfl (fun hk => zi (hF 2 (by omega) (by omega) hk (be2 (P := fun j => tK B n (ps B n r j) = 2) k1) _ _ _ _ _ _ _ _ _ _)) (fun k2 va2 wd2 hv3 hl3 => io ?_)
  refine ⟨fun _ => ⟨vp_in_nI (n := 0) (by decide) (by decide), fun rd3 e3 => ?_⟩, fun h9 => absurd h9 (by decide +kernel)⟩
  rw [c_0] at e3
  have g := hT (al2 (P := fun j => tK B n (ps B n r j) = 2) k1 k2) va2 wd2 rd3 (gI (gd B n r 17 2)) hl3
  rw [show lD 17 (gd B n r 17 2) (tV B n (ps B n r 1)) (tV B n (ps B n r 2)) (tV B n (ps B n r 3)) td = (if td 0 = 10 then td else upd (upd (upd (upd td 0 (td 0 + 1)) (Int32.toNatClampNeg ((1 + 3 * td 0) + 0)) 0) (Int32.toNatClampNeg ((1 + 3 * td 0) + 1)) (tV B n (ps B n r 1))) (Int32.toNatClampNeg ((1 + 3 * td 0) + 2)) (tV B n (ps B n r 2))) from rfl] at g
  have r0 : rd3 0 = 0 := by rw [e3]; exact up_s
  have r1 : rd3 1 = (tV B n (ps B n r 1)) := by rw [e3, up_n (by omega), up_n (by omega), up_s]
  have r2 : rd3 2 = (tV B n (ps B n r 2)) := by rw [e3, up_n (by omega), up_s]
  refine e_keep (W := 3) (by omega) (iv_w hC.1 (by decide)) (fun h => ?_) (fun h => ?_)
  · rw [if_pos h] at g; exact g
  · rw [if_neg h] at g
    have e : kp td rd3 3 3 = upd (upd (upd (upd td 0 (td 0 + 1)) (Int32.toNatClampNeg ((1 + 3 * td 0) + 0)) (rd3 0)) (Int32.toNatClampNeg ((1 + 3 * td 0) + 1)) (rd3 1)) (Int32.toNatClampNeg ((1 + 3 * td 0) + 2)) (rd3 2) := rfl
    rw [e, r0, r1, r2]
    exact g
set_option maxRecDepth 20000 in
theorem e_cho_18 {tp B rd td : Nat → Int32} {n r : Nat} {va wr fa pl : Int32} {wd : Int64} {post : Int32 → Int32 → Int32 → Int32 → Int32 → Int64 → Int32 → Int32 → Int32 → (Nat → Int32) → (Nat → Int32) → Int32 → Prop} (hn : n ≤ 600) (hr : r ≤ n) (hB : ∀ j, j < n → tp j = B j) (hb : ∀ j, iv (-128) 127 (B j)) (hlp : ¬ fa = 0 → pl < (nI (tF B n r))) (hK0 : ¬ tK B n r = 0) (hC : CB 3 td)
    (hF : ∀ j, 1 ≤ j → j ≤ 2 → ¬ tK B n (ps B n r j) = 2 → (∀ i, 1 ≤ i → i < j → tK B n (ps B n r i) = 2) → ∀ (re be so va : Int32) (wd : Int64) (lf lp : Int32) (td rd : Nat → Int32) (gd : Int32), post 0 re be so va wd (nI (tF B n (ps B n r j))) lf lp td rd gd)
    (hT : (∀ j, 1 ≤ j → j ≤ 2 → tK B n (ps B n r j) = 2) → ∀ (va' : Int32) (wd' : Int64) (rd' : Nat → Int32) (gd' : Int32), (¬ mkF B n r 18 td fa 2 = 0 → mkP B n r 18 td fa pl 2 < (nI (tF B n (ps B n r 3)))) → post 1 (nI (tN B n (ps B n r 3))) (nI (tF B n (ps B n r 3))) (sI (tK B n (ps B n r 3))) va' wd' wr (mkF B n r 18 td fa 2) (mkP B n r 18 td fa pl 2) (lD 18 (gd B n r 18 2) (tV B n (ps B n r 1)) (tV B n (ps B n r 2)) (tV B n (ps B n r 3)) td) rd' gd') : q_m_choirLine_0 tp (nI (tN B n r)) (nI n) (nI (tF B n r)) (sI (tK B n r)) va wd wr fa pl td rd 1 (lN 508675318629) (nI (tF B n r)) post := by
  have hF1 := tF_nx hr hK0
  have htk := tk_le (B := B) hr
  have hl1 : ¬ mkF B n r 18 td fa 0 = 0 → mkP B n r 18 td fa pl 0 < nI (tF B n (tN B n r)) := LP_n hlp hF1.1 (by omega)
  refine ⟨fun _ => ⟨fun h9 => absurd h9 (by decide +kernel), fun _ => e_full (c := 0) (b := fu 18 td) (by omega) (by simp [fu]) hlp (e_tok (r := tN B n r) hn htk.2.1 hB hb (fun v1 w1 hv1 _ => ⟨fun _ => ?_, fun h9 => absurd h9 (by decide +kernel)⟩))⟩, fun h9 => absurd h9 (by decide +kernel)⟩
  refine e_take (k := 1) (i := 0) (c := cW 18 0 (tV B n (ps B n r 1)) (tV B n (ps B n r 1))) (g := gd B n r 18 0) hn hr hB hb hv1 hl1 (by omega) rfl (fun hk => iz (hF 1 (by omega) (by omega) hk (be1 (P := fun j => tK B n (ps B n r j) = 2)) _ _ _ _ _ _ _ _ _ _)) (fun k1 va1 wd1 hv2 hl2 => oi ?_)
  refine e_take (k := 2) (i := 1) (c := cW 18 1 (tV B n (ps B n r 1)) (tV B n (ps B n r 2))) (g := gd B n r 18 1) hn hr hB hb hv2 hl2 (by omega) rfl (fun hk => zi (hF 2 (by omega) (by omega) hk (be2 (P := fun j => tK B n (ps B n r j) = 2) k1) _ _ _ _ _ _ _ _ _ _)) (fun k2 va2 wd2 hv3 hl3 => io ?_)
  have r0 : (upd (upd rd 0 (tV B n (ps B n r 1))) 1 (tV B n (ps B n r 2))) 0 = (tV B n (ps B n r 1)) := by rw [up_n (by omega), up_s]
  have r1 : (upd (upd rd 0 (tV B n (ps B n r 1))) 1 (tV B n (ps B n r 2))) 1 = (tV B n (ps B n r 2)) := up_s
  have g := hT (al2 (P := fun j => tK B n (ps B n r j) = 2) k1 k2) va2 wd2 (upd (upd rd 0 (tV B n (ps B n r 1))) 1 (tV B n (ps B n r 2))) (gI (gd B n r 18 2)) hl3
  rw [show lD 18 (gd B n r 18 2) (tV B n (ps B n r 1)) (tV B n (ps B n r 2)) (tV B n (ps B n r 3)) td = (if td 0 = 9 then td else upd (upd (upd td 0 (td 0 + 1)) (Int32.toNatClampNeg ((1 + 2 * td 0) + 0)) (tV B n (ps B n r 1))) (Int32.toNatClampNeg ((1 + 2 * td 0) + 1)) (tV B n (ps B n r 2))) from rfl] at g
  refine e_keep (W := 2) (by omega) (iv_w hC.1 (by decide)) (fun h => ?_) (fun h => ?_)
  · rw [if_pos h] at g; exact g
  · rw [if_neg h] at g
    have e : kp td (upd (upd rd 0 (tV B n (ps B n r 1))) 1 (tV B n (ps B n r 2))) 2 2 = upd (upd (upd td 0 (td 0 + 1)) (Int32.toNatClampNeg ((1 + 2 * td 0) + 0)) ((upd (upd rd 0 (tV B n (ps B n r 1))) 1 (tV B n (ps B n r 2))) 0)) (Int32.toNatClampNeg ((1 + 2 * td 0) + 1)) ((upd (upd rd 0 (tV B n (ps B n r 1))) 1 (tV B n (ps B n r 2))) 1) := rfl
    rw [e, r0, r1]
    exact g
set_option maxRecDepth 20000 in
theorem e_cho_19 {tp B rd td : Nat → Int32} {n r : Nat} {va wr fa pl : Int32} {wd : Int64} {post : Int32 → Int32 → Int32 → Int32 → Int32 → Int64 → Int32 → Int32 → Int32 → (Nat → Int32) → (Nat → Int32) → Int32 → Prop} (hn : n ≤ 600) (hr : r ≤ n) (hB : ∀ j, j < n → tp j = B j) (hb : ∀ j, iv (-128) 127 (B j)) (hlp : ¬ fa = 0 → pl < (nI (tF B n r))) (hK0 : ¬ tK B n r = 0) 
    (hF : ∀ j, 1 ≤ j → j ≤ 1 → ¬ tK B n (ps B n r j) = 2 → (∀ i, 1 ≤ i → i < j → tK B n (ps B n r i) = 2) → ∀ (re be so va : Int32) (wd : Int64) (lf lp : Int32) (td rd : Nat → Int32) (gd : Int32), post 0 re be so va wd (nI (tF B n (ps B n r j))) lf lp td rd gd)
    (hT : (∀ j, 1 ≤ j → j ≤ 1 → tK B n (ps B n r j) = 2) → ∀ (va' : Int32) (wd' : Int64) (rd' : Nat → Int32) (gd' : Int32), (¬ mkF B n r 19 td fa 1 = 0 → mkP B n r 19 td fa pl 1 < (nI (tF B n (ps B n r 2)))) → post 1 (nI (tN B n (ps B n r 2))) (nI (tF B n (ps B n r 2))) (sI (tK B n (ps B n r 2))) va' wd' wr (mkF B n r 19 td fa 1) (mkP B n r 19 td fa pl 1) (lD 19 (gd B n r 19 1) (tV B n (ps B n r 1)) (tV B n (ps B n r 2)) (tV B n (ps B n r 3)) td) rd' gd') : q_m_choirLine_0 tp (nI (tN B n r)) (nI n) (nI (tF B n r)) (sI (tK B n r)) va wd wr fa pl td rd 1 (lN 1937007984) (nI (tF B n r)) post := by
  have hF1 := tF_nx hr hK0
  have htk := tk_le (B := B) hr
  have hl1 : ¬ mkF B n r 19 td fa 0 = 0 → mkP B n r 19 td fa pl 0 < nI (tF B n (tN B n r)) := LP_n hlp hF1.1 (by omega)
  have hfu : fu 19 td = false := by simp [fu]
  have e1 : mkF B n r 19 td fa 0 = fa := by show mF (!fu 19 td) fa 3 = fa; rw [hfu]; rfl
  have e2 : mkP B n r 19 td fa pl 0 = pl := by show mP (!fu 19 td) fa pl _ = pl; rw [hfu]; rfl
  have st : q_m_choirLine_37 tp (nI (tN B n r)) (nI n) (nI (tF B n r)) (sI (tK B n r)) va wd wr (mkF B n r 19 td fa 0) (mkP B n r 19 td fa pl 0) td rd 1 (lN 1937007984) post := by
    refine e_tok (r := tN B n r) hn htk.2.1 hB hb (fun v1 w1 hv1 _ => ⟨fun h9 => absurd h9 (by decide +kernel), fun _ => ?_⟩)
    exact e_plainLine_19 hn hr hB hb hv1 hl1 (fun j a b c d re be so va wd lf lp td rd gd => ⟨rfl, hF j a b c d re be so va wd lf lp td rd gd⟩) (fun hk va2 wd2 rd2 gd2 hl => ⟨rfl, hT hk va2 wd2 rd2 gd2 hl⟩)
  rw [e1, e2] at st
  exact ⟨fun h9 => absurd h9 (by decide +kernel), fun _ => ⟨fun _ => ⟨fun _ => st, fun h9 => absurd h9 (by decide +kernel)⟩, fun h9 => absurd h9 (by decide +kernel)⟩⟩
set_option maxRecDepth 20000 in
theorem e_lineOf {tp B rd td : Nat → Int32} {n r o : Nat} {va wr fa pl fh fs : Int32} {wd x : Int64} {post : Int32 → Int32 → Int32 → Int32 → Int32 → Int64 → Int32 → Int32 → Int32 → (Nat → Int32) → (Nat → Int32) → Int32 → Int32 → Int32 → Prop} (hn : n ≤ 600) (hr : r ≤ n) (hB : ∀ j, j < n → tp j = B j) (hb : ∀ j, iv (-128) 127 (B j)) (hlp : ¬ fa = 0 → pl < (nI (tF B n r))) (hK0 : ¬ tK B n r = 0) (ho : o ≤ 3) (hC : CB o td) (hw : tK B n r = 1 → x = tW B n r) (hw0 : ¬ tK B n r = 1 → x = 0)
    (hN : wOf B n r o = 20 → ∀ (re be so va : Int32) (wd : Int64) (lf lp : Int32) (td rd : Nat → Int32) (fh fs : Int32) (gd : Int32), post 0 re be so va wd (nI (tF B n r)) lf lp td rd fh fs gd)
    (hF : wOf B n r o < 20 → ∀ j, 1 ≤ j → j ≤ (nW (wOf B n r o)) → ¬ tK B n (ps B n r j) = 2 → (∀ i, 1 ≤ i → i < j → tK B n (ps B n r i) = 2) → ∀ (re be so va : Int32) (wd : Int64) (lf lp : Int32) (td rd : Nat → Int32) (fh fs : Int32) (gd : Int32), post 0 re be so va wd (nI (tF B n (ps B n r j))) lf lp td rd fh fs gd)
    (hT : wOf B n r o < 20 → (∀ j, 1 ≤ j → j ≤ (nW (wOf B n r o)) → tK B n (ps B n r j) = 2) → ∀ (va' : Int32) (wd' : Int64) (rd' : Nat → Int32) (gd' : Int32), (¬ mkF B n r (wOf B n r o) td fa (nW (wOf B n r o)) = 0 → mkP B n r (wOf B n r o) td fa pl (nW (wOf B n r o)) < (nI (tF B n (ps B n r ((nW (wOf B n r o)) + 1))))) → post 1 (nI (tN B n (ps B n r ((nW (wOf B n r o)) + 1)))) (nI (tF B n (ps B n r ((nW (wOf B n r o)) + 1)))) (sI (tK B n (ps B n r ((nW (wOf B n r o)) + 1)))) va' wd' wr (mkF B n r (wOf B n r o) td fa (nW (wOf B n r o))) (mkP B n r (wOf B n r o) td fa pl (nW (wOf B n r o))) (lD (wOf B n r o) (gd B n r (wOf B n r o) (nW (wOf B n r o))) (tV B n (ps B n r 1)) (tV B n (ps B n r 2)) (tV B n (ps B n r 3)) td) rd' (lH (wOf B n r o) (tV B n (ps B n r 1)) (tV B n (ps B n r 2)) fh) (lS (wOf B n r o) (tV B n (ps B n r 1)) fs) gd') : q_m_lineOf_0 tp (nI (tN B n r)) (nI n) (nI (tF B n r)) (sI (tK B n r)) va wd wr fa pl td rd fh fs 1 (nI o) x (nI (tF B n r)) post := by
  have hxz : ∀ j, j < 20 → (x = lN (wC.getD j 0) ↔ (tK B n r = 1 ∧ spl B (tF B n r) (tN B n r) j)) := by
    intro j hj
    by_cases hk : tK B n r = 1
    · rw [hw hk, tW_iff hr hb hj hk]
      exact ⟨fun h => ⟨hk, h⟩, fun h => h.2⟩
    · rw [hw0 hk]
      refine ⟨fun h => absurd h ?_, fun h => absurd h.1 hk⟩
      have : ∀ j, j < 20 → ¬ (0 : Int64) = lN (wC.getD j 0) := by decide +kernel
      exact this j hj
  have hoc : o = 0 ∨ o = 1 ∨ o = 2 ∨ o = 3 := by omega
  rcases wd_cases (B := B) (n := n) (r := r) ho with ⟨h20, hno⟩ | ⟨hlt, hP⟩
  · have hx : ∀ j, wlo o ≤ j → j < wlo (o + 1) → ¬ x = lN (wC.getD j 0) := by
      intro j h1 h2 h3
      have hj : j < 20 := Nat.lt_of_lt_of_le h2 (wlo_lt o ho).1
      have h4 := (hxz j hj).mp h3
      exact hno j ⟨h1, h2, h4.1, h4.2⟩
    have hp := hN h20
    rcases hoc with rfl | rfl | rfl | rfl
    · exact ⟨fun h9 => absurd h9 (by decide +kernel), fun _ => e_landNo hx ⟨rfl, hp _ _ _ _ _ _ _ _ _ _ _ _⟩, fun h9 => absurd h9 (by decide +kernel), fun h9 => absurd h9 (by decide +kernel)⟩
    · exact ⟨fun h9 => absurd h9 (by decide +kernel), fun h9 => absurd h9 (by decide +kernel), fun _ => e_eveNo hx ⟨rfl, hp _ _ _ _ _ _ _ _ _ _ _ _⟩, fun h9 => absurd h9 (by decide +kernel)⟩
    · exact ⟨fun h9 => absurd h9 (by decide +kernel), fun h9 => absurd h9 (by decide +kernel), fun h9 => absurd h9 (by decide +kernel), fun _ => e_sigNo hx ⟨rfl, hp _ _ _ _ _ _ _ _ _ _ _ _⟩⟩
    · exact ⟨fun _ => e_choNo hx ⟨rfl, hp _ _ _ _ _ _ _ _ _ _ _ _⟩, fun h9 => absurd h9 (by decide +kernel), fun h9 => absurd h9 (by decide +kernel), fun h9 => absurd h9 (by decide +kernel)⟩
  · have hF := hF hlt
    have hT := hT hlt
    have hx := (hxz _ hlt).mpr ⟨hP.2.2.1, hP.2.2.2⟩
    have h1 := hP.1
    have h2 := hP.2.1
    generalize wOf B n r o = w at hF hT hx h1 h2 hlt
    rcases hoc with rfl | rfl | rfl | rfl
    · have h3 : w < 10 := h2
      have h4 : 0 ≤ w := h1
      have hc : w = 0 ∨ w = 1 ∨ w = 2 ∨ w = 3 ∨ w = 4 ∨ w = 5 ∨ w = 6 ∨ w = 7 ∨ w = 8 ∨ w = 9 := by omega
      rcases hc with rfl | rfl | rfl | rfl | rfl | rfl | rfl | rfl | rfl | rfl
      · rw [hx]
        exact ⟨fun h9 => absurd h9 (by decide +kernel), fun _ => e_land_0 hn hr hB hb hlp hK0 hC (fun j a b c d re be so va wd lf lp td rd fh fs gd => ⟨rfl, hF j a b c d re be so va wd lf lp td rd fh fs gd⟩) (fun hk va2 wd2 rd2 gd2 hl => ⟨rfl, hT hk va2 wd2 rd2 gd2 hl⟩), fun h9 => absurd h9 (by decide +kernel), fun h9 => absurd h9 (by decide +kernel)⟩
      · rw [hx]
        exact ⟨fun h9 => absurd h9 (by decide +kernel), fun _ => e_land_1 hn hr hB hb hlp hK0 hC (fun j a b c d re be so va wd lf lp td rd fh fs gd => ⟨rfl, hF j a b c d re be so va wd lf lp td rd fh fs gd⟩) (fun hk va2 wd2 rd2 gd2 hl => ⟨rfl, hT hk va2 wd2 rd2 gd2 hl⟩), fun h9 => absurd h9 (by decide +kernel), fun h9 => absurd h9 (by decide +kernel)⟩
      · rw [hx]
        exact ⟨fun h9 => absurd h9 (by decide +kernel), fun _ => e_land_2 hn hr hB hb hlp hK0 hC (fun j a b c d re be so va wd lf lp td rd fh fs gd => ⟨rfl, hF j a b c d re be so va wd lf lp td rd fh fs gd⟩) (fun hk va2 wd2 rd2 gd2 hl => ⟨rfl, hT hk va2 wd2 rd2 gd2 hl⟩), fun h9 => absurd h9 (by decide +kernel), fun h9 => absurd h9 (by decide +kernel)⟩
      · rw [hx]
        exact ⟨fun h9 => absurd h9 (by decide +kernel), fun _ => e_land_3 hn hr hB hb hlp hK0 hC (fun j a b c d re be so va wd lf lp td rd fh fs gd => ⟨rfl, hF j a b c d re be so va wd lf lp td rd fh fs gd⟩) (fun hk va2 wd2 rd2 gd2 hl => ⟨rfl, hT hk va2 wd2 rd2 gd2 hl⟩), fun h9 => absurd h9 (by decide +kernel), fun h9 => absurd h9 (by decide +kernel)⟩
      · rw [hx]
        exact ⟨fun h9 => absurd h9 (by decide +kernel), fun _ => e_land_4 hn hr hB hb hlp hK0 hC (fun j a b c d re be so va wd lf lp td rd fh fs gd => ⟨rfl, hF j a b c d re be so va wd lf lp td rd fh fs gd⟩) (fun hk va2 wd2 rd2 gd2 hl => ⟨rfl, hT hk va2 wd2 rd2 gd2 hl⟩), fun h9 => absurd h9 (by decide +kernel), fun h9 => absurd h9 (by decide +kernel)⟩
      · rw [hx]
        exact ⟨fun h9 => absurd h9 (by decide +kernel), fun _ => e_land_5 hn hr hB hb hlp hK0 hC (fun j a b c d re be so va wd lf lp td rd fh fs gd => ⟨rfl, hF j a b c d re be so va wd lf lp td rd fh fs gd⟩) (fun hk va2 wd2 rd2 gd2 hl => ⟨rfl, hT hk va2 wd2 rd2 gd2 hl⟩), fun h9 => absurd h9 (by decide +kernel), fun h9 => absurd h9 (by decide +kernel)⟩
      · rw [hx]
        exact ⟨fun h9 => absurd h9 (by decide +kernel), fun _ => e_land_6 hn hr hB hb hlp hK0 hC (fun j a b c d re be so va wd lf lp td rd fh fs gd => ⟨rfl, hF j a b c d re be so va wd lf lp td rd fh fs gd⟩) (fun hk va2 wd2 rd2 gd2 hl => ⟨rfl, hT hk va2 wd2 rd2 gd2 hl⟩), fun h9 => absurd h9 (by decide +kernel), fun h9 => absurd h9 (by decide +kernel)⟩
      · rw [hx]
        exact ⟨fun h9 => absurd h9 (by decide +kernel), fun _ => e_land_7 hn hr hB hb hlp hK0 hC (fun j a b c d re be so va wd lf lp td rd fh fs gd => ⟨rfl, hF j a b c d re be so va wd lf lp td rd fh fs gd⟩) (fun hk va2 wd2 rd2 gd2 hl => ⟨rfl, hT hk va2 wd2 rd2 gd2 hl⟩), fun h9 => absurd h9 (by decide +kernel), fun h9 => absurd h9 (by decide +kernel)⟩
      · rw [hx]
        exact ⟨fun h9 => absurd h9 (by decide +kernel), fun _ => e_land_8 hn hr hB hb hlp hK0 hC (fun j a b c d re be so va wd lf lp td rd fh fs gd => ⟨rfl, hF j a b c d re be so va wd lf lp td rd fh fs gd⟩) (fun hk va2 wd2 rd2 gd2 hl => ⟨rfl, hT hk va2 wd2 rd2 gd2 hl⟩), fun h9 => absurd h9 (by decide +kernel), fun h9 => absurd h9 (by decide +kernel)⟩
      · rw [hx]
        exact ⟨fun h9 => absurd h9 (by decide +kernel), fun _ => e_land_9 hn hr hB hb hlp hK0 hC (fun j a b c d re be so va wd lf lp td rd fh fs gd => ⟨rfl, hF j a b c d re be so va wd lf lp td rd fh fs gd⟩) (fun hk va2 wd2 rd2 gd2 hl => ⟨rfl, hT hk va2 wd2 rd2 gd2 hl⟩), fun h9 => absurd h9 (by decide +kernel), fun h9 => absurd h9 (by decide +kernel)⟩
    · have h3 : w < 16 := h2
      have h4 : 10 ≤ w := h1
      have hc : w = 10 ∨ w = 11 ∨ w = 12 ∨ w = 13 ∨ w = 14 ∨ w = 15 := by omega
      rcases hc with rfl | rfl | rfl | rfl | rfl | rfl
      · rw [hx]
        exact ⟨fun h9 => absurd h9 (by decide +kernel), fun h9 => absurd h9 (by decide +kernel), fun _ => e_eve_10 hn hr hB hb hlp hK0 hC (fun j a b c d re be so va wd lf lp td rd gd => ⟨rfl, hF j a b c d re be so va wd lf lp td rd fh fs gd⟩) (fun hk va2 wd2 rd2 gd2 hl => ⟨rfl, hT hk va2 wd2 rd2 gd2 hl⟩), fun h9 => absurd h9 (by decide +kernel)⟩
      · rw [hx]
        exact ⟨fun h9 => absurd h9 (by decide +kernel), fun h9 => absurd h9 (by decide +kernel), fun _ => e_eve_11 hn hr hB hb hlp hK0 hC (fun j a b c d re be so va wd lf lp td rd gd => ⟨rfl, hF j a b c d re be so va wd lf lp td rd fh fs gd⟩) (fun hk va2 wd2 rd2 gd2 hl => ⟨rfl, hT hk va2 wd2 rd2 gd2 hl⟩), fun h9 => absurd h9 (by decide +kernel)⟩
      · rw [hx]
        exact ⟨fun h9 => absurd h9 (by decide +kernel), fun h9 => absurd h9 (by decide +kernel), fun _ => e_eve_12 hn hr hB hb hlp hK0 hC (fun j a b c d re be so va wd lf lp td rd gd => ⟨rfl, hF j a b c d re be so va wd lf lp td rd fh fs gd⟩) (fun hk va2 wd2 rd2 gd2 hl => ⟨rfl, hT hk va2 wd2 rd2 gd2 hl⟩), fun h9 => absurd h9 (by decide +kernel)⟩
      · rw [hx]
        exact ⟨fun h9 => absurd h9 (by decide +kernel), fun h9 => absurd h9 (by decide +kernel), fun _ => e_eve_13 hn hr hB hb hlp hK0 hC (fun j a b c d re be so va wd lf lp td rd gd => ⟨rfl, hF j a b c d re be so va wd lf lp td rd fh fs gd⟩) (fun hk va2 wd2 rd2 gd2 hl => ⟨rfl, hT hk va2 wd2 rd2 gd2 hl⟩), fun h9 => absurd h9 (by decide +kernel)⟩
      · rw [hx]
        exact ⟨fun h9 => absurd h9 (by decide +kernel), fun h9 => absurd h9 (by decide +kernel), fun _ => e_eve_14 hn hr hB hb hlp hK0 hC (fun j a b c d re be so va wd lf lp td rd gd => ⟨rfl, hF j a b c d re be so va wd lf lp td rd fh fs gd⟩) (fun hk va2 wd2 rd2 gd2 hl => ⟨rfl, hT hk va2 wd2 rd2 gd2 hl⟩), fun h9 => absurd h9 (by decide +kernel)⟩
      · rw [hx]
        exact ⟨fun h9 => absurd h9 (by decide +kernel), fun h9 => absurd h9 (by decide +kernel), fun _ => e_eve_15 hn hr hB hb hlp hK0 hC (fun j a b c d re be so va wd lf lp td rd gd => ⟨rfl, hF j a b c d re be so va wd lf lp td rd fh fs gd⟩) (fun hk va2 wd2 rd2 gd2 hl => ⟨rfl, hT hk va2 wd2 rd2 gd2 hl⟩), fun h9 => absurd h9 (by decide +kernel)⟩
    · have h3 : w < 18 := h2
      have h4 : 16 ≤ w := h1
      have hc : w = 16 ∨ w = 17 := by omega
      rcases hc with rfl | rfl
      · rw [hx]
        exact ⟨fun h9 => absurd h9 (by decide +kernel), fun h9 => absurd h9 (by decide +kernel), fun h9 => absurd h9 (by decide +kernel), fun _ => e_sig_16 hn hr hB hb hlp hK0 hC (fun j a b c d re be so va wd lf lp td rd gd => ⟨rfl, hF j a b c d re be so va wd lf lp td rd fh fs gd⟩) (fun hk va2 wd2 rd2 gd2 hl => ⟨rfl, hT hk va2 wd2 rd2 gd2 hl⟩)⟩
      · rw [hx]
        exact ⟨fun h9 => absurd h9 (by decide +kernel), fun h9 => absurd h9 (by decide +kernel), fun h9 => absurd h9 (by decide +kernel), fun _ => e_sig_17 hn hr hB hb hlp hK0 hC (fun j a b c d re be so va wd lf lp td rd gd => ⟨rfl, hF j a b c d re be so va wd lf lp td rd fh fs gd⟩) (fun hk va2 wd2 rd2 gd2 hl => ⟨rfl, hT hk va2 wd2 rd2 gd2 hl⟩)⟩
    · have h3 : w < 20 := h2
      have h4 : 18 ≤ w := h1
      have hc : w = 18 ∨ w = 19 := by omega
      rcases hc with rfl | rfl
      · rw [hx]
        exact ⟨fun _ => e_cho_18 hn hr hB hb hlp hK0 hC (fun j a b c d re be so va wd lf lp td rd gd => ⟨rfl, hF j a b c d re be so va wd lf lp td rd fh fs gd⟩) (fun hk va2 wd2 rd2 gd2 hl => ⟨rfl, hT hk va2 wd2 rd2 gd2 hl⟩), fun h9 => absurd h9 (by decide +kernel), fun h9 => absurd h9 (by decide +kernel), fun h9 => absurd h9 (by decide +kernel)⟩
      · rw [hx]
        exact ⟨fun _ => e_cho_19 hn hr hB hb hlp hK0 (fun j a b c d re be so va wd lf lp td rd gd => ⟨rfl, hF j a b c d re be so va wd lf lp td rd fh fs gd⟩) (fun hk va2 wd2 rd2 gd2 hl => ⟨rfl, hT hk va2 wd2 rd2 gd2 hl⟩), fun h9 => absurd h9 (by decide +kernel), fun h9 => absurd h9 (by decide +kernel), fun h9 => absurd h9 (by decide +kernel)⟩
end
section
/-- pure facts of a line -/
theorem lbr_f {B : Nat → Int32} {n r j : Nat} : ∀ d k, k < j → j ≤ k + d → ¬ tK B n (ps B n r j) = 2 → (∀ i, k < i → i < j → tK B n (ps B n r i) = 2) → lbr B n r d k = j
  | 0, k => fun h1 h2 _ _ => absurd h2 (by omega)
  | d + 1, k => fun h1 h2 h3 h4 => by
    unfold lbr
    by_cases hj : j = k + 1
    · subst hj
      rw [if_neg h3]
    · rw [if_pos (h4 (k + 1) (by omega) (by omega))]
      exact lbr_f d (k + 1) (by omega) (by omega) h3 (fun i a b => h4 i (by omega) b)
theorem lbr_t {B : Nat → Int32} {n r : Nat} : ∀ d k, (∀ j, k < j → j ≤ k + d → tK B n (ps B n r j) = 2) → lbr B n r d k = if tK B n (ps B n r (k + d + 1)) = 3 then 9 else k + d + 1
  | 0, k => fun _ => rfl
  | d + 1, k => fun h => by
    unfold lbr
    rw [if_pos (h (k + 1) (by omega) (by omega)), lbr_t d (k + 1) (fun j a b => h j (by omega) (by omega))]
    rw [show k + 1 + d + 1 = k + (d + 1) + 1 by omega]
theorem fu_ext {w : Nat} {td td' : Nat → Int32} (h : ∀ j, j < 132 → td j = td' j) : fu w td = fu w td' := by
  unfold fu
  rw [h 0 (by omega), h 1 (by omega), h 4 (by omega)]
theorem mkF_ext {B : Nat → Int32} {n r w : Nat} {td td' : Nat → Int32} {fa : Int32} (h : fu w td = fu w td') : ∀ k, mkF B n r w td fa k = mkF B n r w td' fa k
  | 0 => by unfold mkF; rw [h]
  | k + 1 => by unfold mkF; rw [mkF_ext h k]
theorem mkP_ext {B : Nat → Int32} {n r w : Nat} {td td' : Nat → Int32} {fa pl : Int32} (h : fu w td = fu w td') : ∀ k, mkP B n r w td fa pl k = mkP B n r w td' fa pl k
  | 0 => by unfold mkP; rw [h]
  | k + 1 => by unfold mkP; rw [mkF_ext h k, mkP_ext h k]
theorem mkP_ir {B : Nat → Int32} {n r w : Nat} {td : Nat → Int32} {fa lp pl : Int32} (h : ¬ fa = 0 → lp = pl) : ∀ k, ¬ mkF B n r w td fa k = 0 → mkP B n r w td fa lp k = mkP B n r w td fa pl k
  | 0 => fun hm => by
    unfold mkF mF at hm
    unfold mkP mP
    by_cases hc : (!fu w td) = true
    · rw [if_pos hc] at hm ⊢
      rw [if_pos hc]
      exact h hm
    · rw [if_neg hc, if_neg hc]
      by_cases hf : fa = 0
      · rw [if_pos hf, if_pos hf]
      · rw [if_neg hf, if_neg hf]; exact h hf
  | k + 1 => fun hm => by
    unfold mkF mF at hm
    unfold mkP mP
    by_cases hc : cW w k (tV B n (ps B n r 1)) (tV B n (ps B n r (k + 1))) = true
    · rw [if_pos hc] at hm ⊢
      rw [if_pos hc]
      exact mkP_ir h k hm
    · rw [if_neg hc, if_neg hc]
      by_cases hf : mkF B n r w td fa k = 0
      · rw [if_pos hf, if_pos hf]
      · rw [if_neg hf, if_neg hf]; exact mkP_ir h k hf
theorem upd_ext {f g : Nat → Int32} {k : Nat} {v v' : Int32} (h : ∀ j, j < 132 → f j = g j) (hv : k < 132 → v = v') : ∀ j, j < 132 → upd f k v j = upd g k v' j := by
  intro j hj
  by_cases hjk : j = k
  · subst hjk; rw [up_s, up_s]; exact hv hj
  · rw [up_n hjk, up_n hjk]; exact h j hj
theorem lD_ext {w : Nat} {g : Bool} {a b c : Int32} {td td' : Nat → Int32} (h : ∀ j, j < 132 → td j = td' j) : ∀ j, j < 132 → lD w g a b c td j = lD w g a b c td' j := by
  have h0 := h 0 (by omega)
  have h1 := h 1 (by omega)
  have h4 := h 4 (by omega)
  have ite_ext : ∀ (P : Prop) [Decidable P] (f g f' g' : Nat → Int32), (∀ j, j < 132 → f j = f' j) → (∀ j, j < 132 → g j = g' j) → ∀ j, j < 132 → (if P then f else g) j = (if P then f' else g') j := by
    intro P _ f g f' g' ha hb j hj
    by_cases hP : P
    · rw [if_pos hP, if_pos hP]; exact ha j hj
    · rw [if_neg hP, if_neg hP]; exact hb j hj
  unfold lD
  rw [h0, h1, h4, h 2 (by omega), h 3 (by omega)]
  refine ite_ext _ _ _ _ _ (ite_ext _ _ _ _ _ h (upd_ext (upd_ext h (fun _ => rfl)) (fun _ => rfl))) ?_
  refine ite_ext _ _ _ _ _ (upd_ext h (fun _ => rfl)) ?_
  refine ite_ext _ _ _ _ _ (upd_ext h (fun _ => rfl)) ?_
  refine ite_ext _ _ _ _ _ (upd_ext h (fun _ => rfl)) ?_
  refine ite_ext _ _ _ _ _ (upd_ext h (fun _ => rfl)) ?_
  refine ite_ext _ _ _ _ _ (ite_ext _ _ _ _ _ (upd_ext (upd_ext h (fun _ => rfl)) (fun _ => rfl)) h) ?_
  refine ite_ext _ _ _ _ _ (ite_ext _ _ _ _ _ h (upd_ext (upd_ext (upd_ext h (fun _ => rfl)) (fun _ => rfl)) (fun _ => rfl))) ?_
  refine ite_ext _ _ _ _ _ (ite_ext _ _ _ _ _ (upd_ext h (fun _ => rfl)) h) ?_
  refine ite_ext _ _ _ _ _ (ite_ext _ _ _ _ _ h (upd_ext (upd_ext (upd_ext h (fun _ => rfl)) (fun _ => rfl)) (fun _ => rfl))) ?_
  refine ite_ext _ _ _ _ _ (ite_ext _ _ _ _ _ (upd_ext h (fun hk => by rw [h _ hk])) h) ?_
  refine ite_ext _ _ _ _ _ (ite_ext _ _ _ _ _ h (upd_ext (upd_ext (upd_ext (upd_ext h (fun _ => rfl)) (fun _ => rfl)) (fun _ => rfl)) (fun _ => rfl))) ?_
  refine ite_ext _ _ _ _ _ (ite_ext _ _ _ _ _ h (upd_ext (upd_ext (upd_ext (upd_ext h (fun _ => rfl)) (fun _ => rfl)) (fun _ => rfl)) (fun _ => rfl))) ?_
  refine ite_ext _ _ _ _ _ (ite_ext _ _ _ _ _ h (upd_ext (upd_ext (upd_ext h (fun _ => rfl)) (fun _ => rfl)) (fun _ => rfl))) ?_
  exact upd_ext h (fun _ => rfl)
theorem iv_inc {x : Int32} {h : Nat} {m : Int32} (hx : iv 0 h x) (hm : m = nI h) (hh : h < 1000) (hne : ¬ x = m) : iv 0 h (x + 1) := by
  obtain ⟨k, rfl, -, hk, -⟩ := iv_nI hx (by decide)
  have : k ≠ h := fun e => hne (by rw [hm, e])
  rw [nI_1]
  exact iv_ofN (by omega) (by omega) (by omega)
theorem cl_ge {x : Int32} {l h : Int} {m : Nat} (hx : iv l h x) (hl : (m : Int) ≤ l) : m ≤ x.toNatClampNeg := by
  have e : x.toNatClampNeg = x.toInt.toNat := rfl
  have := hx.1
  omega
theorem iv_offs {c : Nat} {x : Int32} {h : Nat} (hx : iv 0 h x) (hc : c + h < 1000) : iv c (c + h : Nat) (nI c + x) := by
  obtain ⟨k, rfl, -, hk, -⟩ := iv_nI hx (by decide)
  rw [nI_add]
  exact iv_ofN (by omega) (by omega) (by omega)
/-- the counts stay in their bounds -/
theorem CB_lD {o w : Nat} {g : Bool} {a b c : Int32} {td : Nat → Int32} (ho : o ≤ 3) (hw : wlo o ≤ w ∧ w < wlo (o + 1)) (hC : CB o td) (h5 : g = true → iv 0 8 a ∧ (w = 5 → iv 0 8 b)) : CB o (lD w g a b c td) := by
  have far : ∀ (t : Nat → Int32) (i : Nat) (v : Int32), 5 ≤ i → ∀ j, j ≤ 4 → upd t i v j = t j := fun t i v hi j hj => up_n (by omega)
  have keep : ∀ t : Nat → Int32, (∀ j, j ≤ 4 → t j = td j) → CB o t := by
    intro t ht
    unfold CB
    rw [ht 0 (by omega), ht 1 (by omega), ht 4 (by omega)]
    exact hC
  have hoc : o = 0 ∨ o = 1 ∨ o = 2 ∨ o = 3 := by omega
  rcases hoc with rfl | rfl | rfl | rfl
  · have h1 : w < 10 := hw.2
    obtain ⟨c0, c14⟩ := hC
    obtain ⟨c1, c4⟩ := c14 rfl
    have c0' : iv 0 (9 : Nat) (td 0) := c0
    have c1' : iv 0 (6 : Nat) (td 1) := c1
    have c4' : iv 0 (4 : Nat) (td 4) := c4
    have hc : w = 0 ∨ w = 1 ∨ w = 2 ∨ w = 3 ∨ w = 4 ∨ w = 5 ∨ w = 6 ∨ w = 7 ∨ w = 8 ∨ w = 9 := by omega
    rcases hc with rfl | rfl | rfl | rfl | rfl | rfl | rfl | rfl | rfl | rfl
    · show CB 0 (if td 0 = 9 then td else upd (upd td 0 (td 0 + 1)) (Int32.toNatClampNeg (7 + td 0)) a)
      by_cases h9 : td 0 = 9
      · rw [if_pos h9]; exact keep td (fun _ _ => rfl)
      · rw [if_neg h9]
        have hi : 7 ≤ Int32.toNatClampNeg (7 + td 0) := cl_ge (iv_offs (c := 7) c0' (by omega)) (by omega)
        refine ⟨?_, fun _ => ⟨?_, ?_⟩⟩
        · rw [far _ _ _ (by omega) 0 (by omega), up_s]; exact iv_inc (h := 9) c0' rfl (by omega) h9
        · rw [far _ _ _ (by omega) 1 (by omega), up_n (by omega)]; exact c1
        · rw [far _ _ _ (by omega) 4 (by omega), up_n (by omega)]; exact c4
    · refine ⟨?_, fun _ => ⟨?_, ?_⟩⟩
      · exact c0
      · exact c1
      · exact c4
    · refine ⟨?_, fun _ => ⟨?_, ?_⟩⟩
      · exact c0
      · exact c1
      · exact c4
    · exact keep _ (far _ _ _ (by omega))
    · exact keep _ (far _ _ _ (by omega))
    · show CB 0 (if g = true then upd (upd td (Int32.toNatClampNeg ((51 + 9 * a) + b)) c) (Int32.toNatClampNeg ((51 + 9 * b) + a)) c else td)
      by_cases hg : g = true
      · rw [if_pos hg]
        obtain ⟨ha, hb⟩ := h5 hg
        have hb := hb rfl
        obtain ⟨p, rfl, -, hp, -⟩ := iv_nI ha (by decide)
        obtain ⟨q, rfl, -, hq, -⟩ := iv_nI hb (by decide)
        rw [ix9, ix9, nI_clamp (by omega), nI_clamp (by omega)]
        exact keep _ (fun j hj => by rw [far _ _ _ (by omega) j hj, far _ _ _ (by omega) j hj])
      · rw [if_neg hg]; exact keep td (fun _ _ => rfl)
    · show CB 0 (if td 4 = 4 then td else upd (upd (upd td 4 (td 4 + 1)) (Int32.toNatClampNeg (43 + 2 * td 4)) a) (Int32.toNatClampNeg (43 + 2 * td 4 + 1)) b)
      by_cases h9 : td 4 = 4
      · rw [if_pos h9]; exact keep td (fun _ _ => rfl)
      · rw [if_neg h9]
        have hinc := iv_inc c4' (m := 4) rfl (by omega) h9
        obtain ⟨k, hk, -, hk4, -⟩ := iv_nI c4' (by decide)
        have i1 : Int32.toNatClampNeg (43 + 2 * td 4) = 43 + 2 * k := by rw [hk, show (43 : Int32) = nI 43 from rfl, show (2 : Int32) = nI 2 from rfl, pk_mul, nI_add, nI_clamp (by omega)]
        have i2 : Int32.toNatClampNeg (43 + 2 * td 4 + 1) = 43 + 2 * k + 1 := by rw [hk, show (43 : Int32) = nI 43 from rfl, show (2 : Int32) = nI 2 from rfl, pk_mul, nI_add, nI_1, nI_clamp (by omega)]
        rw [i1, i2]
        refine ⟨?_, fun _ => ⟨?_, ?_⟩⟩
        · rw [far _ _ _ (by omega) 0 (by omega), far _ _ _ (by omega) 0 (by omega), up_n (by omega)]; exact c0
        · rw [far _ _ _ (by omega) 1 (by omega), far _ _ _ (by omega) 1 (by omega), up_n (by omega)]; exact c1
        · rw [far _ _ _ (by omega) 4 (by omega), far _ _ _ (by omega) 4 (by omega), up_s]; exact hinc
    · show CB 0 (if g = true then upd td (Int32.toNatClampNeg (16 + a)) b else td)
      by_cases hg : g = true
      · rw [if_pos hg]
        have hi : 16 ≤ Int32.toNatClampNeg (16 + a) := cl_ge (iv_offs (c := 16) (h := 8) (h5 hg).1 (by omega)) (by omega)
        exact keep _ (far _ _ _ (by omega))
      · rw [if_neg hg]; exact keep td (fun _ _ => rfl)
    · show CB 0 (if td 1 = 6 then td else upd (upd (upd td 1 (td 1 + 1)) (Int32.toNatClampNeg (25 + td 1)) a) (Int32.toNatClampNeg (31 + td 1)) b)
      by_cases h9 : td 1 = 6
      · rw [if_pos h9]; exact keep td (fun _ _ => rfl)
      · rw [if_neg h9]
        have hi : 25 ≤ Int32.toNatClampNeg (25 + td 1) := cl_ge (iv_offs (c := 25) c1' (by omega)) (by omega)
        have hi2 : 31 ≤ Int32.toNatClampNeg (31 + td 1) := cl_ge (iv_offs (c := 31) c1' (by omega)) (by omega)
        refine ⟨?_, fun _ => ⟨?_, ?_⟩⟩
        · rw [far _ _ _ (by omega) 0 (by omega), far _ _ _ (by omega) 0 (by omega), up_n (by omega)]; exact c0
        · rw [far _ _ _ (by omega) 1 (by omega), far _ _ _ (by omega) 1 (by omega), up_s]; exact iv_inc (h := 6) c1' rfl (by omega) h9
        · rw [far _ _ _ (by omega) 4 (by omega), far _ _ _ (by omega) 4 (by omega), up_n (by omega)]; exact c4
    · show CB 0 (if g = true then upd td (Int32.toNatClampNeg (37 + a)) (td (Int32.toNatClampNeg (37 + a)) ||| 1 <<< (b &&& 31)) else td)
      by_cases hg : g = true
      · rw [if_pos hg]
        have hi : 37 ≤ Int32.toNatClampNeg (37 + a) := cl_ge (iv_offs (c := 37) (h := 8) (h5 hg).1 (by omega)) (by omega)
        exact keep _ (far _ _ _ (by omega))
      · rw [if_neg hg]; exact keep td (fun _ _ => rfl)
  · have h1 : w < 16 := hw.2
    have h2 : 10 ≤ w := hw.1
    have c0' : iv 0 (40 : Nat) (td 0) := hC.1
    have e : lD w g a b c td = (if td 0 = 40 then td else upd (upd (upd (upd td 0 (td 0 + 1)) (Int32.toNatClampNeg ((1 + 3 * td 0) + 0)) (nI (w - 10))) (Int32.toNatClampNeg ((1 + 3 * td 0) + 1)) a) (Int32.toNatClampNeg ((1 + 3 * td 0) + 2)) (if w < 14 then b else -1)) := by
      unfold lD
      rw [if_neg (by omega), if_neg (by omega), if_neg (by omega), if_neg (by omega), if_neg (by omega), if_neg (by omega), if_neg (by omega), if_neg (by omega), if_neg (by omega), if_neg (by omega), if_pos (by omega)]
    rw [e]
    by_cases h9 : td 0 = 40
    · rw [if_pos h9]; exact hC
    · rw [if_neg h9]
      obtain ⟨k, hk, -, hk4, -⟩ := iv_nI c0' (by decide)
      have i0 : ∀ i : Nat, i ≤ 2 → Int32.toNatClampNeg ((1 + 3 * td 0) + nI i) = 1 + 3 * k + i := fun i hi => by rw [hk, show (1 : Int32) = nI 1 from rfl, show (3 : Int32) = nI 3 from rfl, jx2, nI_clamp (by omega)]
      refine ⟨?_, fun h => absurd h (by decide)⟩
      rw [show (2 : Int32) = nI 2 from rfl, i0 2 (by omega), up_n (by omega)]
      rw [show Int32.toNatClampNeg ((1 + 3 * td 0) + 1) = 1 + 3 * k + 1 from i0 1 (by omega), up_n (by omega)]
      rw [show Int32.toNatClampNeg ((1 + 3 * td 0) + 0) = 1 + 3 * k + 0 from i0 0 (by omega), up_n (by omega), up_s]
      exact iv_inc (h := 40) c0' rfl (by omega) h9
  · have h1 : w < 18 := hw.2
    have h2 : 16 ≤ w := hw.1
    have c0' : iv 0 (10 : Nat) (td 0) := hC.1
    have e : lD w g a b c td = (if td 0 = 10 then td else upd (upd (upd (upd td 0 (td 0 + 1)) (Int32.toNatClampNeg ((1 + 3 * td 0) + 0)) (if w = 16 then 1 else 0)) (Int32.toNatClampNeg ((1 + 3 * td 0) + 1)) a) (Int32.toNatClampNeg ((1 + 3 * td 0) + 2)) b) := by
      unfold lD
      rw [if_neg (by omega), if_neg (by omega), if_neg (by omega), if_neg (by omega), if_neg (by omega), if_neg (by omega), if_neg (by omega), if_neg (by omega), if_neg (by omega), if_neg (by omega), if_neg (by omega), if_pos (by omega)]
    rw [e]
    by_cases h9 : td 0 = 10
    · rw [if_pos h9]; exact hC
    · rw [if_neg h9]
      obtain ⟨k, hk, -, hk4, -⟩ := iv_nI c0' (by decide)
      have i0 : ∀ i : Nat, i ≤ 2 → Int32.toNatClampNeg ((1 + 3 * td 0) + nI i) = 1 + 3 * k + i := fun i hi => by rw [hk, show (1 : Int32) = nI 1 from rfl, show (3 : Int32) = nI 3 from rfl, jx2, nI_clamp (by omega)]
      refine ⟨?_, fun h => absurd h (by decide)⟩
      rw [show (2 : Int32) = nI 2 from rfl, i0 2 (by omega), up_n (by omega)]
      rw [show Int32.toNatClampNeg ((1 + 3 * td 0) + 1) = 1 + 3 * k + 1 from i0 1 (by omega), up_n (by omega)]
      rw [show Int32.toNatClampNeg ((1 + 3 * td 0) + 0) = 1 + 3 * k + 0 from i0 0 (by omega), up_n (by omega), up_s]
      exact iv_inc (h := 10) c0' rfl (by omega) h9
  · have h1 : w < 20 := hw.2
    have h2 : 18 ≤ w := hw.1
    have c0' : iv 0 (9 : Nat) (td 0) := hC.1
    have hc : w = 18 ∨ w = 19 := by omega
    rcases hc with rfl | rfl
    · show CB 3 (if td 0 = 9 then td else upd (upd (upd td 0 (td 0 + 1)) (Int32.toNatClampNeg ((1 + 2 * td 0) + 0)) a) (Int32.toNatClampNeg ((1 + 2 * td 0) + 1)) b)
      by_cases h9 : td 0 = 9
      · rw [if_pos h9]; exact hC
      · rw [if_neg h9]
        obtain ⟨k, hk, -, hk4, -⟩ := iv_nI c0' (by decide)
        have i0 : ∀ i : Nat, i ≤ 2 → Int32.toNatClampNeg ((1 + 2 * td 0) + nI i) = 1 + 2 * k + i := fun i hi => by rw [hk, show (1 : Int32) = nI 1 from rfl, show (2 : Int32) = nI 2 from rfl, jx2, nI_clamp (by omega)]
        refine ⟨?_, fun h => absurd h (by decide)⟩
        rw [show Int32.toNatClampNeg ((1 + 2 * td 0) + 1) = 1 + 2 * k + 1 from i0 1 (by omega), up_n (by omega)]
        rw [show Int32.toNatClampNeg ((1 + 2 * td 0) + 0) = 1 + 2 * k + 0 from i0 0 (by omega), up_n (by omega), up_s]
        exact iv_inc (h := 9) c0' rfl (by omega) h9
    · exact ⟨by show iv 0 _ (upd td 19 a 0); rw [up_n (by omega)]; exact hC.1, fun h => absurd h (by decide)⟩
end
