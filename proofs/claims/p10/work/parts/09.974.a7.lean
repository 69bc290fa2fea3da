theorem al1 {P : Nat → Prop} (h1 : P 1) : ∀ j, 1 ≤ j → j ≤ 1 → P j := fun j a b => by
  have : j = 1 := by omega
  subst this; exact h1
theorem al2 {P : Nat → Prop} (h1 : P 1) (h2 : P 2) : ∀ j, 1 ≤ j → j ≤ 2 → P j := fun j a b => by
  have : j = 1 ∨ j = 2 := by omega
  rcases this with rfl | rfl
  · exact h1
  · exact h2
theorem al3 {P : Nat → Prop} (h1 : P 1) (h2 : P 2) (h3 : P 3) : ∀ j, 1 ≤ j → j ≤ 3 → P j := fun j a b => by
  have : j = 1 ∨ j = 2 ∨ j = 3 := by omega
  rcases this with rfl | rfl | rfl
  · exact h1
  · exact h2
  · exact h3
theorem be1 {P : Nat → Prop} : ∀ j, 1 ≤ j → j < 1 → P j := fun j a b => absurd b (by omega)
theorem be2 {P : Nat → Prop} (h1 : P 1) : ∀ j, 1 ≤ j → j < 2 → P j := fun j a b => al1 h1 j a (by omega)
theorem be3 {P : Nat → Prop} (h1 : P 1) (h2 : P 2) : ∀ j, 1 ≤ j → j < 3 → P j := fun j a b => al2 h1 h2 j a (by omega)
def gI (b : Bool) : Int32 := if b = true then 1 else 0
theorem sI_2 : ∀ k, k ≤ 4 → (sI k = 2 ↔ k = 1) := by decide
theorem sI_3 : ∀ k, k ≤ 4 → (sI k = 3 ↔ k = 2) := by decide
theorem sI_4 : ∀ k, k ≤ 4 → (sI k = 4 ↔ k = 3) := by decide
theorem sI_0 : ∀ k, k ≤ 4 → (sI k = 0 ↔ k = 0) := by decide
theorem e_later {c : Bool} {lf lp f pl : Int32} {post : Int32 → Int32 → Prop} (hc : c = false) (hlp : ¬ lf = 0 → lp < pl) (h : post (mF c lf f) (mP c lf lp pl)) : q_m_later_0 lf lp f pl post := by
  unfold mF mP at h
  rw [hc] at h
  have hb : ¬ (false = true) := by decide
  rw [if_neg hb, if_neg hb] at h
  refine ⟨fun h9 => ?_, fun h9 => ?_⟩
  · rw [if_pos h9, if_pos h9] at h; exact h
  · rw [if_neg h9, if_neg h9] at h
    have hl := r_lt (hlp h9)
    refine ⟨fun h8 => absurd (r_lt h8) (by omega), fun _ => ⟨fun _ => h, fun h8 => ?_⟩⟩
    rw [h8] at hl
    omega
theorem LP_n {c : Bool} {lf lp f : Int32} {F F' : Nat} (hlp : ¬ lf = 0 → lp < nI F) (h1 : F < F') (h2 : F' ≤ 600) : ¬ mF c lf f = 0 → mP c lf lp (nI F) < nI F' := by
  intro hm
  have hFF : nI F < nI F' := nI_lt h1 (by omega)
  unfold mF at hm
  unfold mP
  by_cases hc : c = true
  · rw [if_pos hc] at hm ⊢
    exact Int32.lt_trans (hlp hm) hFF
  · rw [if_neg hc] at hm ⊢
    by_cases hl : lf = 0
    · rw [if_pos hl]; exact hFF
    · rw [if_neg hl]; exact Int32.lt_trans (hlp hl) hFF
theorem LP_s {lf lp : Int32} {F F' : Nat} (hlp : ¬ lf = 0 → lp < nI F) (h1 : F ≤ F') (h2 : F' ≤ 600) : ¬ lf = 0 → lp < nI F' := fun h => Int32.lt_of_lt_of_le (hlp h) (nI_le h1 (by omega))
theorem tF_nx {B : Nat → Int32} {n p : Nat} (hp : p ≤ n) (hK : ¬ tK B n p = 0) : tF B n p < tF B n (tN B n p) ∧ tF B n (tN B n p) ≤ n := by
  have h := tk_le (B := B) hp
  have h2 := tF_le (B := B) h.2.1
  have := h.2.2.1 hK
  omega
theorem e_greater {a b : Int32} {post : Int32 → Prop} (h : post (gr a b)) : q_m_greater_0 a b post := by
  unfold gr at h
  refine ⟨fun c => ?_, fun c => ?_⟩
  · rw [if_neg (Int32.not_lt.mpr c)] at h; exact h
  · rw [if_pos (Int32.not_le.mp c)] at h; exact h
theorem e_takeBut {tp B rd : Nat → Int32} {n r k i : Nat} {va wr lf lp lo hi but : Int32} {wd : Int64} {g c : Bool} {post : Int32 → Int32 → Int32 → Int32 → Int32 → Int64 → Int32 → Int32 → Int32 → (Nat → Int32) → Int32 → Prop} (hn : n ≤ 600) (hr : r ≤ n) (hB : ∀ j, j < n → tp j = B j) (hb : ∀ j, iv (-128) 127 (B j)) (hv : tK B n (ps B n r k) = 2 → va = (tV B n (ps B n r k))) (hlp : ¬ lf = 0 → lp < (nI (tF B n (ps B n r k)))) (hi3 : i < 3) (hc : c = cb lo hi but (tV B n (ps B n r k)))
    (h0 : ¬ tK B n (ps B n r k) = 2 → post 0 (nI (tN B n (ps B n r k))) (nI (tF B n (ps B n r k))) (sI (tK B n (ps B n r k))) va wd (nI (tF B n (ps B n r k))) lf lp rd (gI g))
    (h1 : tK B n (ps B n r k) = 2 → ∀ (va' : Int32) (wd' : Int64), (tK B n (ps B n r (k + 1)) = 2 → va' = (tV B n (ps B n r (k + 1)))) → (¬ mF c lf 2 = 0 → mP c lf lp (nI (tF B n (ps B n r k))) < (nI (tF B n (ps B n r (k + 1))))) → post 1 (nI (tN B n (ps B n r (k + 1)))) (nI (tF B n (ps B n r (k + 1)))) (sI (tK B n (ps B n r (k + 1)))) va' wd' wr (mF c lf 2) (mP c lf lp (nI (tF B n (ps B n r k)))) (upd rd i (tV B n (ps B n r k))) (gI (g && c))) : q_m_takeBut_0 tp (nI (tN B n (ps B n r k))) (nI n) (nI (tF B n (ps B n r k))) (sI (tK B n (ps B n r k))) va wd wr lf lp rd (gI g) (nI i) lo hi but post := by
  have hps := ps_le (B := B) hr k
  have hk := tk_le (B := B) hps.2
  refine ⟨fun h3 => ?_, fun h3 => ⟨rfl, h0 (fun h9 => h3 ((sI_3 _ hk.2.2.2.2).mpr h9))⟩⟩
  have hK := (sI_3 _ hk.2.2.2.2).mp h3
  have hF := tF_nx (B := B) hps.2 (by omega)
  refine ⟨vp_in_nI hi3 (by omega), fun rd1 e1 => ?_⟩
  rw [nI_clamp (by omega), hv hK] at e1
  rw [hv hK]
  have hgg : c = true → g = (g && c) := fun h => by rw [h, Bool.and_true]
  have hg0 : c = false → (0 : Int32) = gI (g && c) := fun h => by rw [h, Bool.and_false]; rfl
  have bad : c = false → q_m_takeBut_44 tp (nI (tN B n (ps B n r k))) (nI n) (nI (tF B n (ps B n r k))) (sI (tK B n (ps B n r k))) (tV B n (ps B n r k)) wd wr lf lp rd1 (gI g) post := by
    intro hcf
    refine e_later hcf hlp ?_
    refine e_tok (r := tN B n (ps B n r k)) hn hk.2.1 hB hb (fun v w hv2 _ => ?_)
    rw [e1, hg0 hcf]
    exact h1 hK v w hv2 (LP_n hlp hF.1 (Nat.le_trans hF.2 hn))
  refine sp_in (fun hnot => iz (bad (by rw [hc]; exact decide_eq_false (fun h9 => hnot ⟨h9.1, h9.2.1⟩)))) (fun a b => oi ⟨fun hne => ?_, fun he => bad (by rw [hc]; exact decide_eq_false (fun h9 => h9.2.2 he))⟩)
  have hct : c = true := by rw [hc]; exact decide_eq_true ⟨a, b, hne⟩
  refine e_tok (r := tN B n (ps B n r k)) hn hk.2.1 hB hb (fun v w hv2 _ => ?_)
  have g2 := h1 hK v w hv2 (LP_n hlp hF.1 (Nat.le_trans hF.2 hn))
  rw [← hgg hct, hct, mF_t, mP_t] at g2
  rw [e1]
  exact g2
theorem e_take {tp B rd : Nat → Int32} {n r k i : Nat} {va wr lf lp lo hi : Int32} {wd : Int64} {g c : Bool} {post : Int32 → Int32 → Int32 → Int32 → Int32 → Int64 → Int32 → Int32 → Int32 → (Nat → Int32) → Int32 → Prop} (hn : n ≤ 600) (hr : r ≤ n) (hB : ∀ j, j < n → tp j = B j) (hb : ∀ j, iv (-128) 127 (B j)) (hv : tK B n (ps B n r k) = 2 → va = (tV B n (ps B n r k))) (hlp : ¬ lf = 0 → lp < (nI (tF B n (ps B n r k)))) (hi3 : i < 3) (hc : c = cb lo hi (-1) (tV B n (ps B n r k)))
    (h0 : ¬ tK B n (ps B n r k) = 2 → post 0 (nI (tN B n (ps B n r k))) (nI (tF B n (ps B n r k))) (sI (tK B n (ps B n r k))) va wd (nI (tF B n (ps B n r k))) lf lp rd (gI g))
    (h1 : tK B n (ps B n r k) = 2 → ∀ (va' : Int32) (wd' : Int64), (tK B n (ps B n r (k + 1)) = 2 → va' = (tV B n (ps B n r (k + 1)))) → (¬ mF c lf 2 = 0 → mP c lf lp (nI (tF B n (ps B n r k))) < (nI (tF B n (ps B n r (k + 1))))) → post 1 (nI (tN B n (ps B n r (k + 1)))) (nI (tF B n (ps B n r (k + 1)))) (sI (tK B n (ps B n r (k + 1)))) va' wd' wr (mF c lf 2) (mP c lf lp (nI (tF B n (ps B n r k)))) (upd rd i (tV B n (ps B n r k))) (gI (g && c))) : q_m_take_0 tp (nI (tN B n (ps B n r k))) (nI n) (nI (tF B n (ps B n r k))) (sI (tK B n (ps B n r k))) va wd wr lf lp rd (gI g) (nI i) lo hi post :=
  e_takeBut hn hr hB hb hv hlp hi3 hc (fun h => ⟨rfl, h0 h⟩) (fun h v w a b => ⟨rfl, h1 h v w a b⟩)
theorem e_takeHut {tp B rd : Nat → Int32} {n r k i : Nat} {va wr lf lp fh but : Int32} {wd : Int64} {g c : Bool} {post : Int32 → Int32 → Int32 → Int32 → Int32 → Int64 → Int32 → Int32 → Int32 → (Nat → Int32) → Int32 → Int32 → Prop} (hn : n ≤ 600) (hr : r ≤ n) (hB : ∀ j, j < n → tp j = B j) (hb : ∀ j, iv (-128) 127 (B j)) (hv : tK B n (ps B n r k) = 2 → va = (tV B n (ps B n r k))) (hlp : ¬ lf = 0 → lp < (nI (tF B n (ps B n r k)))) (hi3 : i < 3) (hc : c = cb 0 8 but (tV B n (ps B n r k)))
    (h0 : ¬ tK B n (ps B n r k) = 2 → post 0 (nI (tN B n (ps B n r k))) (nI (tF B n (ps B n r k))) (sI (tK B n (ps B n r k))) va wd (nI (tF B n (ps B n r k))) lf lp rd fh (gI g))
    (h1 : tK B n (ps B n r k) = 2 → ∀ (va' : Int32) (wd' : Int64), (tK B n (ps B n r (k + 1)) = 2 → va' = (tV B n (ps B n r (k + 1)))) → (¬ mF c lf 2 = 0 → mP c lf lp (nI (tF B n (ps B n r k))) < (nI (tF B n (ps B n r (k + 1))))) → post 1 (nI (tN B n (ps B n r (k + 1)))) (nI (tF B n (ps B n r (k + 1)))) (sI (tK B n (ps B n r (k + 1)))) va' wd' wr (mF c lf 2) (mP c lf lp (nI (tF B n (ps B n r k)))) (upd rd i (tV B n (ps B n r k))) (gr fh (tV B n (ps B n r k))) (gI (g && c))) : q_m_takeHut_0 tp (nI (tN B n (ps B n r k))) (nI n) (nI (tF B n (ps B n r k))) (sI (tK B n (ps B n r k))) va wd wr lf lp rd fh (gI g) (nI i) but post := by
  refine e_takeBut hn hr hB hb hv hlp hi3 hc (fun h => zi (h0 h)) (fun h v w a b => io ⟨vp_in_nI hi3 (by omega), ?_⟩)
  rw [nI_clamp (by omega), up_s]
  exact e_greater (h1 h v w a b)
theorem e_further {td : Nat → Int32} {c : Nat} {M : Int32} {post : Int32 → (Nat → Int32) → Prop} (hc : c < 132) (h0 : td c = M → post (-1) td) (h1 : ¬ td c = M → post (td c) (upd td c (td c + 1))) : q_m_further_0 td (nI c) M post := by
  have hin : vp_in (nI c) 132 := vp_in_nI hc (by omega)
  refine ⟨hin, fun v e => ?_⟩
  rw [nI_clamp (by omega)] at e ⊢
  subst e
  refine ⟨fun h => ⟨hin, fun v2 e2 => ⟨hin, fun t e3 => ?_⟩⟩, fun h => h0 h⟩
  subst e2 e3
  exact h1 h
theorem e_full {td : Nat → Int32} {c : Nat} {M lf lp x : Int32} {b : Bool} {post : Int32 → Int32 → Prop} (hc : c < 132) (hb : b = decide (td c = M)) (hlp : ¬ lf = 0 → lp < x) (h : post (mF (!b) lf 3) (mP (!b) lf lp x)) : q_m_full_0 lf lp td (nI c) M x post := by
  refine ⟨vp_in_nI hc (by omega), ?_⟩
  rw [nI_clamp (by omega)]
  refine ⟨fun h9 => ?_, fun h9 => ?_⟩
  · have e : b = false := by rw [hb]; exact decide_eq_false h9
    rw [e] at h
    exact h
  · have e : b = true := by rw [hb]; exact decide_eq_true h9
    rw [e] at h
    exact e_later (c := !true) rfl hlp h
def kp (td rd : Nat → Int32) (W : Nat) : Nat → Nat → Int32
  | 0 => upd td 0 (td 0 + 1)
  | i + 1 => upd (kp td rd W i) (Int32.toNatClampNeg ((1 + nI W * td 0) + nI i)) (rd i)
theorem e_keep {td rd : Nat → Int32} {W : Nat} {M : Int32} {post : (Nat → Int32) → Prop} (hW : W ≤ 3) (hM : iv 0 40 (td 0)) (h0 : td 0 = M → post td) (h1 : ¬ td 0 = M → post (kp td rd W W)) : q_m_keep_0 td rd (nI W) M post := by
  refine e_further (c := 0) (by omega) (fun h => ?_) (fun h => ?_)
  · intro P hP
    apply hP
    exact pk_le W 0 (fun _ => h0 h) (fun _ => ⟨fun _ => h0 h, fun h9 => absurd rfl h9⟩)
  · have hm : ¬ td 0 = -1 := fun h9 => by
      have := hM.1
      rw [h9] at this
      exact absurd this (by decide)
    obtain ⟨k, hk, -, hk2, -⟩ := iv_nI hM (by decide)
    intro P hP
    have loop : ∀ d i, d + i = W → P (nI i) (kp td rd W i) := by
      intro d
      induction d with
      | zero =>
        intro i hd
        apply hP
        refine pk_le W i (fun _ => ?_) (fun h9 => absurd h9 (by omega))
        have e : i = W := by omega
        rw [e]
        exact h1 h
      | succ d ih =>
        intro i hd
        apply hP
        have hix : ((1 : Int32) + nI W * td 0) + nI i = nI (1 + W * k + i) := by rw [hk]; exact jx2 1 W k i
        have hlt : 1 + W * k + i < 132 := by
          have : W * k ≤ 3 * 40 := Nat.mul_le_mul hW (by omega)
          omega
        refine pk_le W i (fun h9 => absurd h9 (by omega)) (fun _ => ⟨fun h9 => absurd h9 hm, fun _ => ⟨vp_in_nI (by omega) (by omega), fun v e => ⟨by rw [hix]; exact vp_in_nI hlt (by omega), fun t e2 v2 e3 => ?_⟩⟩⟩)
        rw [nI_clamp (by omega)] at e
        rw [e3, nI_1, e2, e]
        exact ih (i + 1) (by omega)
    exact loop W 0 (by omega)
set_option maxRecDepth 20000 in
theorem e_hutLine {tp B rd td : Nat → Int32} {n r : Nat} {va wr fa pl : Int32} {wd : Int64} {post : Int32 → Int32 → Int32 → Int32 → Int32 → Int64 → Int32 → Int32 → Int32 → (Nat → Int32) → (Nat → Int32) → Int32 → Prop} (hn : n ≤ 600) (hr : r ≤ n) (hB : ∀ j, j < n → tp j = B j) (hb : ∀ j, iv (-128) 127 (B j)) (hv : tK B n (ps B n r 1) = 2 → va = (tV B n (ps B n r 1))) (hlp : ¬ mkF B n r 0 td fa 0 = 0 → mkP B n r 0 td fa pl 0 < (nI (tF B n (ps B n r 1)))) (hC : iv 0 9 (td 0))
    (hF : ∀ j, 1 ≤ j → j ≤ 1 → ¬ tK B n (ps B n r j) = 2 → (∀ i, 1 ≤ i → i < j → tK B n (ps B n r i) = 2) → ∀ (re be so va : Int32) (wd : Int64) (lf lp : Int32) (td rd : Nat → Int32) (gd : Int32), post 0 re be so va wd (nI (tF B n (ps B n r j))) lf lp td rd gd)
    (hT : (∀ j, 1 ≤ j → j ≤ 1 → tK B n (ps B n r j) = 2) → ∀ (va' : Int32) (wd' : Int64) (rd' : Nat → Int32) (gd' : Int32), (¬ mkF B n r 0 td fa 1 = 0 → mkP B n r 0 td fa pl 1 < (nI (tF B n (ps B n r 2)))) → post 1 (nI (tN B n (ps B n r 2))) (nI (tF B n (ps B n r 2))) (sI (tK B n (ps B n r 2))) va' wd' wr (mkF B n r 0 td fa 1) (mkP B n r 0 td fa pl 1) (lD 0 (gd B n r 0 1) (tV B n (ps B n r 1)) (tV B n (ps B n r 2)) (tV B n (ps B n r 3)) td) rd' gd') : q_m_hutLine_0 tp (nI (tN B n (ps B n r 1))) (nI n) (nI (tF B n (ps B n r 1))) (sI (tK B n (ps B n r 1))) va wd wr (mkF B n r 0 td fa 0) (mkP B n r 0 td fa pl 0) td rd 1 post := by
  refine e_take (k := 1) (i := 0) (c := cW 0 0 (tV B n (ps B n r 1)) (tV B n (ps B n r 1))) (g := gd B n r 0 0) hn hr hB hb hv hlp (by omega) rfl (fun hk => zi (hF 1 (by omega) (by omega) hk (be1 (P := fun j => tK B n (ps B n r j) = 2)) _ _ _ _ _ _ _ _ _ _)) (fun k1 va1 wd1 hv1 hl1 => io ?_)
  have g := hT (al1 (P := fun j => tK B n (ps B n r j) = 2) k1) va1 wd1 (upd rd 0 (tV B n (ps B n r 1))) (gI (gd B n r 0 1)) hl1
  rw [show lD 0 (gd B n r 0 1) (tV B n (ps B n r 1)) (tV B n (ps B n r 2)) (tV B n (ps B n r 3)) td = (if td 0 = 9 then td else upd (upd td 0 (td 0 + 1)) (Int32.toNatClampNeg (7 + td 0)) (tV B n (ps B n r 1))) from rfl] at g
  refine e_further (c := 0) (by omega) (fun h => ⟨fun _ => ?_, fun h9 => absurd rfl h9⟩) (fun h => ⟨fun h9 => ?_, fun _ v e => ⟨iv_in (iv_add (l := 7) (h := 16) (iv_lit (x := 7) (l := 7) (h := 7) (by decide)) hC (by decide)) (by decide), fun t2 e2 => ?_⟩⟩)
  · rw [if_pos h] at g; exact g
  · have := hC.1
    rw [h9] at this
    exact absurd this (by decide)
  · rw [if_neg h] at g
    rw [c_0, up_s] at e
    rw [e2, e]
    exact g
set_option maxRecDepth 20000 in
theorem e_plainLine_3 {tp B rd td : Nat → Int32} {n r : Nat} {va wr fa pl : Int32} {wd : Int64} {post : Int32 → Int32 → Int32 → Int32 → Int32 → Int64 → Int32 → Int32 → Int32 → (Nat → Int32) → (Nat → Int32) → Int32 → Prop} (hn : n ≤ 600) (hr : r ≤ n) (hB : ∀ j, j < n → tp j = B j) (hb : ∀ j, iv (-128) 127 (B j)) (hv : tK B n (ps B n r 1) = 2 → va = (tV B n (ps B n r 1))) (hlp : ¬ mkF B n r 3 td fa 0 = 0 → mkP B n r 3 td fa pl 0 < (nI (tF B n (ps B n r 1)))) 
    (hF : ∀ j, 1 ≤ j → j ≤ 1 → ¬ tK B n (ps B n r j) = 2 → (∀ i, 1 ≤ i → i < j → tK B n (ps B n r i) = 2) → ∀ (re be so va : Int32) (wd : Int64) (lf lp : Int32) (td rd : Nat → Int32) (gd : Int32), post 0 re be so va wd (nI (tF B n (ps B n r j))) lf lp td rd gd)
    (hT : (∀ j, 1 ≤ j → j ≤ 1 → tK B n (ps B n r j) = 2) → ∀ (va' : Int32) (wd' : Int64) (rd' : Nat → Int32) (gd' : Int32), (¬ mkF B n r 3 td fa 1 = 0 → mkP B n r 3 td fa pl 1 < (nI (tF B n (ps B n r 2)))) → post 1 (nI (tN B n (ps B n r 2))) (nI (tF B n (ps B n r 2))) (sI (tK B n (ps B n r 2))) va' wd' wr (mkF B n r 3 td fa 1) (mkP B n r 3 td fa pl 1) (lD 3 (gd B n r 3 1) (tV B n (ps B n r 1)) (tV B n (ps B n r 2)) (tV B n (ps B n r 3)) td) rd' gd') : q_m_plainLine_0 tp (nI (tN B n (ps B n r 1))) (nI n) (nI (tF B n (ps B n r 1))) (sI (tK B n (ps B n r 1))) va wd wr (mkF B n r 3 td fa 0) (mkP B n r 3 td fa pl 0) td rd 1 5 1 9 post := by
  refine e_take (k := 1) (i := 0) (c := cW 3 0 (tV B n (ps B n r 1)) (tV B n (ps B n r 1))) (g := gd B n r 3 0) hn hr hB hb hv hlp (by omega) rfl (fun hk => zi (hF 1 (by omega) (by omega) hk (be1 (P := fun j => tK B n (ps B n r j) = 2)) _ _ _ _ _ _ _ _ _ _)) (fun k1 va1 wd1 hv1 hl1 => io ?_)
  have g := hT (al1 (P := fun j => tK B n (ps B n r j) = 2) k1) va1 wd1 (upd rd 0 (tV B n (ps B n r 1))) (gI (gd B n r 3 1)) hl1
  refine fun v e => ⟨vp_in_nI (n := 5) (by decide) (by decide), fun t2 e2 => ?_⟩
  rw [c_0, up_s] at e
  rw [e2, e]
  exact g
set_option maxRecDepth 20000 in
theorem e_plainLine_4 {tp B rd td : Nat → Int32} {n r : Nat} {va wr fa pl : Int32} {wd : Int64} {post : Int32 → Int32 → Int32 → Int32 → Int32 → Int64 → Int32 → Int32 → Int32 → (Nat → Int32) → (Nat → Int32) → Int32 → Prop} (hn : n ≤ 600) (hr : r ≤ n) (hB : ∀ j, j < n → tp j = B j) (hb : ∀ j, iv (-128) 127 (B j)) (hv : tK B n (ps B n r 1) = 2 → va = (tV B n (ps B n r 1))) (hlp : ¬ mkF B n r 4 td fa 0 = 0 → mkP B n r 4 td fa pl 0 < (nI (tF B n (ps B n r 1)))) 
    (hF : ∀ j, 1 ≤ j → j ≤ 1 → ¬ tK B n (ps B n r j) = 2 → (∀ i, 1 ≤ i → i < j → tK B n (ps B n r i) = 2) → ∀ (re be so va : Int32) (wd : Int64) (lf lp : Int32) (td rd : Nat → Int32) (gd : Int32), post 0 re be so va wd (nI (tF B n (ps B n r j))) lf lp td rd gd)
    (hT : (∀ j, 1 ≤ j → j ≤ 1 → tK B n (ps B n r j) = 2) → ∀ (va' : Int32) (wd' : Int64) (rd' : Nat → Int32) (gd' : Int32), (¬ mkF B n r 4 td fa 1 = 0 → mkP B n r 4 td fa pl 1 < (nI (tF B n (ps B n r 2)))) → post 1 (nI (tN B n (ps B n r 2))) (nI (tF B n (ps B n r 2))) (sI (tK B n (ps B n r 2))) va' wd' wr (mkF B n r 4 td fa 1) (mkP B n r 4 td fa pl 1) (lD 4 (gd B n r 4 1) (tV B n (ps B n r 1)) (tV B n (ps B n r 2)) (tV B n (ps B n r 3)) td) rd' gd') : q_m_plainLine_0 tp (nI (tN B n (ps B n r 1))) (nI n) (nI (tF B n (ps B n r 1))) (sI (tK B n (ps B n r 1))) va wd wr (mkF B n r 4 td fa 0) (mkP B n r 4 td fa pl 0) td rd 1 6 0 10 post := by
  refine e_take (k := 1) (i := 0) (c := cW 4 0 (tV B n (ps B n r 1)) (tV B n (ps B n r 1))) (g := gd B n r 4 0) hn hr hB hb hv hlp (by omega) rfl (fun hk => zi (hF 1 (by omega) (by omega) hk (be1 (P := fun j => tK B n (ps B n r j) = 2)) _ _ _ _ _ _ _ _ _ _)) (fun k1 va1 wd1 hv1 hl1 => io ?_)
  have g := hT (al1 (P := fun j => tK B n (ps B n r j) = 2) k1) va1 wd1 (upd rd 0 (tV B n (ps B n r 1))) (gI (gd B n r 4 1)) hl1
  refine fun v e => ⟨vp_in_nI (n := 6) (by decide) (by decide), fun t2 e2 => ?_⟩
  rw [c_0, up_s] at e
  rw [e2, e]
  exact g
set_option maxRecDepth 20000 in
theorem e_plainLine_19 {tp B rd td : Nat → Int32} {n r : Nat} {va wr fa pl : Int32} {wd : Int64} {post : Int32 → Int32 → Int32 → Int32 → Int32 → Int64 → Int32 → Int32 → Int32 → (Nat → Int32) → (Nat → Int32) → Int32 → Prop} (hn : n ≤ 600) (hr : r ≤ n) (hB : ∀ j, j < n → tp j = B j) (hb : ∀ j, iv (-128) 127 (B j)) (hv : tK B n (ps B n r 1) = 2 → va = (tV B n (ps B n r 1))) (hlp : ¬ mkF B n r 19 td fa 0 = 0 → mkP B n r 19 td fa pl 0 < (nI (tF B n (ps B n r 1)))) 
    (hF : ∀ j, 1 ≤ j → j ≤ 1 → ¬ tK B n (ps B n r j) = 2 → (∀ i, 1 ≤ i → i < j → tK B n (ps B n r i) = 2) → ∀ (re be so va : Int32) (wd : Int64) (lf lp : Int32) (td rd : Nat → Int32) (gd : Int32), post 0 re be so va wd (nI (tF B n (ps B n r j))) lf lp td rd gd)
    (hT : (∀ j, 1 ≤ j → j ≤ 1 → tK B n (ps B n r j) = 2) → ∀ (va' : Int32) (wd' : Int64) (rd' : Nat → Int32) (gd' : Int32), (¬ mkF B n r 19 td fa 1 = 0 → mkP B n r 19 td fa pl 1 < (nI (tF B n (ps B n r 2)))) → post 1 (nI (tN B n (ps B n r 2))) (nI (tF B n (ps B n r 2))) (sI (tK B n (ps B n r 2))) va' wd' wr (mkF B n r 19 td fa 1) (mkP B n r 19 td fa pl 1) (lD 19 (gd B n r 19 1) (tV B n (ps B n r 1)) (tV B n (ps B n r 2)) (tV B n (ps B n r 3)) td) rd' gd') : q_m_plainLine_0 tp (nI (tN B n (ps B n r 1))) (nI n) (nI (tF B n (ps B n r 1))) (sI (tK B n (ps B n r 1))) va wd wr (mkF B n r 19 td fa 0) (mkP B n r 19 td fa pl 0) td rd 1 19 0 9 post := by
  refine e_take (k := 1) (i := 0) (c := cW 19 0 (tV B n (ps B n r 1)) (tV B n (ps B n r 1))) (g := gd B n r 19 0) hn hr hB hb hv hlp (by omega) rfl (fun hk => zi (hF 1 (by omega) (by omega) hk (be1 (P := fun j => tK B n (ps B n r j) = 2)) _ _ _ _ _ _ _ _ _ _)) (fun k1 va1 wd1 hv1 hl1 => io ?_)
  have g := hT (al1 (P := fun j => tK B n (ps B n r j) = 2) k1) va1 wd1 (upd rd 0 (tV B n (ps B n r 1))) (gI (gd B n r 19 1)) hl1
  refine fun v e => ⟨vp_in_nI (n := 19) (by decide) (by decide), fun t2 e2 => ?_⟩
  rw [c_0, up_s] at e
  rw [e2, e]
  exact g
set_option maxRecDepth 20000 in
theorem e_bitLine_1 {tp B rd td : Nat → Int32} {n r : Nat} {va wr fa pl fh : Int32} {wd : Int64} {post : Int32 → Int32 → Int32 → Int32 → Int32 → Int64 → Int32 → Int32 → Int32 → (Nat → Int32) → (Nat → Int32) → Int32 → Int32 → Prop} (hn : n ≤ 600) (hr : r ≤ n) (hB : ∀ j, j < n → tp j = B j) (hb : ∀ j, iv (-128) 127 (B j)) (hv : tK B n (ps B n r 1) = 2 → va = (tV B n (ps B n r 1))) (hlp : ¬ mkF B n r 1 td fa 0 = 0 → mkP B n r 1 td fa pl 0 < (nI (tF B n (ps B n r 1)))) 
    (hF : ∀ j, 1 ≤ j → j ≤ 1 → ¬ tK B n (ps B n r j) = 2 → (∀ i, 1 ≤ i → i < j → tK B n (ps B n r i) = 2) → ∀ (re be so va : Int32) (wd : Int64) (lf lp : Int32) (td rd : Nat → Int32) (fh : Int32) (gd : Int32), post 0 re be so va wd (nI (tF B n (ps B n r j))) lf lp td rd fh gd)
    (hT : (∀ j, 1 ≤ j → j ≤ 1 → tK B n (ps B n r j) = 2) → ∀ (va' : Int32) (wd' : Int64) (rd' : Nat → Int32) (gd' : Int32), (¬ mkF B n r 1 td fa 1 = 0 → mkP B n r 1 td fa pl 1 < (nI (tF B n (ps B n r 2)))) → post 1 (nI (tN B n (ps B n r 2))) (nI (tF B n (ps B n r 2))) (sI (tK B n (ps B n r 2))) va' wd' wr (mkF B n r 1 td fa 1) (mkP B n r 1 td fa pl 1) (lD 1 (gd B n r 1 1) (tV B n (ps B n r 1)) (tV B n (ps B n r 2)) (tV B n (ps B n r 3)) td) rd' (lH 1 (tV B n (ps B n r 1)) (tV B n (ps B n r 2)) fh) gd') : q_m_bitLine_0 tp (nI (tN B n (ps B n r 1))) (nI n) (nI (tF B n (ps B n r 1))) (sI (tK B n (ps B n r 1))) va wd wr (mkF B n r 1 td fa 0) (mkP B n r 1 td fa pl 0) td rd fh 1 2 post := by
  refine e_takeHut (k := 1) (i := 0) (c := cW 1 0 (tV B n (ps B n r 1)) (tV B n (ps B n r 1))) (g := gd B n r 1 0) hn hr hB hb hv hlp (by omega) rfl (fun hk => zi (hF 1 (by omega) (by omega) hk (be1 (P := fun j => tK B n (ps B n r j) = 2)) _ _ _ _ _ _ _ _ _ _ _)) (fun k1 va1 wd1 hv1 hl1 => io ?_)
  have g := hT (al1 (P := fun j => tK B n (ps B n r j) = 2) k1) va1 wd1 (upd rd 0 (tV B n (ps B n r 1))) (gI (gd B n r 1 1)) hl1
  rw [show lD 1 (gd B n r 1 1) (tV B n (ps B n r 1)) (tV B n (ps B n r 2)) (tV B n (ps B n r 3)) td = upd td 2 (td 2 ||| (if gd B n r 1 1 = true then 1 <<< ((tV B n (ps B n r 1)) &&& 31) else 0)) from rfl] at g
  refine ⟨vp_in_nI (n := 2) (by decide) (by decide), fun h => ?_, fun h => ?_⟩
  · have hg : ¬ gd B n r 1 1 = true := fun h9 => by
      have h8 : gI (gd B n r 1 1) = 0 := h
      rw [h9] at h8
      exact absurd h8 (by decide)
    rw [if_neg hg] at g
    intro v e
    refine ⟨vp_in_nI (n := 2) (by decide) (by decide), fun t2 e2 => ?_⟩
    rw [e2, e]
    exact g
  · have hg : gd B n r 1 1 = true := by
      cases hh : gd B n r 1 1 with
      | true => rfl
      | false =>
        have h8 : ¬ gI (gd B n r 1 1) = 0 := h
        rw [hh] at h8
        exact absurd rfl h8
    rw [if_pos hg] at g
    rw [c_0, up_s]
    intro v e
    refine ⟨vp_in_nI (n := 2) (by decide) (by decide), fun t2 e2 => ?_⟩
    rw [e2, e]
    exact g
set_option maxRecDepth 20000 in
theorem e_bitLine_2 {tp B rd td : Nat → Int32} {n r : Nat} {va wr fa pl fh : Int32} {wd : Int64} {post : Int32 → Int32 → Int32 → Int32 → Int32 → Int64 → Int32 → Int32 → Int32 → (Nat → Int32) → (Nat → Int32) → Int32 → Int32 → Prop} (hn : n ≤ 600) (hr : r ≤ n) (hB : ∀ j, j < n → tp j = B j) (hb : ∀ j, iv (-128) 127 (B j)) (hv : tK B n (ps B n r 1) = 2 → va = (tV B n (ps B n r 1))) (hlp : ¬ mkF B n r 2 td fa 0 = 0 → mkP B n r 2 td fa pl 0 < (nI (tF B n (ps B n r 1)))) 
    (hF : ∀ j, 1 ≤ j → j ≤ 1 → ¬ tK B n (ps B n r j) = 2 → (∀ i, 1 ≤ i → i < j → tK B n (ps B n r i) = 2) → ∀ (re be so va : Int32) (wd : Int64) (lf lp : Int32) (td rd : Nat → Int32) (fh : Int32) (gd : Int32), post 0 re be so va wd (nI (tF B n (ps B n r j))) lf lp td rd fh gd)
    (hT : (∀ j, 1 ≤ j → j ≤ 1 → tK B n (ps B n r j) = 2) → ∀ (va' : Int32) (wd' : Int64) (rd' : Nat → Int32) (gd' : Int32), (¬ mkF B n r 2 td fa 1 = 0 → mkP B n r 2 td fa pl 1 < (nI (tF B n (ps B n r 2)))) → post 1 (nI (tN B n (ps B n r 2))) (nI (tF B n (ps B n r 2))) (sI (tK B n (ps B n r 2))) va' wd' wr (mkF B n r 2 td fa 1) (mkP B n r 2 td fa pl 1) (lD 2 (gd B n r 2 1) (tV B n (ps B n r 1)) (tV B n (ps B n r 2)) (tV B n (ps B n r 3)) td) rd' (lH 2 (tV B n (ps B n r 1)) (tV B n (ps B n r 2)) fh) gd') : q_m_bitLine_0 tp (nI (tN B n (ps B n r 1))) (nI n) (nI (tF B n (ps B n r 1))) (sI (tK B n (ps B n r 1))) va wd wr (mkF B n r 2 td fa 0) (mkP B n r 2 td fa pl 0) td rd fh 1 3 post := by
  refine e_takeHut (k := 1) (i := 0) (c := cW 2 0 (tV B n (ps B n r 1)) (tV B n (ps B n r 1))) (g := gd B n r 2 0) hn hr hB hb hv hlp (by omega) rfl (fun hk => zi (hF 1 (by omega) (by omega) hk (be1 (P := fun j => tK B n (ps B n r j) = 2)) _ _ _ _ _ _ _ _ _ _ _)) (fun k1 va1 wd1 hv1 hl1 => io ?_)
  have g := hT (al1 (P := fun j => tK B n (ps B n r j) = 2) k1) va1 wd1 (upd rd 0 (tV B n (ps B n r 1))) (gI (gd B n r 2 1)) hl1
  rw [show lD 2 (gd B n r 2 1) (tV B n (ps B n r 1)) (tV B n (ps B n r 2)) (tV B n (ps B n r 3)) td = upd td 3 (td 3 ||| (if gd B n r 2 1 = true then 1 <<< ((tV B n (ps B n r 1)) &&& 31) else 0)) from rfl] at g
  refine ⟨vp_in_nI (n := 3) (by decide) (by decide), fun h => ?_, fun h => ?_⟩
  · have hg : ¬ gd B n r 2 1 = true := fun h9 => by
      have h8 : gI (gd B n r 2 1) = 0 := h
      rw [h9] at h8
      exact absurd h8 (by decide)
    rw [if_neg hg] at g
    intro v e
    refine ⟨vp_in_nI (n := 3) (by decide) (by decide), fun t2 e2 => ?_⟩
    rw [e2, e]
    exact g
  · have hg : gd B n r 2 1 = true := by
      cases hh : gd B n r 2 1 with
      | true => rfl
      | false =>
        have h8 : ¬ gI (gd B n r 2 1) = 0 := h
        rw [hh] at h8
        exact absurd rfl h8
    rw [if_pos hg] at g
    rw [c_0, up_s]
    intro v e
    refine ⟨vp_in_nI (n := 3) (by decide) (by decide), fun t2 e2 => ?_⟩
    rw [e2, e]
    exact g
theorem gd_c {B : Nat → Int32} {n r w : Nat} : ∀ k, gd B n r w k = true → ∀ j, j < k → cW w j (tV B n (ps B n r 1)) (tV B n (ps B n r (j + 1))) = true
  | 0 => fun _ j hj => absurd hj (by omega)
  | k + 1 => fun h j hj => by
    have h2 : (gd B n r w k && cW w k (tV B n (ps B n r 1)) (tV B n (ps B n r (k + 1)))) = true := h
    rw [Bool.and_eq_true] at h2
    by_cases hjk : j = k
    · subst hjk; exact h2.2
    · exact gd_c k h2.1 j (by omega)
set_option maxRecDepth 20000 in
theorem e_wayLine {tp B rd td : Nat → Int32} {n r : Nat} {va wr fa pl fh : Int32} {wd : Int64} {post : Int32 → Int32 → Int32 → Int32 → Int32 → Int64 → Int32 → Int32 → Int32 → (Nat → Int32) → (Nat → Int32) → Int32 → Int32 → Prop} (hn : n ≤ 600) (hr : r ≤ n) (hB : ∀ j, j < n → tp j = B j) (hb : ∀ j, iv (-128) 127 (B j)) (hv : tK B n (ps B n r 1) = 2 → va = (tV B n (ps B n r 1))) (hlp : ¬ mkF B n r 5 td fa 0 = 0 → mkP B n r 5 td fa pl 0 < (nI (tF B n (ps B n r 1)))) 
    (hF : ∀ j, 1 ≤ j → j ≤ 3 → ¬ tK B n (ps B n r j) = 2 → (∀ i, 1 ≤ i → i < j → tK B n (ps B n r i) = 2) → ∀ (re be so va : Int32) (wd : Int64) (lf lp : Int32) (td rd : Nat → Int32) (fh : Int32) (gd : Int32), post 0 re be so va wd (nI (tF B n (ps B n r j))) lf lp td rd fh gd)
    (hT : (∀ j, 1 ≤ j → j ≤ 3 → tK B n (ps B n r j) = 2) → ∀ (va' : Int32) (wd' : Int64) (rd' : Nat → Int32) (gd' : Int32), (¬ mkF B n r 5 td fa 3 = 0 → mkP B n r 5 td fa pl 3 < (nI (tF B n (ps B n r 4)))) → post 1 (nI (tN B n (ps B n r 4))) (nI (tF B n (ps B n r 4))) (sI (tK B n (ps B n r 4))) va' wd' wr (mkF B n r 5 td fa 3) (mkP B n r 5 td fa pl 3) (lD 5 (gd B n r 5 3) (tV B n (ps B n r 1)) (tV B n (ps B n r 2)) (tV B n (ps B n r 3)) td) rd' (lH 5 (tV B n (ps B n r 1)) (tV B n (ps B n r 2)) fh) gd') : q_m_wayLine_0 tp (nI (tN B n (ps B n r 1))) (nI n) (nI (tF B n (ps B n r 1))) (sI (tK B n (ps B n r 1))) va wd wr (mkF B n r 5 td fa 0) (mkP B n r 5 td fa pl 0) td rd fh 1 post := by
  refine e_takeHut (k := 1) (i := 0) (c := cW 5 0 (tV B n (ps B n r 1)) (tV B n (ps B n r 1))) (g := gd B n r 5 0) hn hr hB hb hv hlp (by omega) rfl (fun hk => iz (hF 1 (by omega) (by omega) hk (be1 (P := fun j => tK B n (ps B n r j) = 2)) _ _ _ _ _ _ _ _ _ _ _)) (fun k1 va1 wd1 hv1 hl1 => oi ?_)
  refine e_takeHut (k := 2) (i := 1) (c := cW 5 1 (tV B n (ps B n r 1)) (tV B n (ps B n r 2))) (g := gd B n r 5 1) hn hr hB hb hv1 hl1 (by omega) (by rw [c_0, up_s]; rfl) (fun hk => iz (hF 2 (by omega) (by omega) hk (be2 (P := fun j => tK B n (ps B n r j) = 2) k1) _ _ _ _ _ _ _ _ _ _ _)) (fun k2 va2 wd2 hv2 hl2 => oi ?_)
  refine e_take (k := 3) (i := 2) (c := cW 5 2 (tV B n (ps B n r 1)) (tV B n (ps B n r 3))) (g := gd B n r 5 2) hn hr hB hb hv2 hl2 (by omega) rfl (fun hk => zi (hF 3 (by omega) (by omega) hk (be3 (P := fun j => tK B n (ps B n r j) = 2) k1 k2) _ _ _ _ _ _ _ _ _ _ _)) (fun k3 va3 wd3 hv3 hl3 => io ?_)
  have hgt : ¬ gI (gd B n r 5 3) = 0 → gd B n r 5 3 = true := fun h => by
    cases hh : gd B n r 5 3 with
    | true => rfl
    | false => rw [hh] at h; exact absurd rfl h
  have hgf : gI (gd B n r 5 3) = 0 → ¬ gd B n r 5 3 = true := fun h h9 => by
    rw [h9] at h
    exact absurd h (by decide)
  have g := hT (al3 (P := fun j => tK B n (ps B n r j) = 2) k1 k2 k3) va3 wd3 (upd (upd (upd rd 0 (tV B n (ps B n r 1))) 1 (tV B n (ps B n r 2))) 2 (tV B n (ps B n r 3))) (gI (gd B n r 5 3)) hl3
  rw [show lD 5 (gd B n r 5 3) (tV B n (ps B n r 1)) (tV B n (ps B n r 2)) (tV B n (ps B n r 3)) td = (if gd B n r 5 3 = true then upd (upd td (Int32.toNatClampNeg ((51 + 9 * (tV B n (ps B n r 1))) + (tV B n (ps B n r 2)))) (tV B n (ps B n r 3))) (Int32.toNatClampNeg ((51 + 9 * (tV B n (ps B n r 2))) + (tV B n (ps B n r 1)))) (tV B n (ps B n r 3)) else td) from rfl] at g
  have r0 : (upd (upd (upd rd 0 (tV B n (ps B n r 1))) 1 (tV B n (ps B n r 2))) 2 (tV B n (ps B n r 3))) 0 = (tV B n (ps B n r 1)) := by rw [up_n (by omega), up_n (by omega), up_s]
  have r1 : (upd (upd (upd rd 0 (tV B n (ps B n r 1))) 1 (tV B n (ps B n r 2))) 2 (tV B n (ps B n r 3))) 1 = (tV B n (ps B n r 2)) := by rw [up_n (by omega), up_s]
  have r2 : (upd (upd (upd rd 0 (tV B n (ps B n r 1))) 1 (tV B n (ps B n r 2))) 2 (tV B n (ps B n r 3))) 2 = (tV B n (ps B n r 3)) := up_s
  refine ⟨fun h => ?_, fun h => ?_⟩
  · rw [if_neg (hgf h)] at g; exact g
  · have hg := hgt h
    rw [if_pos hg] at g
    rw [c_0, c_1, c_2, r0, r1, r2]
    have i1 : iv 0 8 (tV B n (ps B n r 1)) := iv_w (cW_iv (gd_c 3 hg 0 (by omega))) (by decide +kernel)
    have i2 : iv 0 8 (tV B n (ps B n r 2)) := iv_w (cW_iv (gd_c 3 hg 1 (by omega))) (by decide +kernel)
    have m1 : iv 0 72 (9 * (tV B n (ps B n r 1))) := iv_mul (l := 0) (h := 72) (iv_lit (x := 9) (l := 9) (h := 9) (by decide)) i1 (by decide)
    have m2 : iv 0 72 (9 * (tV B n (ps B n r 2))) := iv_mul (l := 0) (h := 72) (iv_lit (x := 9) (l := 9) (h := 9) (by decide)) i2 (by decide)
    have s1 : iv 51 131 ((51 + 9 * (tV B n (ps B n r 1))) + (tV B n (ps B n r 2))) := iv_add (l := 51) (h := 131) (iv_add (l := 51) (h := 123) (iv_lit (x := 51) (l := 51) (h := 51) (by decide)) m1 (by decide)) i2 (by decide)
    have s2 : iv 51 131 ((51 + 9 * (tV B n (ps B n r 2))) + (tV B n (ps B n r 1))) := iv_add (l := 51) (h := 131) (iv_add (l := 51) (h := 123) (iv_lit (x := 51) (l := 51) (h := 51) (by decide)) m2 (by decide)) i1 (by decide)
    refine fun v e => ⟨iv_in s1 (by decide), fun t1 e1 v2 e2 => ⟨iv_in s2 (by decide), fun t2 e3 => ?_⟩⟩
    rw [e3, e2, e1, e]
    exact g
set_option maxRecDepth 20000 in
theorem e_echoLine {tp B rd td : Nat → Int32} {n r : Nat} {va wr fa pl fh : Int32} {wd : Int64} {post : Int32 → Int32 → Int32 → Int32 → Int32 → Int64 → Int32 → Int32 → Int32 → (Nat → Int32) → (Nat → Int32) → Int32 → Int32 → Prop} (hn : n ≤ 600) (hr : r ≤ n) (hB : ∀ j, j < n → tp j = B j) (hb : ∀ j, iv (-128) 127 (B j)) (hv : tK B n (ps B n r 1) = 2 → va = (tV B n (ps B n r 1))) (hlp : ¬ mkF B n r 6 td fa 0 = 0 → mkP B n r 6 td fa pl 0 < (nI (tF B n (ps B n r 1)))) (hC : iv 0 4 (td 4))
    (hF : ∀ j, 1 ≤ j → j ≤ 2 → ¬ tK B n (ps B n r j) = 2 → (∀ i, 1 ≤ i → i < j → tK B n (ps B n r i) = 2) → ∀ (re be so va : Int32) (wd : Int64) (lf lp : Int32) (td rd : Nat → Int32) (fh : Int32) (gd : Int32), post 0 re be so va wd (nI (tF B n (ps B n r j))) lf lp td rd fh gd)
    (hT : (∀ j, 1 ≤ j → j ≤ 2 → tK B n (ps B n r j) = 2) → ∀ (va' : Int32) (wd' : Int64) (rd' : Nat → Int32) (gd' : Int32), (¬ mkF B n r 6 td fa 2 = 0 → mkP B n r 6 td fa pl 2 < (nI (tF B n (ps B n r 3)))) → post 1 (nI (tN B n (ps B n r 3))) (nI (tF B n (ps B n r 3))) (sI (tK B n (ps B n r 3))) va' wd' wr (mkF B n r 6 td fa 2) (mkP B n r 6 td fa pl 2) (lD 6 (gd B n r 6 2) (tV B n (ps B n r 1)) (tV B n (ps B n r 2)) (tV B n (ps B n r 3)) td) rd' (lH 6 (tV B n (ps B n r 1)) (tV B n (ps B n r 2)) fh) gd') : q_m_echoLine_0 tp (nI (tN B n (ps B n r 1))) (nI n) (nI (tF B n (ps B n r 1))) (sI (tK B n (ps B n r 1))) va wd wr (mkF B n r 6 td fa 0) (mkP B n r 6 td fa pl 0) td rd fh 1 post := by
  refine e_takeHut (k := 1) (i := 0) (c := cW 6 0 (tV B n (ps B n r 1)) (tV B n (ps B n r 1))) (g := gd B n r 6 0) hn hr hB hb hv hlp (by omega) rfl (fun hk => iz (hF 1 (by omega) (by omega) hk (be1 (P := fun j => tK B n (ps B n r j) = 2)) _ _ _ _ _ _ _ _ _ _ _)) (fun k1 va1 wd1 hv1 hl1 => oi ?_)
  refine e_takeHut (k := 2) (i := 1) (c := cW 6 1 (tV B n (ps B n r 1)) (tV B n (ps B n r 2))) (g := gd B n r 6 1) hn hr hB hb hv1 hl1 (by omega) (by rw [c_0, up_s]; rfl) (fun hk => zi (hF 2 (by omega) (by omega) hk (be2 (P := fun j => tK B n (ps B n r j) = 2) k1) _ _ _ _ _ _ _ _ _ _ _)) (fun k2 va2 wd2 hv2 hl2 => io ?_)
  have r0 : (upd (upd rd 0 (tV B n (ps B n r 1))) 1 (tV B n (ps B n r 2))) 0 = (tV B n (ps B n r 1)) := by rw [up_n (by omega), up_s]
  have r1 : (upd (upd rd 0 (tV B n (ps B n r 1))) 1 (tV B n (ps B n r 2))) 1 = (tV B n (ps B n r 2)) := up_s
  have g := hT (al2 (P := fun j => tK B n (ps B n r j) = 2) k1 k2) va2 wd2 (upd (upd rd 0 (tV B n (ps B n r 1))) 1 (tV B n (ps B n r 2))) (gI (gd B n r 6 2)) hl2
  rw [show lD 6 (gd B n r 6 2) (tV B n (ps B n r 1)) (tV B n (ps B n r 2)) (tV B n (ps B n r 3)) td = (if td 4 = 4 then td else upd (upd (upd td 4 (td 4 + 1)) (Int32.toNatClampNeg (43 + 2 * td 4)) (tV B n (ps B n r 1))) (Int32.toNatClampNeg ((43 + 2 * td 4) + 1)) (tV B n (ps B n r 2))) from rfl] at g
  have m1 : iv 0 8 (2 * td 4) := iv_mul (l := 0) (h := 8) (iv_lit (x := 2) (l := 2) (h := 2) (by decide)) hC (by decide)
  have s1 : iv 43 51 (43 + 2 * td 4) := iv_add (l := 43) (h := 51) (iv_lit (x := 43) (l := 43) (h := 43) (by decide)) m1 (by decide)
  have s2 : iv 44 52 ((43 + 2 * td 4) + 1) := iv_add (l := 44) (h := 52) s1 (iv_lit (x := 1) (l := 1) (h := 1) (by decide)) (by decide)
  refine e_further (c := 4) (by omega) (fun h => ⟨fun _ => ?_, fun h9 => absurd rfl h9⟩) (fun h => ⟨fun h9 => ?_, fun _ v e => ⟨iv_in s1 (by decide), fun t2 e2 v2 e3 => ⟨iv_in s2 (by decide), fun t3 e4 => ?_⟩⟩⟩)
  · rw [if_pos h] at g; exact g
  · have := hC.1
    rw [h9] at this
    exact absurd this (by decide)
  · rw [if_neg h] at g
    rw [c_0, r0] at e
    rw [c_1, r1] at e3
    rw [e4, e3, e2, e]
    exact g
set_option maxRecDepth 20000 in
theorem e_singerLine {tp B rd td : Nat → Int32} {n r : Nat} {va wr fa pl fh : Int32} {wd : Int64} {post : Int32 → Int32 → Int32 → Int32 → Int32 → Int64 → Int32 → Int32 → Int32 → (Nat → Int32) → (Nat → Int32) → Int32 → Int32 → Prop} (hn : n ≤ 600) (hr : r ≤ n) (hB : ∀ j, j < n → tp j = B j) (hb : ∀ j, iv (-128) 127 (B j)) (hv : tK B n (ps B n r 1) = 2 → va = (tV B n (ps B n r 1))) (hlp : ¬ mkF B n r 8 td fa 0 = 0 → mkP B n r 8 td fa pl 0 < (nI (tF B n (ps B n r 1)))) (hC : iv 0 6 (td 1))
    (hF : ∀ j, 1 ≤ j → j ≤ 2 → ¬ tK B n (ps B n r j) = 2 → (∀ i, 1 ≤ i → i < j → tK B n (ps B n r i) = 2) → ∀ (re be so va : Int32) (wd : Int64) (lf lp : Int32) (td rd : Nat → Int32) (fh : Int32) (gd : Int32), post 0 re be so va wd (nI (tF B n (ps B n r j))) lf lp td rd fh gd)
    (hT : (∀ j, 1 ≤ j → j ≤ 2 → tK B n (ps B n r j) = 2) → ∀ (va' : Int32) (wd' : Int64) (rd' : Nat → Int32) (gd' : Int32), (¬ mkF B n r 8 td fa 2 = 0 → mkP B n r 8 td fa pl 2 < (nI (tF B n (ps B n r 3)))) → post 1 (nI (tN B n (ps B n r 3))) (nI (tF B n (ps B n r 3))) (sI (tK B n (ps B n r 3))) va' wd' wr (mkF B n r 8 td fa 2) (mkP B n r 8 td fa pl 2) (lD 8 (gd B n r 8 2) (tV B n (ps B n r 1)) (tV B n (ps B n r 2)) (tV B n (ps B n r 3)) td) rd' (lH 8 (tV B n (ps B n r 1)) (tV B n (ps B n r 2)) fh) gd') : q_m_singerLine_0 tp (nI (tN B n (ps B n r 1))) (nI n) (nI (tF B n (ps B n r 1))) (sI (tK B n (ps B n r 1))) va wd wr (mkF B n r 8 td fa 0) (mkP B n r 8 td fa pl 0) td rd fh 1 post := by
  refine e_takeHut (k := 1) (i := 0) (c := cW 8 0 (tV B n (ps B n r 1)) (tV B n (ps B n r 1))) (g := gd B n r 8 0) hn hr hB hb hv hlp (by omega) rfl (fun hk => iz (hF 1 (by omega) (by omega) hk (be1 (P := fun j => tK B n (ps B n r j) = 2)) _ _ _ _ _ _ _ _ _ _ _)) (fun k1 va1 wd1 hv1 hl1 => oi ?_)
  refine e_take (k := 2) (i := 1) (c := cW 8 1 (tV B n (ps B n r 1)) (tV B n (ps B n r 2))) (g := gd B n r 8 1) hn hr hB hb hv1 hl1 (by omega) rfl (fun hk => zi (hF 2 (by omega) (by omega) hk (be2 (P := fun j => tK B n (ps B n r j) = 2) k1) _ _ _ _ _ _ _ _ _ _ _)) (fun k2 va2 wd2 hv2 hl2 => io ?_)
  have r0 : (upd (upd rd 0 (tV B n (ps B n r 1))) 1 (tV B n (ps B n r 2))) 0 = (tV B n (ps B n r 1)) := by rw [up_n (by omega), up_s]
  have r1 : (upd (upd rd 0 (tV B n (ps B n r 1))) 1 (tV B n (ps B n r 2))) 1 = (tV B n (ps B n r 2)) := up_s
  have g := hT (al2 (P := fun j => tK B n (ps B n r j) = 2) k1 k2) va2 wd2 (upd (upd rd 0 (tV B n (ps B n r 1))) 1 (tV B n (ps B n r 2))) (gI (gd B n r 8 2)) hl2
  rw [show lD 8 (gd B n r 8 2) (tV B n (ps B n r 1)) (tV B n (ps B n r 2)) (tV B n (ps B n r 3)) td = (if td 1 = 6 then td else upd (upd (upd td 1 (td 1 + 1)) (Int32.toNatClampNeg (25 + td 1)) (tV B n (ps B n r 1))) (Int32.toNatClampNeg (31 + td 1)) (tV B n (ps B n r 2))) from rfl] at g
  have s1 : iv 25 31 (25 + td 1) := iv_add (l := 25) (h := 31) (iv_lit (x := 25) (l := 25) (h := 25) (by decide)) hC (by decide)
  have s2 : iv 31 37 (31 + td 1) := iv_add (l := 31) (h := 37) (iv_lit (x := 31) (l := 31) (h := 31) (by decide)) hC (by decide)
  refine e_further (c := 1) (by omega) (fun h => ⟨fun _ => ?_, fun h9 => absurd rfl h9⟩) (fun h => ⟨fun h9 => ?_, fun _ v e => ⟨iv_in s1 (by decide), fun t2 e2 v2 e3 => ⟨iv_in s2 (by decide), fun t3 e4 => ?_⟩⟩⟩)
  · rw [if_pos h] at g; exact g
  · have := hC.1
    rw [h9] at this
    exact absurd this (by decide)
  · rw [if_neg h] at g
    rw [c_0, r0] at e
    rw [c_1, r1] at e3
    rw [e4, e3, e2, e]
    exact g
set_option maxRecDepth 20000 in
theorem e_ladderLine {tp B rd td : Nat → Int32} {n r : Nat} {va wr fa pl fh : Int32} {wd : Int64} {post : Int32 → Int32 → Int32 → Int32 → Int32 → Int64 → Int32 → Int32 → Int32 → (Nat → Int32) → (Nat → Int32) → Int32 → Int32 → Prop} (hn : n ≤ 600) (hr : r ≤ n) (hB : ∀ j, j < n → tp j = B j) (hb : ∀ j, iv (-128) 127 (B j)) (hv : tK B n (ps B n r 1) = 2 → va = (tV B n (ps B n r 1))) (hlp : ¬ mkF B n r 7 td fa 0 = 0 → mkP B n r 7 td fa pl 0 < (nI (tF B n (ps B n r 1)))) 
    (hF : ∀ j, 1 ≤ j → j ≤ 2 → ¬ tK B n (ps B n r j) = 2 → (∀ i, 1 ≤ i → i < j → tK B n (ps B n r i) = 2) → ∀ (re be so va : Int32) (wd : Int64) (lf lp : Int32) (td rd : Nat → Int32) (fh : Int32) (gd : Int32), post 0 re be so va wd (nI (tF B n (ps B n r j))) lf lp td rd fh gd)
    (hT : (∀ j, 1 ≤ j → j ≤ 2 → tK B n (ps B n r j) = 2) → ∀ (va' : Int32) (wd' : Int64) (rd' : Nat → Int32) (gd' : Int32), (¬ mkF B n r 7 td fa 2 = 0 → mkP B n r 7 td fa pl 2 < (nI (tF B n (ps B n r 3)))) → post 1 (nI (tN B n (ps B n r 3))) (nI (tF B n (ps B n r 3))) (sI (tK B n (ps B n r 3))) va' wd' wr (mkF B n r 7 td fa 2) (mkP B n r 7 td fa pl 2) (lD 7 (gd B n r 7 2) (tV B n (ps B n r 1)) (tV B n (ps B n r 2)) (tV B n (ps B n r 3)) td) rd' (lH 7 (tV B n (ps B n r 1)) (tV B n (ps B n r 2)) fh) gd') : q_m_ladderLine_0 tp (nI (tN B n (ps B n r 1))) (nI n) (nI (tF B n (ps B n r 1))) (sI (tK B n (ps B n r 1))) va wd wr (mkF B n r 7 td fa 0) (mkP B n r 7 td fa pl 0) td rd fh 1 post := by
  refine e_takeHut (k := 1) (i := 0) (c := cW 7 0 (tV B n (ps B n r 1)) (tV B n (ps B n r 1))) (g := gd B n r 7 0) hn hr hB hb hv hlp (by omega) rfl (fun hk => iz (hF 1 (by omega) (by omega) hk (be1 (P := fun j => tK B n (ps B n r j) = 2)) _ _ _ _ _ _ _ _ _ _ _)) (fun k1 va1 wd1 hv1 hl1 => oi ?_)
  refine e_take (k := 2) (i := 1) (c := cW 7 1 (tV B n (ps B n r 1)) (tV B n (ps B n r 2))) (g := gd B n r 7 1) hn hr hB hb hv1 hl1 (by omega) rfl (fun hk => zi (hF 2 (by omega) (by omega) hk (be2 (P := fun j => tK B n (ps B n r j) = 2) k1) _ _ _ _ _ _ _ _ _ _ _)) (fun k2 va2 wd2 hv2 hl2 => io ?_)
  have r0 : (upd (upd rd 0 (tV B n (ps B n r 1))) 1 (tV B n (ps B n r 2))) 0 = (tV B n (ps B n r 1)) := by rw [up_n (by omega), up_s]
  have r1 : (upd (upd rd 0 (tV B n (ps B n r 1))) 1 (tV B n (ps B n r 2))) 1 = (tV B n (ps B n r 2)) := up_s
  have hgt : ¬ gI (gd B n r 7 2) = 0 → gd B n r 7 2 = true := fun h => by
    cases hh : gd B n r 7 2 with
    | true => rfl
    | false => rw [hh] at h; exact absurd rfl h
  have hgf : gI (gd B n r 7 2) = 0 → ¬ gd B n r 7 2 = true := fun h h9 => by
    rw [h9] at h
    exact absurd h (by decide)
  have g := hT (al2 (P := fun j => tK B n (ps B n r j) = 2) k1 k2) va2 wd2 (upd (upd rd 0 (tV B n (ps B n r 1))) 1 (tV B n (ps B n r 2))) (gI (gd B n r 7 2)) hl2
  rw [show lD 7 (gd B n r 7 2) (tV B n (ps B n r 1)) (tV B n (ps B n r 2)) (tV B n (ps B n r 3)) td = (if gd B n r 7 2 = true then upd td (Int32.toNatClampNeg (16 + (tV B n (ps B n r 1)))) (tV B n (ps B n r 2)) else td) from rfl] at g
  refine ⟨fun h => ?_, fun h => ?_⟩
  · rw [if_neg (hgf h)] at g; exact g
  · have hg := hgt h
    rw [if_pos hg] at g
    rw [c_0, c_1, r0, r1]
    have i1 : iv 0 8 (tV B n (ps B n r 1)) := iv_w (cW_iv (gd_c 2 hg 0 (by omega))) (by decide +kernel)
    refine fun v e => ⟨iv_in (iv_add (l := 16) (h := 24) (iv_lit (x := 16) (l := 16) (h := 16) (by decide)) i1 (by decide)) (by decide), fun t1 e1 => ?_⟩
    rw [e1, e]
    exact g
set_option maxRecDepth 20000 in
theorem e_knowsLine {tp B rd td : Nat → Int32} {n r : Nat} {va wr fa pl fs : Int32} {wd : Int64} {post : Int32 → Int32 → Int32 → Int32 → Int32 → Int64 → Int32 → Int32 → Int32 → (Nat → Int32) → (Nat → Int32) → Int32 → Int32 → Prop} (hn : n ≤ 600) (hr : r ≤ n) (hB : ∀ j, j < n → tp j = B j) (hb : ∀ j, iv (-128) 127 (B j)) (hv : tK B n (ps B n r 1) = 2 → va = (tV B n (ps B n r 1))) (hlp : ¬ mkF B n r 9 td fa 0 = 0 → mkP B n r 9 td fa pl 0 < (nI (tF B n (ps B n r 1)))) 
    (hF : ∀ j, 1 ≤ j → j ≤ 2 → ¬ tK B n (ps B n r j) = 2 → (∀ i, 1 ≤ i → i < j → tK B n (ps B n r i) = 2) → ∀ (re be so va : Int32) (wd : Int64) (lf lp : Int32) (td rd : Nat → Int32) (fs : Int32) (gd : Int32), post 0 re be so va wd (nI (tF B n (ps B n r j))) lf lp td rd fs gd)
    (hT : (∀ j, 1 ≤ j → j ≤ 2 → tK B n (ps B n r j) = 2) → ∀ (va' : Int32) (wd' : Int64) (rd' : Nat → Int32) (gd' : Int32), (¬ mkF B n r 9 td fa 2 = 0 → mkP B n r 9 td fa pl 2 < (nI (tF B n (ps B n r 3)))) → post 1 (nI (tN B n (ps B n r 3))) (nI (tF B n (ps B n r 3))) (sI (tK B n (ps B n r 3))) va' wd' wr (mkF B n r 9 td fa 2) (mkP B n r 9 td fa pl 2) (lD 9 (gd B n r 9 2) (tV B n (ps B n r 1)) (tV B n (ps B n r 2)) (tV B n (ps B n r 3)) td) rd' (lS 9 (tV B n (ps B n r 1)) fs) gd') : q_m_knowsLine_0 tp (nI (tN B n (ps B n r 1))) (nI n) (nI (tF B n (ps B n r 1))) (sI (tK B n (ps B n r 1))) va wd wr (mkF B n r 9 td fa 0) (mkP B n r 9 td fa pl 0) td rd fs 1 post := by
  refine e_take (k := 1) (i := 0) (c := cW 9 0 (tV B n (ps B n r 1)) (tV B n (ps B n r 1))) (g := gd B n r 9 0) hn hr hB hb hv hlp (by omega) rfl (fun hk => iz (hF 1 (by omega) (by omega) hk (be1 (P := fun j => tK B n (ps B n r j) = 2)) _ _ _ _ _ _ _ _ _ _ _)) (fun k1 va1 wd1 hv1 hl1 => oi ?_)
  refine e_take (k := 2) (i := 1) (c := cW 9 1 (tV B n (ps B n r 1)) (tV B n (ps B n r 2))) (g := gd B n r 9 1) hn hr hB hb hv1 hl1 (by omega) rfl (fun hk => zi (hF 2 (by omega) (by omega) hk (be2 (P := fun j => tK B n (ps B n r j) = 2) k1) _ _ _ _ _ _ _ _ _ _ _)) (fun k2 va2 wd2 hv2 hl2 => io ?_)
  have r0 : (upd (upd rd 0 (tV B n (ps B n r 1))) 1 (tV B n (ps B n r 2))) 0 = (tV B n (ps B n r 1)) := by rw [up_n (by omega), up_s]
  have r1 : (upd (upd rd 0 (tV B n (ps B n r 1))) 1 (tV B n (ps B n r 2))) 1 = (tV B n (ps B n r 2)) := up_s
  have hgt : ¬ gI (gd B n r 9 2) = 0 → gd B n r 9 2 = true := fun h => by
    cases hh : gd B n r 9 2 with
    | true => rfl
    | false => rw [hh] at h; exact absurd rfl h
  have hgf : gI (gd B n r 9 2) = 0 → ¬ gd B n r 9 2 = true := fun h h9 => by
    rw [h9] at h
    exact absurd h (by decide)
  have g := hT (al2 (P := fun j => tK B n (ps B n r j) = 2) k1 k2) va2 wd2 (upd (upd rd 0 (tV B n (ps B n r 1))) 1 (tV B n (ps B n r 2))) (gI (gd B n r 9 2)) hl2
  rw [show lD 9 (gd B n r 9 2) (tV B n (ps B n r 1)) (tV B n (ps B n r 2)) (tV B n (ps B n r 3)) td = (if gd B n r 9 2 = true then upd td (Int32.toNatClampNeg (37 + (tV B n (ps B n r 1)))) (td (Int32.toNatClampNeg (37 + (tV B n (ps B n r 1)))) ||| 1 <<< ((tV B n (ps B n r 2)) &&& 31)) else td) from rfl] at g
  rw [c_0, c_1, r0, r1]
  refine e_greater ⟨fun h => ?_, fun h => ?_⟩
  · rw [if_neg (hgf h)] at g; exact g
  · have hg := hgt h
    rw [if_pos hg] at g
    have i1 : iv 0 5 (tV B n (ps B n r 1)) := iv_w (cW_iv (gd_c 2 hg 0 (by omega))) (by decide +kernel)
    have hin := iv_in (n := 132) (iv_add (l := 37) (h := 42) (iv_lit (x := 37) (l := 37) (h := 37) (by decide)) i1 (by decide)) (by decide)
    refine ⟨hin, fun v e => ⟨hin, fun t1 e1 => ?_⟩⟩
    rw [e1, e]
    exact g
