/-- a line: the places of its tokens -/
def ps (B : Nat → Int32) (n r : Nat) : Nat → Nat
  | 0 => r
  | k + 1 => tN B n (ps B n r k)
theorem ps_le {B : Nat → Int32} {n r : Nat} (hr : r ≤ n) : ∀ k, r ≤ ps B n r k ∧ ps B n r k ≤ n
  | 0 => ⟨Nat.le_refl _, hr⟩
  | k + 1 => by
    have h := ps_le (B := B) hr k
    have h1 := tF_le (B := B) h.2
    have h2 := tk_le (B := B) h.2
    show r ≤ tN B n (ps B n r k) ∧ tN B n (ps B n r k) ≤ n
    omega
def nW (w : Nat) : Nat := [1, 1, 1, 1, 1, 3, 2, 2, 2, 2, 2, 2, 2, 2, 1, 1, 2, 2, 2, 1].getD w 0
theorem nW_tb : ∀ w, w < 20 → tbf_1 w = nI (nW w) ∧ 1 ≤ nW w ∧ nW w ≤ 3 := by decide +kernel
def cb (lo hi but v : Int32) : Bool := decide (lo ≤ v ∧ v ≤ hi ∧ ¬ v = but)
def cW (w k : Nat) (a v : Int32) : Bool := cb (tbf_2 (w * 3 + k)) (tbf_3 (w * 3 + k)) (if k = 1 ∧ (w = 5 ∨ w = 6) then a else -1) v
def fu (w : Nat) (td : Nat → Int32) : Bool := decide ((w = 0 ∧ td 0 = 9) ∨ (w = 6 ∧ td 4 = 4) ∨ (w = 8 ∧ td 1 = 6) ∨ (10 ≤ w ∧ w < 16 ∧ td 0 = 40) ∨ (16 ≤ w ∧ w < 18 ∧ td 0 = 10) ∨ (w = 18 ∧ td 0 = 9))
def mF (c : Bool) (lf f : Int32) : Int32 := if c = true then lf else if lf = 0 then f else lf
def mP (c : Bool) (lf lp pl : Int32) : Int32 := if c = true then lp else if lf = 0 then pl else lp
def mkF (B : Nat → Int32) (n r w : Nat) (td : Nat → Int32) (fa : Int32) : Nat → Int32
  | 0 => mF (!fu w td) fa 3
  | k + 1 => mF (cW w k (tV B n (ps B n r 1)) (tV B n (ps B n r (k + 1)))) (mkF B n r w td fa k) 2
def mkP (B : Nat → Int32) (n r w : Nat) (td : Nat → Int32) (fa pl : Int32) : Nat → Int32
  | 0 => mP (!fu w td) fa pl (nI (tF B n r))
  | k + 1 => mP (cW w k (tV B n (ps B n r 1)) (tV B n (ps B n r (k + 1)))) (mkF B n r w td fa k) (mkP B n r w td fa pl k) (nI (tF B n (ps B n r (k + 1))))
def gd (B : Nat → Int32) (n r w : Nat) : Nat → Bool
  | 0 => true
  | k + 1 => gd B n r w k && cW w k (tV B n (ps B n r 1)) (tV B n (ps B n r (k + 1)))
/-- the token of a line with which no text goes on; 9: none -/
def lbr (B : Nat → Int32) (n r : Nat) : Nat → Nat → Nat
  | 0, k => if tK B n (ps B n r (k + 1)) = 3 then 9 else k + 1
  | d + 1, k => if tK B n (ps B n r (k + 1)) = 2 then lbr B n r d (k + 1) else k + 1
noncomputable def lb (B : Nat → Int32) (n r o : Nat) : Nat := if wOf B n r o = 20 then 0 else lbr B n r (nW (wOf B n r o)) 0
def gr (a b : Int32) : Int32 := if b < a then a else b
/-- what a line tells -/
def lD (w : Nat) (g : Bool) (a b c : Int32) (td : Nat → Int32) : Nat → Int32 :=
  if w = 0 then (if td 0 = 9 then td else upd (upd td 0 (td 0 + 1)) (Int32.toNatClampNeg (7 + td 0)) a)
  else if w = 1 then upd td 2 (td 2 ||| (if g = true then 1 <<< (a &&& 31) else 0))
  else if w = 2 then upd td 3 (td 3 ||| (if g = true then 1 <<< (a &&& 31) else 0))
  else if w = 3 then upd td 5 a
  else if w = 4 then upd td 6 a
  else if w = 5 then (if g = true then upd (upd td (Int32.toNatClampNeg ((51 + 9 * a) + b)) c) (Int32.toNatClampNeg ((51 + 9 * b) + a)) c else td)
  else if w = 6 then (if td 4 = 4 then td else upd (upd (upd td 4 (td 4 + 1)) (Int32.toNatClampNeg (43 + 2 * td 4)) a) (Int32.toNatClampNeg (43 + 2 * td 4 + 1)) b)
  else if w = 7 then (if g = true then upd td (Int32.toNatClampNeg (16 + a)) b else td)
  else if w = 8 then (if td 1 = 6 then td else upd (upd (upd td 1 (td 1 + 1)) (Int32.toNatClampNeg (25 + td 1)) a) (Int32.toNatClampNeg (31 + td 1)) b)
  else if w = 9 then (if g = true then upd td (Int32.toNatClampNeg (37 + a)) (td (Int32.toNatClampNeg (37 + a)) ||| 1 <<< (b &&& 31)) else td)
  else if w < 16 then (if td 0 = 40 then td else upd (upd (upd (upd td 0 (td 0 + 1)) (Int32.toNatClampNeg ((1 + 3 * td 0) + 0)) (nI (w - 10))) (Int32.toNatClampNeg ((1 + 3 * td 0) + 1)) a) (Int32.toNatClampNeg ((1 + 3 * td 0) + 2)) (if w < 14 then b else -1))
  else if w < 18 then (if td 0 = 10 then td else upd (upd (upd (upd td 0 (td 0 + 1)) (Int32.toNatClampNeg ((1 + 3 * td 0) + 0)) (if w = 16 then 1 else 0)) (Int32.toNatClampNeg ((1 + 3 * td 0) + 1)) a) (Int32.toNatClampNeg ((1 + 3 * td 0) + 2)) b)
  else if w = 18 then (if td 0 = 9 then td else upd (upd (upd td 0 (td 0 + 1)) (Int32.toNatClampNeg ((1 + 2 * td 0) + 0)) a) (Int32.toNatClampNeg ((1 + 2 * td 0) + 1)) b)
  else upd td 19 a
def lH (w : Nat) (a b fh : Int32) : Int32 := if w = 5 ∨ w = 6 then gr (gr fh a) b else if w = 1 ∨ w = 2 ∨ w = 7 ∨ w = 8 then gr fh a else fh
def lS (w : Nat) (a fs : Int32) : Int32 := if w = 9 then gr fs a else fs
/-- the end of a text -/
def fin4 (o n : Nat) (fa pl : Int32) (td : Nat → Int32) (fh fs : Int32) : Int32 × Int32 × (Nat → Int32) :=
  if fa = 0 ∧ o = 0 ∧ (td 0 ≤ fh ∨ td 1 ≤ fs) then (4, nI n, td) else (fa, pl, td)
noncomputable def go (B : Nat → Int32) (n o : Nat) : Nat → Nat → Int32 → Int32 → (Nat → Int32) → Int32 → Int32 → Int32 × Int32 × (Nat → Int32)
  | 0, _, fa, pl, td, _, _ => (fa, pl, td)
  | m + 1, r, fa, pl, td, fh, fs =>
    if tK B n r = 0 then fin4 o n fa pl td fh fs
    else if lb B n r o = 9 then go B n o m (ps B n r (nW (wOf B n r o) + 2)) (mkF B n r (wOf B n r o) td fa (nW (wOf B n r o))) (mkP B n r (wOf B n r o) td fa pl (nW (wOf B n r o))) (lD (wOf B n r o) (gd B n r (wOf B n r o) (nW (wOf B n r o))) (tV B n (ps B n r 1)) (tV B n (ps B n r 2)) (tV B n (ps B n r 3)) td) (lH (wOf B n r o) (tV B n (ps B n r 1)) (tV B n (ps B n r 2)) fh) (lS (wOf B n r o) (tV B n (ps B n r 1)) fs)
    else (1, nI (tF B n (ps B n r (lb B n r o))), td)
/-- counts are within their bounds -/
def CB (o : Nat) (td : Nat → Int32) : Prop := iv 0 (if o = 0 then 9 else if o = 1 then 40 else if o = 2 then 10 else 9) (td 0) ∧ (o = 0 → iv 0 6 (td 1) ∧ iv 0 4 (td 4))
/-- the class's drafts are as the told row -/
def LDR (huts singers villages dams echoes deep slide : Int32) (heights ladders minutes echoFrom echoTo homes talls known td : Nat → Int32) : Prop :=
  huts = td 0 ∧ singers = td 1 ∧ villages = td 2 ∧ dams = td 3 ∧ echoes = td 4 ∧ deep = td 5 ∧ slide = td 6 ∧ (∀ j, j < (td 0).toNatClampNeg → heights j = td (7 + j)) ∧ (∀ j, j < 9 → ladders j = td (16 + j)) ∧ (∀ j, j < 81 → minutes j = td (51 + j)) ∧ (∀ j, j < (td 4).toNatClampNeg → echoFrom j = td (43 + 2 * j) ∧ echoTo j = td (44 + 2 * j)) ∧ (∀ j, j < (td 1).toNatClampNeg → homes j = td (25 + j) ∧ talls j = td (31 + j)) ∧ (∀ j, j < 6 → known j = td (37 + j))
def R3 (c : Int32) (a b d td : Nat → Int32) : Prop := c = td 0 ∧ ∀ j, j < (td 0).toNatClampNeg → a j = td (1 + 3 * j) ∧ b j = td (2 + 3 * j) ∧ d j = td (3 + 3 * j)
def CDR (voices step : Int32) (parts heights td : Nat → Int32) : Prop := voices = td 0 ∧ step = td 19 ∧ ∀ j, j < (td 0).toNatClampNeg → parts j = td (1 + 2 * j) ∧ heights j = td (2 + 2 * j)
def HB (h g : Int32) : Prop := ∀ k : Nat, k ≤ 9 → (h >>> (nI k &&& 31) = 0 ↔ g < nI k)
theorem HB_0 : HB 0 (-1) := by
  intro k hk
  have : ∀ k, k ≤ 9 → ((0 : Int32) >>> (nI k &&& 31) = 0 ↔ (-1 : Int32) < nI k) := by decide +kernel
  exact this k hk
theorem sh_tab : ∀ i, i ≤ 8 → ∀ k, k ≤ 9 → (((1 : Int32) <<< (nI i &&& 31)) >>> (nI k &&& 31) = 0 ↔ nI i < nI k) := by decide +kernel
theorem or_z {x y : Int32} : x ||| y = 0 ↔ x = 0 ∧ y = 0 := by
  constructor
  · intro h
    have h1 : x.toBitVec ||| y.toBitVec = 0#32 := by
      have := congrArg Int32.toBitVec h
      rw [Int32.toBitVec_or] at this
      exact this
    have hx : x.toBitVec = 0#32 := by
      apply BitVec.eq_of_getLsbD_eq
      intro i hi
      have h2 := congrArg (fun b => b.getLsbD i) h1
      simp only [BitVec.getLsbD_or, BitVec.getLsbD_zero, Bool.or_eq_false_iff] at h2
      rw [h2.1, BitVec.getLsbD_zero]
    have hy : y.toBitVec = 0#32 := by
      apply BitVec.eq_of_getLsbD_eq
      intro i hi
      have h2 := congrArg (fun b => b.getLsbD i) h1
      simp only [BitVec.getLsbD_or, BitVec.getLsbD_zero, Bool.or_eq_false_iff] at h2
      rw [h2.2, BitVec.getLsbD_zero]
    exact ⟨Int32.toBitVec_inj.mp hx, Int32.toBitVec_inj.mp hy⟩
  · rintro ⟨rfl, rfl⟩; rfl
theorem shr_or (x y s : Int32) : (x ||| y) >>> s = (x >>> s) ||| (y >>> s) := by
  apply Int32.toBitVec_inj.mp
  simp only [Int32.toBitVec_or, Int32.toBitVec_shiftRight]
  apply BitVec.eq_of_getLsbD_eq
  intro i hi
  simp only [BitVec.sshiftRight_eq', BitVec.getLsbD_sshiftRight, BitVec.getLsbD_or, BitVec.msb_or]
  split <;> simp_all <;> exact Bool.and_or_distrib_left _ _ _
theorem gr_lt {g a k : Int32} : gr g a < k ↔ g < k ∧ a < k := by
  unfold gr
  by_cases h : a < g
  · rw [if_pos h]
    exact ⟨fun h2 => ⟨h2, Int32.lt_trans h h2⟩, fun h2 => h2.1⟩
  · rw [if_neg h]
    exact ⟨fun h2 => ⟨Int32.lt_of_le_of_lt (Int32.not_lt.mp h) h2, h2⟩, fun h2 => h2.2⟩
theorem HB_or {h g a : Int32} (hh : HB h g) (ha : iv 0 8 a) : HB (h ||| (1 <<< (a &&& 31))) (gr g a) := by
  obtain ⟨i, rfl, -, hi, -⟩ := iv_nI ha (by decide)
  intro k hk
  rw [shr_or, or_z, gr_lt, hh k hk, sh_tab i (by omega) k hk]
theorem or_assoc3 (x y z : Int32) : x ||| (y ||| z) = x ||| y ||| z := by
  apply Int32.toBitVec_inj.mp
  simp only [Int32.toBitVec_or]
  exact (BitVec.or_assoc _ _ _).symm
theorem HB_or2 {h g a b : Int32} (hh : HB h g) (ha : iv 0 8 a) (hb : iv 0 8 b) : HB (h ||| ((1 <<< (a &&& 31)) ||| (1 <<< (b &&& 31)))) (gr (gr g a) b) := by
  rw [or_assoc3]
  exact HB_or (HB_or hh ha) hb
