def prB : List UInt8 → List UInt8 → Bool
  | [], _ => true
  | _ :: _, [] => false
  | a :: r, b :: s => decide (a = b) && prB r s
/-- the bytes from p on -/
def bAt (c : ByteArray) (p : Nat) (g : List UInt8) : Prop := prB g (c.data.toList.drop p) = true
theorem pr_get : ∀ (g L : List UInt8) (p i : Nat) (b : UInt8), prB g (L.drop p) = true → g[i]? = some b → L[p + i]? = some b
  | [], _, _, _, _, _, h => by simp at h
  | a :: r, L, p, i, b, h, hi => by
    match e : L.drop p with
    | [] => rw [e] at h; exact absurd h (by simp [prB])
    | x :: s =>
      rw [e] at h
      have h' : (decide (a = x) && prB r s) = true := h
      rw [Bool.and_eq_true] at h'
      have hx := of_decide_eq_true h'.1
      have hs : L.drop (p + 1) = s := by rw [← List.drop_drop, e]; rfl
      match i, hi with
      | 0, hi =>
        have e0 : (L.drop p)[0]? = some x := by rw [e]; rfl
        rw [List.getElem?_drop] at e0
        have ea : a = b := Option.some.inj hi
        rw [e0, ← ea, hx]
      | i + 1, hi =>
        have g := pr_get r L (p + 1) i b (by rw [hs]; exact h'.2) hi
        rw [show p + (i + 1) = p + 1 + i by omega]
        exact g
theorem u1_at {c : ByteArray} {p : Nat} {b : UInt8} (h : c.data.toList[p]? = some b) : (Reader.u1 : Decoder Nat) c p = Except.ok (b.toNat, p + 1) := by
  obtain ⟨hp, e⟩ := List.getElem?_eq_some_iff.mp h
  have hs : p < c.size := hp
  show (dite (p < c.size) (fun h => (do set (p + 1); pure (c[p]'h).toNat : Decoder Nat)) (fun _ => throw (HasTruncated.truncated p)) : Decoder Nat) c p = _
  rw [dif_pos hs]
  show Except.ok ((c[p]'hs).toNat, p + 1) = _
  rw [show (c[p]'hs) = b from e]
theorem u2_at {c : ByteArray} {p : Nat} {a b : UInt8} (h : c.data.toList[p]? = some a) (h2 : c.data.toList[p + 1]? = some b) : (Reader.u2 : Decoder Nat) c p = Except.ok (a.toNat * 256 + b.toNat, p + 2) := by
  show Except.bind ((Reader.u1 : Decoder Nat) c p) (fun x => Except.bind ((Reader.u1 : Decoder Nat) c x.2) (fun y => Except.ok (x.1 * 256 + y.1, y.2))) = _
  rw [u1_at h]
  show Except.bind ((Reader.u1 : Decoder Nat) c (p + 1)) (fun y => Except.ok (a.toNat * 256 + y.1, y.2)) = _
  rw [u1_at h2]
  rfl
theorem s2_at {c : ByteArray} {p : Nat} {a b : UInt8} (h : c.data.toList[p]? = some a) (h2 : c.data.toList[p + 1]? = some b) : (Reader.s2 : Decoder Int) c p = Except.ok (Reader.signed 16 (a.toNat * 256 + b.toNat), p + 2) := by
  show Except.bind ((Reader.u2 : Decoder Nat) c p) (fun x => Except.ok (Reader.signed 16 x.1, x.2)) = _
  rw [u2_at h h2]
  rfl
theorem s1_at {c : ByteArray} {p : Nat} {a : UInt8} (h : c.data.toList[p]? = some a) : (Reader.s1 : Decoder Int) c p = Except.ok (Reader.signed 8 a.toNat, p + 1) := by
  show Except.bind ((Reader.u1 : Decoder Nat) c p) (fun x => Except.ok (Reader.signed 8 x.1, x.2)) = _
  rw [u1_at h]
  rfl
theorem dcB {c : ByteArray} {p n : Nat} {i : Instr} (h : Decoder.instr p c p = Except.ok (i, p + n)) : decode c p = .ok (i, n) := by
  show Except.bind (Decoder.instr p c p) (fun x => Except.ok (x.1, x.2 - p)) = _
  rw [h]
  show Except.ok (i, p + n - p) = _
  rw [Nat.add_sub_cancel_left]
theorem bA_at {c : ByteArray} {B : Nat} {l : List (Nat × List UInt8)} (h : l.all (fun x => prB x.2 ((c.data.toList.drop B).drop x.1)) = true) (i : Nat) {o : Nat} {g : List UInt8} (e : l[i]? = some (o, g)) {p : Nat} (hp : p = B + o) : bAt c p g := by
  subst hp
  have h1 := List.all_eq_true.mp h (o, g) (List.mem_of_getElem? e)
  rw [List.drop_drop] at h1
  exact h1
theorem bA_of {c : ByteArray} {l : List (Nat × List UInt8)} (h : l.all (fun x => prB x.2 (c.data.toList.drop x.1)) = true) {p : Nat} {g : List UInt8} (hm : (p, g) ∈ l) : bAt c p g := List.all_eq_true.mp h (p, g) hm
theorem op1 {c : ByteArray} {p : Nat} (h : bAt c p [1]) : decode c p = .ok (.aconst_null, 1) := by
  have e : (Reader.u1 : Decoder Nat) c p = Except.ok (1, p + 1) := u1_at (pr_get _ _ p 0 1 h rfl)
  refine dcB ?_
  unfold Decoder.instr
  change Except.bind ((Reader.u1 : Decoder Nat) c p) _ = _
  rw [e]
  rfl
theorem op2 {c : ByteArray} {p : Nat} (h : bAt c p [2]) : decode c p = .ok (.iconst (-1), 1) := by
  have e : (Reader.u1 : Decoder Nat) c p = Except.ok (2, p + 1) := u1_at (pr_get _ _ p 0 2 h rfl)
  refine dcB ?_
  unfold Decoder.instr
  change Except.bind ((Reader.u1 : Decoder Nat) c p) _ = _
  rw [e]
  rfl
theorem op3 {c : ByteArray} {p : Nat} (h : bAt c p [3]) : decode c p = .ok (.iconst (0), 1) := by
  have e : (Reader.u1 : Decoder Nat) c p = Except.ok (3, p + 1) := u1_at (pr_get _ _ p 0 3 h rfl)
  refine dcB ?_
  unfold Decoder.instr
  change Except.bind ((Reader.u1 : Decoder Nat) c p) _ = _
  rw [e]
  rfl
theorem op4 {c : ByteArray} {p : Nat} (h : bAt c p [4]) : decode c p = .ok (.iconst (1), 1) := by
  have e : (Reader.u1 : Decoder Nat) c p = Except.ok (4, p + 1) := u1_at (pr_get _ _ p 0 4 h rfl)
  refine dcB ?_
  unfold Decoder.instr
  change Except.bind ((Reader.u1 : Decoder Nat) c p) _ = _
  rw [e]
  rfl
theorem op5 {c : ByteArray} {p : Nat} (h : bAt c p [5]) : decode c p = .ok (.iconst (2), 1) := by
  have e : (Reader.u1 : Decoder Nat) c p = Except.ok (5, p + 1) := u1_at (pr_get _ _ p 0 5 h rfl)
  refine dcB ?_
  unfold Decoder.instr
  change Except.bind ((Reader.u1 : Decoder Nat) c p) _ = _
  rw [e]
  rfl
theorem op6 {c : ByteArray} {p : Nat} (h : bAt c p [6]) : decode c p = .ok (.iconst (3), 1) := by
  have e : (Reader.u1 : Decoder Nat) c p = Except.ok (6, p + 1) := u1_at (pr_get _ _ p 0 6 h rfl)
  refine dcB ?_
  unfold Decoder.instr
  change Except.bind ((Reader.u1 : Decoder Nat) c p) _ = _
  rw [e]
  rfl
theorem op7 {c : ByteArray} {p : Nat} (h : bAt c p [7]) : decode c p = .ok (.iconst (4), 1) := by
  have e : (Reader.u1 : Decoder Nat) c p = Except.ok (7, p + 1) := u1_at (pr_get _ _ p 0 7 h rfl)
  refine dcB ?_
  unfold Decoder.instr
  change Except.bind ((Reader.u1 : Decoder Nat) c p) _ = _
  rw [e]
  rfl
theorem op8 {c : ByteArray} {p : Nat} (h : bAt c p [8]) : decode c p = .ok (.iconst (5), 1) := by
  have e : (Reader.u1 : Decoder Nat) c p = Except.ok (8, p + 1) := u1_at (pr_get _ _ p 0 8 h rfl)
  refine dcB ?_
  unfold Decoder.instr
  change Except.bind ((Reader.u1 : Decoder Nat) c p) _ = _
  rw [e]
  rfl
theorem op9 {c : ByteArray} {p : Nat} (h : bAt c p [9]) : decode c p = .ok (.lconst 0, 1) := by
  have e : (Reader.u1 : Decoder Nat) c p = Except.ok (9, p + 1) := u1_at (pr_get _ _ p 0 9 h rfl)
  refine dcB ?_
  unfold Decoder.instr
  change Except.bind ((Reader.u1 : Decoder Nat) c p) _ = _
  rw [e]
  rfl
theorem op10 {c : ByteArray} {p : Nat} (h : bAt c p [10]) : decode c p = .ok (.lconst 1, 1) := by
  have e : (Reader.u1 : Decoder Nat) c p = Except.ok (10, p + 1) := u1_at (pr_get _ _ p 0 10 h rfl)
  refine dcB ?_
  unfold Decoder.instr
  change Except.bind ((Reader.u1 : Decoder Nat) c p) _ = _
  rw [e]
  rfl
theorem op16 {c : ByteArray} {p : Nat} {n : Int} {a : UInt8} (h : bAt c p [16, a]) (hn : n = Reader.signed 8 a.toNat) : decode c p = .ok (.bipush n, 2) := by
  subst hn
  have e : (Reader.u1 : Decoder Nat) c p = Except.ok (16, p + 1) := u1_at (pr_get _ _ p 0 16 h rfl)
  have e2 : (Reader.s1 : Decoder Int) c (p + 1) = Except.ok (Reader.signed 8 a.toNat, p + 1 + 1) := s1_at (pr_get _ _ p 1 a h rfl)
  refine dcB ?_
  unfold Decoder.instr
  change Except.bind ((Reader.u1 : Decoder Nat) c p) _ = _
  rw [e]
  show Except.bind ((Reader.s1 : Decoder Int) c (p + 1)) (fun x => Except.ok (Instr.bipush x.1, x.2)) = _
  rw [e2]
  rfl
theorem op17 {c : ByteArray} {p : Nat} {n : Int} {a b : UInt8} (h : bAt c p [17, a, b]) (hn : n = Reader.signed 16 (a.toNat * 256 + b.toNat)) : decode c p = .ok (.sipush n, 3) := by
  subst hn
  have e : (Reader.u1 : Decoder Nat) c p = Except.ok (17, p + 1) := u1_at (pr_get _ _ p 0 17 h rfl)
  have e2 : (Reader.s2 : Decoder Int) c (p + 1) = Except.ok (Reader.signed 16 (a.toNat * 256 + b.toNat), p + 1 + 2) := s2_at (pr_get _ _ p 1 a h rfl) (pr_get _ _ p 2 b h rfl)
  refine dcB ?_
  unfold Decoder.instr
  change Except.bind ((Reader.u1 : Decoder Nat) c p) _ = _
  rw [e]
  show Except.bind ((Reader.s2 : Decoder Int) c (p + 1)) (fun x => Except.ok (Instr.sipush x.1, x.2)) = _
  rw [e2]
  rfl
theorem op18 {c : ByteArray} {p n : Nat} {a : UInt8} (h : bAt c p [18, a]) (hn : n = a.toNat) : decode c p = .ok (.ldc n, 2) := by
  subst hn
  have e : (Reader.u1 : Decoder Nat) c p = Except.ok (18, p + 1) := u1_at (pr_get _ _ p 0 18 h rfl)
  have e2 : (Reader.u1 : Decoder Nat) c (p + 1) = Except.ok (a.toNat, p + 1 + 1) := u1_at (pr_get _ _ p 1 a h rfl)
  refine dcB ?_
  unfold Decoder.instr
  change Except.bind ((Reader.u1 : Decoder Nat) c p) _ = _
  rw [e]
  show Except.bind ((Reader.u1 : Decoder Nat) c (p + 1)) (fun x => Except.ok (Instr.ldc x.1, x.2)) = _
  rw [e2]
  rfl
theorem op19 {c : ByteArray} {p n : Nat} {a b : UInt8} (h : bAt c p [19, a, b]) (hn : n = a.toNat * 256 + b.toNat) : decode c p = .ok (.ldc_w n, 3) := by
  subst hn
  have e : (Reader.u1 : Decoder Nat) c p = Except.ok (19, p + 1) := u1_at (pr_get _ _ p 0 19 h rfl)
  have e2 : (Reader.u2 : Decoder Nat) c (p + 1) = Except.ok (a.toNat * 256 + b.toNat, p + 1 + 2) := u2_at (pr_get _ _ p 1 a h rfl) (pr_get _ _ p 2 b h rfl)
  refine dcB ?_
  unfold Decoder.instr
  change Except.bind ((Reader.u1 : Decoder Nat) c p) _ = _
  rw [e]
  show Except.bind ((Reader.u2 : Decoder Nat) c (p + 1)) (fun x => Except.ok (Instr.ldc_w x.1, x.2)) = _
  rw [e2]
  rfl
theorem op20 {c : ByteArray} {p n : Nat} {a b : UInt8} (h : bAt c p [20, a, b]) (hn : n = a.toNat * 256 + b.toNat) : decode c p = .ok (.ldc2_w n, 3) := by
  subst hn
  have e : (Reader.u1 : Decoder Nat) c p = Except.ok (20, p + 1) := u1_at (pr_get _ _ p 0 20 h rfl)
  have e2 : (Reader.u2 : Decoder Nat) c (p + 1) = Except.ok (a.toNat * 256 + b.toNat, p + 1 + 2) := u2_at (pr_get _ _ p 1 a h rfl) (pr_get _ _ p 2 b h rfl)
  refine dcB ?_
  unfold Decoder.instr
  change Except.bind ((Reader.u1 : Decoder Nat) c p) _ = _
  rw [e]
  show Except.bind ((Reader.u2 : Decoder Nat) c (p + 1)) (fun x => Except.ok (Instr.ldc2_w x.1, x.2)) = _
  rw [e2]
  rfl
theorem op21 {c : ByteArray} {p n : Nat} {a : UInt8} (h : bAt c p [21, a]) (hn : n = a.toNat) : decode c p = .ok (.iload n, 2) := by
  subst hn
  have e : (Reader.u1 : Decoder Nat) c p = Except.ok (21, p + 1) := u1_at (pr_get _ _ p 0 21 h rfl)
  have e2 : (Reader.u1 : Decoder Nat) c (p + 1) = Except.ok (a.toNat, p + 1 + 1) := u1_at (pr_get _ _ p 1 a h rfl)
  refine dcB ?_
  unfold Decoder.instr
  change Except.bind ((Reader.u1 : Decoder Nat) c p) _ = _
  rw [e]
  show Except.bind ((Reader.u1 : Decoder Nat) c (p + 1)) (fun x => Except.ok (Instr.iload x.1, x.2)) = _
  rw [e2]
  rfl
theorem op22 {c : ByteArray} {p n : Nat} {a : UInt8} (h : bAt c p [22, a]) (hn : n = a.toNat) : decode c p = .ok (.lload n, 2) := by
  subst hn
  have e : (Reader.u1 : Decoder Nat) c p = Except.ok (22, p + 1) := u1_at (pr_get _ _ p 0 22 h rfl)
  have e2 : (Reader.u1 : Decoder Nat) c (p + 1) = Except.ok (a.toNat, p + 1 + 1) := u1_at (pr_get _ _ p 1 a h rfl)
  refine dcB ?_
  unfold Decoder.instr
  change Except.bind ((Reader.u1 : Decoder Nat) c p) _ = _
  rw [e]
  show Except.bind ((Reader.u1 : Decoder Nat) c (p + 1)) (fun x => Except.ok (Instr.lload x.1, x.2)) = _
  rw [e2]
  rfl
theorem op25 {c : ByteArray} {p n : Nat} {a : UInt8} (h : bAt c p [25, a]) (hn : n = a.toNat) : decode c p = .ok (.aload n, 2) := by
  subst hn
  have e : (Reader.u1 : Decoder Nat) c p = Except.ok (25, p + 1) := u1_at (pr_get _ _ p 0 25 h rfl)
  have e2 : (Reader.u1 : Decoder Nat) c (p + 1) = Except.ok (a.toNat, p + 1 + 1) := u1_at (pr_get _ _ p 1 a h rfl)
  refine dcB ?_
  unfold Decoder.instr
  change Except.bind ((Reader.u1 : Decoder Nat) c p) _ = _
  rw [e]
  show Except.bind ((Reader.u1 : Decoder Nat) c (p + 1)) (fun x => Except.ok (Instr.aload x.1, x.2)) = _
  rw [e2]
  rfl
theorem op26 {c : ByteArray} {p : Nat} (h : bAt c p [26]) : decode c p = .ok (.iload_n 0, 1) := by
  have e : (Reader.u1 : Decoder Nat) c p = Except.ok (26, p + 1) := u1_at (pr_get _ _ p 0 26 h rfl)
  refine dcB ?_
  unfold Decoder.instr
  change Except.bind ((Reader.u1 : Decoder Nat) c p) _ = _
  rw [e]
  rfl
theorem op27 {c : ByteArray} {p : Nat} (h : bAt c p [27]) : decode c p = .ok (.iload_n 1, 1) := by
  have e : (Reader.u1 : Decoder Nat) c p = Except.ok (27, p + 1) := u1_at (pr_get _ _ p 0 27 h rfl)
  refine dcB ?_
  unfold Decoder.instr
  change Except.bind ((Reader.u1 : Decoder Nat) c p) _ = _
  rw [e]
  rfl
theorem op28 {c : ByteArray} {p : Nat} (h : bAt c p [28]) : decode c p = .ok (.iload_n 2, 1) := by
  have e : (Reader.u1 : Decoder Nat) c p = Except.ok (28, p + 1) := u1_at (pr_get _ _ p 0 28 h rfl)
  refine dcB ?_
  unfold Decoder.instr
  change Except.bind ((Reader.u1 : Decoder Nat) c p) _ = _
  rw [e]
  rfl
theorem op29 {c : ByteArray} {p : Nat} (h : bAt c p [29]) : decode c p = .ok (.iload_n 3, 1) := by
  have e : (Reader.u1 : Decoder Nat) c p = Except.ok (29, p + 1) := u1_at (pr_get _ _ p 0 29 h rfl)
  refine dcB ?_
  unfold Decoder.instr
  change Except.bind ((Reader.u1 : Decoder Nat) c p) _ = _
  rw [e]
  rfl
theorem op30 {c : ByteArray} {p : Nat} (h : bAt c p [30]) : decode c p = .ok (.lload_n 0, 1) := by
  have e : (Reader.u1 : Decoder Nat) c p = Except.ok (30, p + 1) := u1_at (pr_get _ _ p 0 30 h rfl)
  refine dcB ?_
  unfold Decoder.instr
  change Except.bind ((Reader.u1 : Decoder Nat) c p) _ = _
  rw [e]
  rfl
theorem op31 {c : ByteArray} {p : Nat} (h : bAt c p [31]) : decode c p = .ok (.lload_n 1, 1) := by
  have e : (Reader.u1 : Decoder Nat) c p = Except.ok (31, p + 1) := u1_at (pr_get _ _ p 0 31 h rfl)
  refine dcB ?_
  unfold Decoder.instr
  change Except.bind ((Reader.u1 : Decoder Nat) c p) _ = _
  rw [e]
  rfl
theorem op32 {c : ByteArray} {p : Nat} (h : bAt c p [32]) : decode c p = .ok (.lload_n 2, 1) := by
  have e : (Reader.u1 : Decoder Nat) c p = Except.ok (32, p + 1) := u1_at (pr_get _ _ p 0 32 h rfl)
  refine dcB ?_
  unfold Decoder.instr
  change Except.bind ((Reader.u1 : Decoder Nat) c p) _ = _
  rw [e]
  rfl
theorem op33 {c : ByteArray} {p : Nat} (h : bAt c p [33]) : decode c p = .ok (.lload_n 3, 1) := by
  have e : (Reader.u1 : Decoder Nat) c p = Except.ok (33, p + 1) := u1_at (pr_get _ _ p 0 33 h rfl)
  refine dcB ?_
  unfold Decoder.instr
  change Except.bind ((Reader.u1 : Decoder Nat) c p) _ = _
  rw [e]
  rfl
theorem op42 {c : ByteArray} {p : Nat} (h : bAt c p [42]) : decode c p = .ok (.aload_n 0, 1) := by
  have e : (Reader.u1 : Decoder Nat) c p = Except.ok (42, p + 1) := u1_at (pr_get _ _ p 0 42 h rfl)
  refine dcB ?_
  unfold Decoder.instr
  change Except.bind ((Reader.u1 : Decoder Nat) c p) _ = _
  rw [e]
  rfl
theorem op43 {c : ByteArray} {p : Nat} (h : bAt c p [43]) : decode c p = .ok (.aload_n 1, 1) := by
  have e : (Reader.u1 : Decoder Nat) c p = Except.ok (43, p + 1) := u1_at (pr_get _ _ p 0 43 h rfl)
  refine dcB ?_
  unfold Decoder.instr
  change Except.bind ((Reader.u1 : Decoder Nat) c p) _ = _
  rw [e]
  rfl
theorem op44 {c : ByteArray} {p : Nat} (h : bAt c p [44]) : decode c p = .ok (.aload_n 2, 1) := by
  have e : (Reader.u1 : Decoder Nat) c p = Except.ok (44, p + 1) := u1_at (pr_get _ _ p 0 44 h rfl)
  refine dcB ?_
  unfold Decoder.instr
  change Except.bind ((Reader.u1 : Decoder Nat) c p) _ = _
  rw [e]
  rfl
theorem op45 {c : ByteArray} {p : Nat} (h : bAt c p [45]) : decode c p = .ok (.aload_n 3, 1) := by
  have e : (Reader.u1 : Decoder Nat) c p = Except.ok (45, p + 1) := u1_at (pr_get _ _ p 0 45 h rfl)
  refine dcB ?_
  unfold Decoder.instr
  change Except.bind ((Reader.u1 : Decoder Nat) c p) _ = _
  rw [e]
  rfl
theorem op46 {c : ByteArray} {p : Nat} (h : bAt c p [46]) : decode c p = .ok (.iaload, 1) := by
  have e : (Reader.u1 : Decoder Nat) c p = Except.ok (46, p + 1) := u1_at (pr_get _ _ p 0 46 h rfl)
  refine dcB ?_
  unfold Decoder.instr
  change Except.bind ((Reader.u1 : Decoder Nat) c p) _ = _
  rw [e]
  rfl
theorem op47 {c : ByteArray} {p : Nat} (h : bAt c p [47]) : decode c p = .ok (.laload, 1) := by
  have e : (Reader.u1 : Decoder Nat) c p = Except.ok (47, p + 1) := u1_at (pr_get _ _ p 0 47 h rfl)
  refine dcB ?_
  unfold Decoder.instr
  change Except.bind ((Reader.u1 : Decoder Nat) c p) _ = _
  rw [e]
  rfl
theorem op50 {c : ByteArray} {p : Nat} (h : bAt c p [50]) : decode c p = .ok (.aaload, 1) := by
  have e : (Reader.u1 : Decoder Nat) c p = Except.ok (50, p + 1) := u1_at (pr_get _ _ p 0 50 h rfl)
  refine dcB ?_
  unfold Decoder.instr
  change Except.bind ((Reader.u1 : Decoder Nat) c p) _ = _
  rw [e]
  rfl
theorem op51 {c : ByteArray} {p : Nat} (h : bAt c p [51]) : decode c p = .ok (.baload, 1) := by
  have e : (Reader.u1 : Decoder Nat) c p = Except.ok (51, p + 1) := u1_at (pr_get _ _ p 0 51 h rfl)
  refine dcB ?_
  unfold Decoder.instr
  change Except.bind ((Reader.u1 : Decoder Nat) c p) _ = _
  rw [e]
  rfl
theorem op54 {c : ByteArray} {p n : Nat} {a : UInt8} (h : bAt c p [54, a]) (hn : n = a.toNat) : decode c p = .ok (.istore n, 2) := by
  subst hn
  have e : (Reader.u1 : Decoder Nat) c p = Except.ok (54, p + 1) := u1_at (pr_get _ _ p 0 54 h rfl)
  have e2 : (Reader.u1 : Decoder Nat) c (p + 1) = Except.ok (a.toNat, p + 1 + 1) := u1_at (pr_get _ _ p 1 a h rfl)
  refine dcB ?_
  unfold Decoder.instr
  change Except.bind ((Reader.u1 : Decoder Nat) c p) _ = _
  rw [e]
  show Except.bind ((Reader.u1 : Decoder Nat) c (p + 1)) (fun x => Except.ok (Instr.istore x.1, x.2)) = _
  rw [e2]
  rfl
theorem op55 {c : ByteArray} {p n : Nat} {a : UInt8} (h : bAt c p [55, a]) (hn : n = a.toNat) : decode c p = .ok (.lstore n, 2) := by
  subst hn
  have e : (Reader.u1 : Decoder Nat) c p = Except.ok (55, p + 1) := u1_at (pr_get _ _ p 0 55 h rfl)
  have e2 : (Reader.u1 : Decoder Nat) c (p + 1) = Except.ok (a.toNat, p + 1 + 1) := u1_at (pr_get _ _ p 1 a h rfl)
  refine dcB ?_
  unfold Decoder.instr
  change Except.bind ((Reader.u1 : Decoder Nat) c p) _ = _
  rw [e]
  show Except.bind ((Reader.u1 : Decoder Nat) c (p + 1)) (fun x => Except.ok (Instr.lstore x.1, x.2)) = _
  rw [e2]
  rfl
theorem op58 {c : ByteArray} {p n : Nat} {a : UInt8} (h : bAt c p [58, a]) (hn : n = a.toNat) : decode c p = .ok (.astore n, 2) := by
  subst hn
  have e : (Reader.u1 : Decoder Nat) c p = Except.ok (58, p + 1) := u1_at (pr_get _ _ p 0 58 h rfl)
  have e2 : (Reader.u1 : Decoder Nat) c (p + 1) = Except.ok (a.toNat, p + 1 + 1) := u1_at (pr_get _ _ p 1 a h rfl)
  refine dcB ?_
  unfold Decoder.instr
  change Except.bind ((Reader.u1 : Decoder Nat) c p) _ = _
  rw [e]
  show Except.bind ((Reader.u1 : Decoder Nat) c (p + 1)) (fun x => Except.ok (Instr.astore x.1, x.2)) = _
  rw [e2]
  rfl
theorem op59 {c : ByteArray} {p : Nat} (h : bAt c p [59]) : decode c p = .ok (.istore_n 0, 1) := by
  have e : (Reader.u1 : Decoder Nat) c p = Except.ok (59, p + 1) := u1_at (pr_get _ _ p 0 59 h rfl)
  refine dcB ?_
  unfold Decoder.instr
  change Except.bind ((Reader.u1 : Decoder Nat) c p) _ = _
  rw [e]
  rfl
theorem op60 {c : ByteArray} {p : Nat} (h : bAt c p [60]) : decode c p = .ok (.istore_n 1, 1) := by
  have e : (Reader.u1 : Decoder Nat) c p = Except.ok (60, p + 1) := u1_at (pr_get _ _ p 0 60 h rfl)
  refine dcB ?_
  unfold Decoder.instr
  change Except.bind ((Reader.u1 : Decoder Nat) c p) _ = _
  rw [e]
  rfl
theorem op61 {c : ByteArray} {p : Nat} (h : bAt c p [61]) : decode c p = .ok (.istore_n 2, 1) := by
  have e : (Reader.u1 : Decoder Nat) c p = Except.ok (61, p + 1) := u1_at (pr_get _ _ p 0 61 h rfl)
  refine dcB ?_
  unfold Decoder.instr
  change Except.bind ((Reader.u1 : Decoder Nat) c p) _ = _
  rw [e]
  rfl
theorem op62 {c : ByteArray} {p : Nat} (h : bAt c p [62]) : decode c p = .ok (.istore_n 3, 1) := by
  have e : (Reader.u1 : Decoder Nat) c p = Except.ok (62, p + 1) := u1_at (pr_get _ _ p 0 62 h rfl)
  refine dcB ?_
  unfold Decoder.instr
  change Except.bind ((Reader.u1 : Decoder Nat) c p) _ = _
  rw [e]
  rfl
theorem op63 {c : ByteArray} {p : Nat} (h : bAt c p [63]) : decode c p = .ok (.lstore_n 0, 1) := by
  have e : (Reader.u1 : Decoder Nat) c p = Except.ok (63, p + 1) := u1_at (pr_get _ _ p 0 63 h rfl)
  refine dcB ?_
  unfold Decoder.instr
  change Except.bind ((Reader.u1 : Decoder Nat) c p) _ = _
  rw [e]
  rfl
theorem op64 {c : ByteArray} {p : Nat} (h : bAt c p [64]) : decode c p = .ok (.lstore_n 1, 1) := by
  have e : (Reader.u1 : Decoder Nat) c p = Except.ok (64, p + 1) := u1_at (pr_get _ _ p 0 64 h rfl)
  refine dcB ?_
  unfold Decoder.instr
  change Except.bind ((Reader.u1 : Decoder Nat) c p) _ = _
  rw [e]
  rfl
theorem op65 {c : ByteArray} {p : Nat} (h : bAt c p [65]) : decode c p = .ok (.lstore_n 2, 1) := by
  have e : (Reader.u1 : Decoder Nat) c p = Except.ok (65, p + 1) := u1_at (pr_get _ _ p 0 65 h rfl)
  refine dcB ?_
  unfold Decoder.instr
  change Except.bind ((Reader.u1 : Decoder Nat) c p) _ = _
  rw [e]
  rfl
theorem op66 {c : ByteArray} {p : Nat} (h : bAt c p [66]) : decode c p = .ok (.lstore_n 3, 1) := by
  have e : (Reader.u1 : Decoder Nat) c p = Except.ok (66, p + 1) := u1_at (pr_get _ _ p 0 66 h rfl)
  refine dcB ?_
  unfold Decoder.instr
  change Except.bind ((Reader.u1 : Decoder Nat) c p) _ = _
  rw [e]
  rfl
theorem op75 {c : ByteArray} {p : Nat} (h : bAt c p [75]) : decode c p = .ok (.astore_n 0, 1) := by
  have e : (Reader.u1 : Decoder Nat) c p = Except.ok (75, p + 1) := u1_at (pr_get _ _ p 0 75 h rfl)
  refine dcB ?_
  unfold Decoder.instr
  change Except.bind ((Reader.u1 : Decoder Nat) c p) _ = _
  rw [e]
  rfl
theorem op76 {c : ByteArray} {p : Nat} (h : bAt c p [76]) : decode c p = .ok (.astore_n 1, 1) := by
  have e : (Reader.u1 : Decoder Nat) c p = Except.ok (76, p + 1) := u1_at (pr_get _ _ p 0 76 h rfl)
  refine dcB ?_
  unfold Decoder.instr
  change Except.bind ((Reader.u1 : Decoder Nat) c p) _ = _
  rw [e]
  rfl
theorem op77 {c : ByteArray} {p : Nat} (h : bAt c p [77]) : decode c p = .ok (.astore_n 2, 1) := by
  have e : (Reader.u1 : Decoder Nat) c p = Except.ok (77, p + 1) := u1_at (pr_get _ _ p 0 77 h rfl)
  refine dcB ?_
  unfold Decoder.instr
  change Except.bind ((Reader.u1 : Decoder Nat) c p) _ = _
  rw [e]
  rfl
theorem op78 {c : ByteArray} {p : Nat} (h : bAt c p [78]) : decode c p = .ok (.astore_n 3, 1) := by
  have e : (Reader.u1 : Decoder Nat) c p = Except.ok (78, p + 1) := u1_at (pr_get _ _ p 0 78 h rfl)
  refine dcB ?_
  unfold Decoder.instr
  change Except.bind ((Reader.u1 : Decoder Nat) c p) _ = _
  rw [e]
  rfl
theorem op79 {c : ByteArray} {p : Nat} (h : bAt c p [79]) : decode c p = .ok (.iastore, 1) := by
  have e : (Reader.u1 : Decoder Nat) c p = Except.ok (79, p + 1) := u1_at (pr_get _ _ p 0 79 h rfl)
  refine dcB ?_
  unfold Decoder.instr
  change Except.bind ((Reader.u1 : Decoder Nat) c p) _ = _
  rw [e]
  rfl
theorem op80 {c : ByteArray} {p : Nat} (h : bAt c p [80]) : decode c p = .ok (.lastore, 1) := by
  have e : (Reader.u1 : Decoder Nat) c p = Except.ok (80, p + 1) := u1_at (pr_get _ _ p 0 80 h rfl)
  refine dcB ?_
  unfold Decoder.instr
  change Except.bind ((Reader.u1 : Decoder Nat) c p) _ = _
  rw [e]
  rfl
theorem op83 {c : ByteArray} {p : Nat} (h : bAt c p [83]) : decode c p = .ok (.aastore, 1) := by
  have e : (Reader.u1 : Decoder Nat) c p = Except.ok (83, p + 1) := u1_at (pr_get _ _ p 0 83 h rfl)
  refine dcB ?_
  unfold Decoder.instr
  change Except.bind ((Reader.u1 : Decoder Nat) c p) _ = _
  rw [e]
  rfl
theorem op84 {c : ByteArray} {p : Nat} (h : bAt c p [84]) : decode c p = .ok (.bastore, 1) := by
  have e : (Reader.u1 : Decoder Nat) c p = Except.ok (84, p + 1) := u1_at (pr_get _ _ p 0 84 h rfl)
  refine dcB ?_
  unfold Decoder.instr
  change Except.bind ((Reader.u1 : Decoder Nat) c p) _ = _
  rw [e]
  rfl
theorem op87 {c : ByteArray} {p : Nat} (h : bAt c p [87]) : decode c p = .ok (.pop, 1) := by
  have e : (Reader.u1 : Decoder Nat) c p = Except.ok (87, p + 1) := u1_at (pr_get _ _ p 0 87 h rfl)
  refine dcB ?_
  unfold Decoder.instr
  change Except.bind ((Reader.u1 : Decoder Nat) c p) _ = _
  rw [e]
  rfl
theorem op88 {c : ByteArray} {p : Nat} (h : bAt c p [88]) : decode c p = .ok (.pop2, 1) := by
  have e : (Reader.u1 : Decoder Nat) c p = Except.ok (88, p + 1) := u1_at (pr_get _ _ p 0 88 h rfl)
  refine dcB ?_
  unfold Decoder.instr
  change Except.bind ((Reader.u1 : Decoder Nat) c p) _ = _
  rw [e]
  rfl
theorem op89 {c : ByteArray} {p : Nat} (h : bAt c p [89]) : decode c p = .ok (.dup, 1) := by
  have e : (Reader.u1 : Decoder Nat) c p = Except.ok (89, p + 1) := u1_at (pr_get _ _ p 0 89 h rfl)
  refine dcB ?_
  unfold Decoder.instr
  change Except.bind ((Reader.u1 : Decoder Nat) c p) _ = _
  rw [e]
  rfl
theorem op90 {c : ByteArray} {p : Nat} (h : bAt c p [90]) : decode c p = .ok (.dup_x1, 1) := by
  have e : (Reader.u1 : Decoder Nat) c p = Except.ok (90, p + 1) := u1_at (pr_get _ _ p 0 90 h rfl)
  refine dcB ?_
  unfold Decoder.instr
  change Except.bind ((Reader.u1 : Decoder Nat) c p) _ = _
  rw [e]
  rfl
theorem op91 {c : ByteArray} {p : Nat} (h : bAt c p [91]) : decode c p = .ok (.dup_x2, 1) := by
  have e : (Reader.u1 : Decoder Nat) c p = Except.ok (91, p + 1) := u1_at (pr_get _ _ p 0 91 h rfl)
  refine dcB ?_
  unfold Decoder.instr
  change Except.bind ((Reader.u1 : Decoder Nat) c p) _ = _
  rw [e]
  rfl
theorem op92 {c : ByteArray} {p : Nat} (h : bAt c p [92]) : decode c p = .ok (.dup2, 1) := by
  have e : (Reader.u1 : Decoder Nat) c p = Except.ok (92, p + 1) := u1_at (pr_get _ _ p 0 92 h rfl)
  refine dcB ?_
  unfold Decoder.instr
  change Except.bind ((Reader.u1 : Decoder Nat) c p) _ = _
  rw [e]
  rfl
theorem op93 {c : ByteArray} {p : Nat} (h : bAt c p [93]) : decode c p = .ok (.dup2_x1, 1) := by
  have e : (Reader.u1 : Decoder Nat) c p = Except.ok (93, p + 1) := u1_at (pr_get _ _ p 0 93 h rfl)
  refine dcB ?_
  unfold Decoder.instr
  change Except.bind ((Reader.u1 : Decoder Nat) c p) _ = _
  rw [e]
  rfl
theorem op94 {c : ByteArray} {p : Nat} (h : bAt c p [94]) : decode c p = .ok (.dup2_x2, 1) := by
  have e : (Reader.u1 : Decoder Nat) c p = Except.ok (94, p + 1) := u1_at (pr_get _ _ p 0 94 h rfl)
  refine dcB ?_
  unfold Decoder.instr
  change Except.bind ((Reader.u1 : Decoder Nat) c p) _ = _
  rw [e]
  rfl
theorem op96 {c : ByteArray} {p : Nat} (h : bAt c p [96]) : decode c p = .ok (.iadd, 1) := by
  have e : (Reader.u1 : Decoder Nat) c p = Except.ok (96, p + 1) := u1_at (pr_get _ _ p 0 96 h rfl)
  refine dcB ?_
  unfold Decoder.instr
  change Except.bind ((Reader.u1 : Decoder Nat) c p) _ = _
  rw [e]
  rfl
theorem op97 {c : ByteArray} {p : Nat} (h : bAt c p [97]) : decode c p = .ok (.ladd, 1) := by
  have e : (Reader.u1 : Decoder Nat) c p = Except.ok (97, p + 1) := u1_at (pr_get _ _ p 0 97 h rfl)
  refine dcB ?_
  unfold Decoder.instr
  change Except.bind ((Reader.u1 : Decoder Nat) c p) _ = _
  rw [e]
  rfl
theorem op100 {c : ByteArray} {p : Nat} (h : bAt c p [100]) : decode c p = .ok (.isub, 1) := by
  have e : (Reader.u1 : Decoder Nat) c p = Except.ok (100, p + 1) := u1_at (pr_get _ _ p 0 100 h rfl)
  refine dcB ?_
  unfold Decoder.instr
  change Except.bind ((Reader.u1 : Decoder Nat) c p) _ = _
  rw [e]
  rfl
theorem op101 {c : ByteArray} {p : Nat} (h : bAt c p [101]) : decode c p = .ok (.lsub, 1) := by
  have e : (Reader.u1 : Decoder Nat) c p = Except.ok (101, p + 1) := u1_at (pr_get _ _ p 0 101 h rfl)
  refine dcB ?_
  unfold Decoder.instr
  change Except.bind ((Reader.u1 : Decoder Nat) c p) _ = _
  rw [e]
  rfl
theorem op104 {c : ByteArray} {p : Nat} (h : bAt c p [104]) : decode c p = .ok (.imul, 1) := by
  have e : (Reader.u1 : Decoder Nat) c p = Except.ok (104, p + 1) := u1_at (pr_get _ _ p 0 104 h rfl)
  refine dcB ?_
  unfold Decoder.instr
  change Except.bind ((Reader.u1 : Decoder Nat) c p) _ = _
  rw [e]
  rfl
theorem op105 {c : ByteArray} {p : Nat} (h : bAt c p [105]) : decode c p = .ok (.lmul, 1) := by
  have e : (Reader.u1 : Decoder Nat) c p = Except.ok (105, p + 1) := u1_at (pr_get _ _ p 0 105 h rfl)
  refine dcB ?_
  unfold Decoder.instr
  change Except.bind ((Reader.u1 : Decoder Nat) c p) _ = _
  rw [e]
  rfl
theorem op108 {c : ByteArray} {p : Nat} (h : bAt c p [108]) : decode c p = .ok (.idiv, 1) := by
  have e : (Reader.u1 : Decoder Nat) c p = Except.ok (108, p + 1) := u1_at (pr_get _ _ p 0 108 h rfl)
  refine dcB ?_
  unfold Decoder.instr
  change Except.bind ((Reader.u1 : Decoder Nat) c p) _ = _
  rw [e]
  rfl
theorem op109 {c : ByteArray} {p : Nat} (h : bAt c p [109]) : decode c p = .ok (.ldiv, 1) := by
  have e : (Reader.u1 : Decoder Nat) c p = Except.ok (109, p + 1) := u1_at (pr_get _ _ p 0 109 h rfl)
  refine dcB ?_
  unfold Decoder.instr
  change Except.bind ((Reader.u1 : Decoder Nat) c p) _ = _
  rw [e]
  rfl
theorem op112 {c : ByteArray} {p : Nat} (h : bAt c p [112]) : decode c p = .ok (.irem, 1) := by
  have e : (Reader.u1 : Decoder Nat) c p = Except.ok (112, p + 1) := u1_at (pr_get _ _ p 0 112 h rfl)
  refine dcB ?_
  unfold Decoder.instr
  change Except.bind ((Reader.u1 : Decoder Nat) c p) _ = _
  rw [e]
  rfl
theorem op113 {c : ByteArray} {p : Nat} (h : bAt c p [113]) : decode c p = .ok (.lrem, 1) := by
  have e : (Reader.u1 : Decoder Nat) c p = Except.ok (113, p + 1) := u1_at (pr_get _ _ p 0 113 h rfl)
  refine dcB ?_
  unfold Decoder.instr
  change Except.bind ((Reader.u1 : Decoder Nat) c p) _ = _
  rw [e]
  rfl
theorem op116 {c : ByteArray} {p : Nat} (h : bAt c p [116]) : decode c p = .ok (.ineg, 1) := by
  have e : (Reader.u1 : Decoder Nat) c p = Except.ok (116, p + 1) := u1_at (pr_get _ _ p 0 116 h rfl)
  refine dcB ?_
  unfold Decoder.instr
  change Except.bind ((Reader.u1 : Decoder Nat) c p) _ = _
  rw [e]
  rfl
theorem op117 {c : ByteArray} {p : Nat} (h : bAt c p [117]) : decode c p = .ok (.lneg, 1) := by
  have e : (Reader.u1 : Decoder Nat) c p = Except.ok (117, p + 1) := u1_at (pr_get _ _ p 0 117 h rfl)
  refine dcB ?_
  unfold Decoder.instr
  change Except.bind ((Reader.u1 : Decoder Nat) c p) _ = _
  rw [e]
  rfl
theorem op120 {c : ByteArray} {p : Nat} (h : bAt c p [120]) : decode c p = .ok (.ishl, 1) := by
  have e : (Reader.u1 : Decoder Nat) c p = Except.ok (120, p + 1) := u1_at (pr_get _ _ p 0 120 h rfl)
  refine dcB ?_
  unfold Decoder.instr
  change Except.bind ((Reader.u1 : Decoder Nat) c p) _ = _
  rw [e]
  rfl
theorem op121 {c : ByteArray} {p : Nat} (h : bAt c p [121]) : decode c p = .ok (.lshl, 1) := by
  have e : (Reader.u1 : Decoder Nat) c p = Except.ok (121, p + 1) := u1_at (pr_get _ _ p 0 121 h rfl)
  refine dcB ?_
  unfold Decoder.instr
  change Except.bind ((Reader.u1 : Decoder Nat) c p) _ = _
  rw [e]
  rfl
theorem op122 {c : ByteArray} {p : Nat} (h : bAt c p [122]) : decode c p = .ok (.ishr, 1) := by
  have e : (Reader.u1 : Decoder Nat) c p = Except.ok (122, p + 1) := u1_at (pr_get _ _ p 0 122 h rfl)
  refine dcB ?_
  unfold Decoder.instr
  change Except.bind ((Reader.u1 : Decoder Nat) c p) _ = _
  rw [e]
  rfl
theorem op123 {c : ByteArray} {p : Nat} (h : bAt c p [123]) : decode c p = .ok (.lshr, 1) := by
  have e : (Reader.u1 : Decoder Nat) c p = Except.ok (123, p + 1) := u1_at (pr_get _ _ p 0 123 h rfl)
  refine dcB ?_
  unfold Decoder.instr
  change Except.bind ((Reader.u1 : Decoder Nat) c p) _ = _
  rw [e]
  rfl
theorem op124 {c : ByteArray} {p : Nat} (h : bAt c p [124]) : decode c p = .ok (.iushr, 1) := by
  have e : (Reader.u1 : Decoder Nat) c p = Except.ok (124, p + 1) := u1_at (pr_get _ _ p 0 124 h rfl)
  refine dcB ?_
  unfold Decoder.instr
  change Except.bind ((Reader.u1 : Decoder Nat) c p) _ = _
  rw [e]
  rfl
theorem op125 {c : ByteArray} {p : Nat} (h : bAt c p [125]) : decode c p = .ok (.lushr, 1) := by
  have e : (Reader.u1 : Decoder Nat) c p = Except.ok (125, p + 1) := u1_at (pr_get _ _ p 0 125 h rfl)
  refine dcB ?_
  unfold Decoder.instr
  change Except.bind ((Reader.u1 : Decoder Nat) c p) _ = _
  rw [e]
  rfl
theorem op126 {c : ByteArray} {p : Nat} (h : bAt c p [126]) : decode c p = .ok (.iand, 1) := by
  have e : (Reader.u1 : Decoder Nat) c p = Except.ok (126, p + 1) := u1_at (pr_get _ _ p 0 126 h rfl)
  refine dcB ?_
  unfold Decoder.instr
  change Except.bind ((Reader.u1 : Decoder Nat) c p) _ = _
  rw [e]
  rfl
theorem op127 {c : ByteArray} {p : Nat} (h : bAt c p [127]) : decode c p = .ok (.land, 1) := by
  have e : (Reader.u1 : Decoder Nat) c p = Except.ok (127, p + 1) := u1_at (pr_get _ _ p 0 127 h rfl)
  refine dcB ?_
  unfold Decoder.instr
  change Except.bind ((Reader.u1 : Decoder Nat) c p) _ = _
  rw [e]
  rfl
theorem op128 {c : ByteArray} {p : Nat} (h : bAt c p [128]) : decode c p = .ok (.ior, 1) := by
  have e : (Reader.u1 : Decoder Nat) c p = Except.ok (128, p + 1) := u1_at (pr_get _ _ p 0 128 h rfl)
  refine dcB ?_
  unfold Decoder.instr
  change Except.bind ((Reader.u1 : Decoder Nat) c p) _ = _
  rw [e]
  rfl
theorem op129 {c : ByteArray} {p : Nat} (h : bAt c p [129]) : decode c p = .ok (.lor, 1) := by
  have e : (Reader.u1 : Decoder Nat) c p = Except.ok (129, p + 1) := u1_at (pr_get _ _ p 0 129 h rfl)
  refine dcB ?_
  unfold Decoder.instr
  change Except.bind ((Reader.u1 : Decoder Nat) c p) _ = _
  rw [e]
  rfl
theorem op130 {c : ByteArray} {p : Nat} (h : bAt c p [130]) : decode c p = .ok (.ixor, 1) := by
  have e : (Reader.u1 : Decoder Nat) c p = Except.ok (130, p + 1) := u1_at (pr_get _ _ p 0 130 h rfl)
  refine dcB ?_
  unfold Decoder.instr
  change Except.bind ((Reader.u1 : Decoder Nat) c p) _ = _
  rw [e]
  rfl
theorem op131 {c : ByteArray} {p : Nat} (h : bAt c p [131]) : decode c p = .ok (.lxor, 1) := by
  have e : (Reader.u1 : Decoder Nat) c p = Except.ok (131, p + 1) := u1_at (pr_get _ _ p 0 131 h rfl)
  refine dcB ?_
  unfold Decoder.instr
  change Except.bind ((Reader.u1 : Decoder Nat) c p) _ = _
  rw [e]
  rfl
theorem op132 {c : ByteArray} {p m : Nat} {n : Int} {a b : UInt8} (h : bAt c p [132, a, b]) (hm : m = a.toNat) (hn : n = Reader.signed 8 b.toNat) : decode c p = .ok (.iinc m n, 3) := by
  subst hm hn
  have e : (Reader.u1 : Decoder Nat) c p = Except.ok (132, p + 1) := u1_at (pr_get _ _ p 0 132 h rfl)
  have e2 : (Reader.u1 : Decoder Nat) c (p + 1) = Except.ok (a.toNat, p + 1 + 1) := u1_at (pr_get _ _ p 1 a h rfl)
  have e3 : (Reader.s1 : Decoder Int) c (p + 2) = Except.ok (Reader.signed 8 b.toNat, p + 2 + 1) := s1_at (pr_get _ _ p 2 b h rfl)
  refine dcB ?_
  unfold Decoder.instr
  change Except.bind ((Reader.u1 : Decoder Nat) c p) _ = _
  rw [e]
  show Except.bind ((Reader.u1 : Decoder Nat) c (p + 1)) (fun x => Except.bind ((Reader.s1 : Decoder Int) c x.2) (fun y => Except.ok (Instr.iinc x.1 y.1, y.2))) = _
  rw [e2]
  show Except.bind ((Reader.s1 : Decoder Int) c (p + 2)) (fun y => Except.ok (Instr.iinc a.toNat y.1, y.2)) = _
  rw [e3]
  rfl
theorem op133 {c : ByteArray} {p : Nat} (h : bAt c p [133]) : decode c p = .ok (.i2l, 1) := by
  have e : (Reader.u1 : Decoder Nat) c p = Except.ok (133, p + 1) := u1_at (pr_get _ _ p 0 133 h rfl)
  refine dcB ?_
  unfold Decoder.instr
  change Except.bind ((Reader.u1 : Decoder Nat) c p) _ = _
  rw [e]
  rfl
theorem op136 {c : ByteArray} {p : Nat} (h : bAt c p [136]) : decode c p = .ok (.l2i, 1) := by
  have e : (Reader.u1 : Decoder Nat) c p = Except.ok (136, p + 1) := u1_at (pr_get _ _ p 0 136 h rfl)
  refine dcB ?_
  unfold Decoder.instr
  change Except.bind ((Reader.u1 : Decoder Nat) c p) _ = _
  rw [e]
  rfl
theorem op145 {c : ByteArray} {p : Nat} (h : bAt c p [145]) : decode c p = .ok (.i2b, 1) := by
  have e : (Reader.u1 : Decoder Nat) c p = Except.ok (145, p + 1) := u1_at (pr_get _ _ p 0 145 h rfl)
  refine dcB ?_
  unfold Decoder.instr
  change Except.bind ((Reader.u1 : Decoder Nat) c p) _ = _
  rw [e]
  rfl
theorem op146 {c : ByteArray} {p : Nat} (h : bAt c p [146]) : decode c p = .ok (.i2c, 1) := by
  have e : (Reader.u1 : Decoder Nat) c p = Except.ok (146, p + 1) := u1_at (pr_get _ _ p 0 146 h rfl)
  refine dcB ?_
  unfold Decoder.instr
  change Except.bind ((Reader.u1 : Decoder Nat) c p) _ = _
  rw [e]
  rfl
theorem op147 {c : ByteArray} {p : Nat} (h : bAt c p [147]) : decode c p = .ok (.i2s, 1) := by
  have e : (Reader.u1 : Decoder Nat) c p = Except.ok (147, p + 1) := u1_at (pr_get _ _ p 0 147 h rfl)
  refine dcB ?_
  unfold Decoder.instr
  change Except.bind ((Reader.u1 : Decoder Nat) c p) _ = _
  rw [e]
  rfl
theorem op148 {c : ByteArray} {p : Nat} (h : bAt c p [148]) : decode c p = .ok (.lcmp, 1) := by
  have e : (Reader.u1 : Decoder Nat) c p = Except.ok (148, p + 1) := u1_at (pr_get _ _ p 0 148 h rfl)
  refine dcB ?_
  unfold Decoder.instr
  change Except.bind ((Reader.u1 : Decoder Nat) c p) _ = _
  rw [e]
  rfl
theorem op153 {c : ByteArray} {p : Nat} {n : Int} {a b : UInt8} (h : bAt c p [153, a, b]) (hn : n = Reader.signed 16 (a.toNat * 256 + b.toNat)) : decode c p = .ok (.ifCond .eq n, 3) := by
  subst hn
  have e : (Reader.u1 : Decoder Nat) c p = Except.ok (153, p + 1) := u1_at (pr_get _ _ p 0 153 h rfl)
  have e2 : (Reader.s2 : Decoder Int) c (p + 1) = Except.ok (Reader.signed 16 (a.toNat * 256 + b.toNat), p + 1 + 2) := s2_at (pr_get _ _ p 1 a h rfl) (pr_get _ _ p 2 b h rfl)
  refine dcB ?_
  unfold Decoder.instr
  change Except.bind ((Reader.u1 : Decoder Nat) c p) _ = _
  rw [e]
  show Except.bind ((Reader.s2 : Decoder Int) c (p + 1)) (fun x => Except.ok (Instr.ifCond .eq x.1, x.2)) = _
  rw [e2]
  rfl
theorem op154 {c : ByteArray} {p : Nat} {n : Int} {a b : UInt8} (h : bAt c p [154, a, b]) (hn : n = Reader.signed 16 (a.toNat * 256 + b.toNat)) : decode c p = .ok (.ifCond .ne n, 3) := by
  subst hn
  have e : (Reader.u1 : Decoder Nat) c p = Except.ok (154, p + 1) := u1_at (pr_get _ _ p 0 154 h rfl)
  have e2 : (Reader.s2 : Decoder Int) c (p + 1) = Except.ok (Reader.signed 16 (a.toNat * 256 + b.toNat), p + 1 + 2) := s2_at (pr_get _ _ p 1 a h rfl) (pr_get _ _ p 2 b h rfl)
  refine dcB ?_
  unfold Decoder.instr
  change Except.bind ((Reader.u1 : Decoder Nat) c p) _ = _
  rw [e]
  show Except.bind ((Reader.s2 : Decoder Int) c (p + 1)) (fun x => Except.ok (Instr.ifCond .ne x.1, x.2)) = _
  rw [e2]
  rfl
theorem op155 {c : ByteArray} {p : Nat} {n : Int} {a b : UInt8} (h : bAt c p [155, a, b]) (hn : n = Reader.signed 16 (a.toNat * 256 + b.toNat)) : decode c p = .ok (.ifCond .lt n, 3) := by
  subst hn
  have e : (Reader.u1 : Decoder Nat) c p = Except.ok (155, p + 1) := u1_at (pr_get _ _ p 0 155 h rfl)
  have e2 : (Reader.s2 : Decoder Int) c (p + 1) = Except.ok (Reader.signed 16 (a.toNat * 256 + b.toNat), p + 1 + 2) := s2_at (pr_get _ _ p 1 a h rfl) (pr_get _ _ p 2 b h rfl)
  refine dcB ?_
  unfold Decoder.instr
  change Except.bind ((Reader.u1 : Decoder Nat) c p) _ = _
  rw [e]
  show Except.bind ((Reader.s2 : Decoder Int) c (p + 1)) (fun x => Except.ok (Instr.ifCond .lt x.1, x.2)) = _
  rw [e2]
  rfl
theorem op156 {c : ByteArray} {p : Nat} {n : Int} {a b : UInt8} (h : bAt c p [156, a, b]) (hn : n = Reader.signed 16 (a.toNat * 256 + b.toNat)) : decode c p = .ok (.ifCond .ge n, 3) := by
  subst hn
  have e : (Reader.u1 : Decoder Nat) c p = Except.ok (156, p + 1) := u1_at (pr_get _ _ p 0 156 h rfl)
  have e2 : (Reader.s2 : Decoder Int) c (p + 1) = Except.ok (Reader.signed 16 (a.toNat * 256 + b.toNat), p + 1 + 2) := s2_at (pr_get _ _ p 1 a h rfl) (pr_get _ _ p 2 b h rfl)
  refine dcB ?_
  unfold Decoder.instr
  change Except.bind ((Reader.u1 : Decoder Nat) c p) _ = _
  rw [e]
  show Except.bind ((Reader.s2 : Decoder Int) c (p + 1)) (fun x => Except.ok (Instr.ifCond .ge x.1, x.2)) = _
  rw [e2]
  rfl
theorem op157 {c : ByteArray} {p : Nat} {n : Int} {a b : UInt8} (h : bAt c p [157, a, b]) (hn : n = Reader.signed 16 (a.toNat * 256 + b.toNat)) : decode c p = .ok (.ifCond .gt n, 3) := by
  subst hn
  have e : (Reader.u1 : Decoder Nat) c p = Except.ok (157, p + 1) := u1_at (pr_get _ _ p 0 157 h rfl)
  have e2 : (Reader.s2 : Decoder Int) c (p + 1) = Except.ok (Reader.signed 16 (a.toNat * 256 + b.toNat), p + 1 + 2) := s2_at (pr_get _ _ p 1 a h rfl) (pr_get _ _ p 2 b h rfl)
  refine dcB ?_
  unfold Decoder.instr
  change Except.bind ((Reader.u1 : Decoder Nat) c p) _ = _
  rw [e]
  show Except.bind ((Reader.s2 : Decoder Int) c (p + 1)) (fun x => Except.ok (Instr.ifCond .gt x.1, x.2)) = _
  rw [e2]
  rfl
theorem op158 {c : ByteArray} {p : Nat} {n : Int} {a b : UInt8} (h : bAt c p [158, a, b]) (hn : n = Reader.signed 16 (a.toNat * 256 + b.toNat)) : decode c p = .ok (.ifCond .le n, 3) := by
  subst hn
  have e : (Reader.u1 : Decoder Nat) c p = Except.ok (158, p + 1) := u1_at (pr_get _ _ p 0 158 h rfl)
  have e2 : (Reader.s2 : Decoder Int) c (p + 1) = Except.ok (Reader.signed 16 (a.toNat * 256 + b.toNat), p + 1 + 2) := s2_at (pr_get _ _ p 1 a h rfl) (pr_get _ _ p 2 b h rfl)
  refine dcB ?_
  unfold Decoder.instr
  change Except.bind ((Reader.u1 : Decoder Nat) c p) _ = _
  rw [e]
  show Except.bind ((Reader.s2 : Decoder Int) c (p + 1)) (fun x => Except.ok (Instr.ifCond .le x.1, x.2)) = _
  rw [e2]
  rfl
theorem op159 {c : ByteArray} {p : Nat} {n : Int} {a b : UInt8} (h : bAt c p [159, a, b]) (hn : n = Reader.signed 16 (a.toNat * 256 + b.toNat)) : decode c p = .ok (.if_icmp .eq n, 3) := by
  subst hn
  have e : (Reader.u1 : Decoder Nat) c p = Except.ok (159, p + 1) := u1_at (pr_get _ _ p 0 159 h rfl)
  have e2 : (Reader.s2 : Decoder Int) c (p + 1) = Except.ok (Reader.signed 16 (a.toNat * 256 + b.toNat), p + 1 + 2) := s2_at (pr_get _ _ p 1 a h rfl) (pr_get _ _ p 2 b h rfl)
  refine dcB ?_
  unfold Decoder.instr
  change Except.bind ((Reader.u1 : Decoder Nat) c p) _ = _
  rw [e]
  show Except.bind ((Reader.s2 : Decoder Int) c (p + 1)) (fun x => Except.ok (Instr.if_icmp .eq x.1, x.2)) = _
  rw [e2]
  rfl
theorem op160 {c : ByteArray} {p : Nat} {n : Int} {a b : UInt8} (h : bAt c p [160, a, b]) (hn : n = Reader.signed 16 (a.toNat * 256 + b.toNat)) : decode c p = .ok (.if_icmp .ne n, 3) := by
  subst hn
  have e : (Reader.u1 : Decoder Nat) c p = Except.ok (160, p + 1) := u1_at (pr_get _ _ p 0 160 h rfl)
  have e2 : (Reader.s2 : Decoder Int) c (p + 1) = Except.ok (Reader.signed 16 (a.toNat * 256 + b.toNat), p + 1 + 2) := s2_at (pr_get _ _ p 1 a h rfl) (pr_get _ _ p 2 b h rfl)
  refine dcB ?_
  unfold Decoder.instr
  change Except.bind ((Reader.u1 : Decoder Nat) c p) _ = _
  rw [e]
  show Except.bind ((Reader.s2 : Decoder Int) c (p + 1)) (fun x => Except.ok (Instr.if_icmp .ne x.1, x.2)) = _
  rw [e2]
  rfl
theorem op161 {c : ByteArray} {p : Nat} {n : Int} {a b : UInt8} (h : bAt c p [161, a, b]) (hn : n = Reader.signed 16 (a.toNat * 256 + b.toNat)) : decode c p = .ok (.if_icmp .lt n, 3) := by
  subst hn
  have e : (Reader.u1 : Decoder Nat) c p = Except.ok (161, p + 1) := u1_at (pr_get _ _ p 0 161 h rfl)
  have e2 : (Reader.s2 : Decoder Int) c (p + 1) = Except.ok (Reader.signed 16 (a.toNat * 256 + b.toNat), p + 1 + 2) := s2_at (pr_get _ _ p 1 a h rfl) (pr_get _ _ p 2 b h rfl)
  refine dcB ?_
  unfold Decoder.instr
  change Except.bind ((Reader.u1 : Decoder Nat) c p) _ = _
  rw [e]
  show Except.bind ((Reader.s2 : Decoder Int) c (p + 1)) (fun x => Except.ok (Instr.if_icmp .lt x.1, x.2)) = _
  rw [e2]
  rfl
theorem op162 {c : ByteArray} {p : Nat} {n : Int} {a b : UInt8} (h : bAt c p [162, a, b]) (hn : n = Reader.signed 16 (a.toNat * 256 + b.toNat)) : decode c p = .ok (.if_icmp .ge n, 3) := by
  subst hn
  have e : (Reader.u1 : Decoder Nat) c p = Except.ok (162, p + 1) := u1_at (pr_get _ _ p 0 162 h rfl)
  have e2 : (Reader.s2 : Decoder Int) c (p + 1) = Except.ok (Reader.signed 16 (a.toNat * 256 + b.toNat), p + 1 + 2) := s2_at (pr_get _ _ p 1 a h rfl) (pr_get _ _ p 2 b h rfl)
  refine dcB ?_
  unfold Decoder.instr
  change Except.bind ((Reader.u1 : Decoder Nat) c p) _ = _
  rw [e]
  show Except.bind ((Reader.s2 : Decoder Int) c (p + 1)) (fun x => Except.ok (Instr.if_icmp .ge x.1, x.2)) = _
  rw [e2]
  rfl
theorem op163 {c : ByteArray} {p : Nat} {n : Int} {a b : UInt8} (h : bAt c p [163, a, b]) (hn : n = Reader.signed 16 (a.toNat * 256 + b.toNat)) : decode c p = .ok (.if_icmp .gt n, 3) := by
  subst hn
  have e : (Reader.u1 : Decoder Nat) c p = Except.ok (163, p + 1) := u1_at (pr_get _ _ p 0 163 h rfl)
  have e2 : (Reader.s2 : Decoder Int) c (p + 1) = Except.ok (Reader.signed 16 (a.toNat * 256 + b.toNat), p + 1 + 2) := s2_at (pr_get _ _ p 1 a h rfl) (pr_get _ _ p 2 b h rfl)
  refine dcB ?_
  unfold Decoder.instr
  change Except.bind ((Reader.u1 : Decoder Nat) c p) _ = _
  rw [e]
  show Except.bind ((Reader.s2 : Decoder Int) c (p + 1)) (fun x => Except.ok (Instr.if_icmp .gt x.1, x.2)) = _
  rw [e2]
  rfl
theorem op164 {c : ByteArray} {p : Nat} {n : Int} {a b : UInt8} (h : bAt c p [164, a, b]) (hn : n = Reader.signed 16 (a.toNat * 256 + b.toNat)) : decode c p = .ok (.if_icmp .le n, 3) := by
  subst hn
  have e : (Reader.u1 : Decoder Nat) c p = Except.ok (164, p + 1) := u1_at (pr_get _ _ p 0 164 h rfl)
  have e2 : (Reader.s2 : Decoder Int) c (p + 1) = Except.ok (Reader.signed 16 (a.toNat * 256 + b.toNat), p + 1 + 2) := s2_at (pr_get _ _ p 1 a h rfl) (pr_get _ _ p 2 b h rfl)
  refine dcB ?_
  unfold Decoder.instr
  change Except.bind ((Reader.u1 : Decoder Nat) c p) _ = _
  rw [e]
  show Except.bind ((Reader.s2 : Decoder Int) c (p + 1)) (fun x => Except.ok (Instr.if_icmp .le x.1, x.2)) = _
  rw [e2]
  rfl
theorem op165 {c : ByteArray} {p : Nat} {n : Int} {a b : UInt8} (h : bAt c p [165, a, b]) (hn : n = Reader.signed 16 (a.toNat * 256 + b.toNat)) : decode c p = .ok (.if_acmp .eq n, 3) := by
  subst hn
  have e : (Reader.u1 : Decoder Nat) c p = Except.ok (165, p + 1) := u1_at (pr_get _ _ p 0 165 h rfl)
  have e2 : (Reader.s2 : Decoder Int) c (p + 1) = Except.ok (Reader.signed 16 (a.toNat * 256 + b.toNat), p + 1 + 2) := s2_at (pr_get _ _ p 1 a h rfl) (pr_get _ _ p 2 b h rfl)
  refine dcB ?_
  unfold Decoder.instr
  change Except.bind ((Reader.u1 : Decoder Nat) c p) _ = _
  rw [e]
  show Except.bind ((Reader.s2 : Decoder Int) c (p + 1)) (fun x => Except.ok (Instr.if_acmp .eq x.1, x.2)) = _
  rw [e2]
  rfl
theorem op166 {c : ByteArray} {p : Nat} {n : Int} {a b : UInt8} (h : bAt c p [166, a, b]) (hn : n = Reader.signed 16 (a.toNat * 256 + b.toNat)) : decode c p = .ok (.if_acmp .ne n, 3) := by
  subst hn
  have e : (Reader.u1 : Decoder Nat) c p = Except.ok (166, p + 1) := u1_at (pr_get _ _ p 0 166 h rfl)
  have e2 : (Reader.s2 : Decoder Int) c (p + 1) = Except.ok (Reader.signed 16 (a.toNat * 256 + b.toNat), p + 1 + 2) := s2_at (pr_get _ _ p 1 a h rfl) (pr_get _ _ p 2 b h rfl)
  refine dcB ?_
  unfold Decoder.instr
  change Except.bind ((Reader.u1 : Decoder Nat) c p) _ = _
  rw [e]
  show Except.bind ((Reader.s2 : Decoder Int) c (p + 1)) (fun x => Except.ok (Instr.if_acmp .ne x.1, x.2)) = _
  rw [e2]
  rfl
theorem op167 {c : ByteArray} {p : Nat} {n : Int} {a b : UInt8} (h : bAt c p [167, a, b]) (hn : n = Reader.signed 16 (a.toNat * 256 + b.toNat)) : decode c p = .ok (.goto n, 3) := by
  subst hn
  have e : (Reader.u1 : Decoder Nat) c p = Except.ok (167, p + 1) := u1_at (pr_get _ _ p 0 167 h rfl)
  have e2 : (Reader.s2 : Decoder Int) c (p + 1) = Except.ok (Reader.signed 16 (a.toNat * 256 + b.toNat), p + 1 + 2) := s2_at (pr_get _ _ p 1 a h rfl) (pr_get _ _ p 2 b h rfl)
  refine dcB ?_
  unfold Decoder.instr
  change Except.bind ((Reader.u1 : Decoder Nat) c p) _ = _
  rw [e]
  show Except.bind ((Reader.s2 : Decoder Int) c (p + 1)) (fun x => Except.ok (Instr.goto x.1, x.2)) = _
  rw [e2]
  rfl
theorem op172 {c : ByteArray} {p : Nat} (h : bAt c p [172]) : decode c p = .ok (.ireturn, 1) := by
  have e : (Reader.u1 : Decoder Nat) c p = Except.ok (172, p + 1) := u1_at (pr_get _ _ p 0 172 h rfl)
  refine dcB ?_
  unfold Decoder.instr
  change Except.bind ((Reader.u1 : Decoder Nat) c p) _ = _
  rw [e]
  rfl
theorem op173 {c : ByteArray} {p : Nat} (h : bAt c p [173]) : decode c p = .ok (.lreturn, 1) := by
  have e : (Reader.u1 : Decoder Nat) c p = Except.ok (173, p + 1) := u1_at (pr_get _ _ p 0 173 h rfl)
  refine dcB ?_
  unfold Decoder.instr
  change Except.bind ((Reader.u1 : Decoder Nat) c p) _ = _
  rw [e]
  rfl
theorem op176 {c : ByteArray} {p : Nat} (h : bAt c p [176]) : decode c p = .ok (.areturn, 1) := by
  have e : (Reader.u1 : Decoder Nat) c p = Except.ok (176, p + 1) := u1_at (pr_get _ _ p 0 176 h rfl)
  refine dcB ?_
  unfold Decoder.instr
  change Except.bind ((Reader.u1 : Decoder Nat) c p) _ = _
  rw [e]
  rfl
theorem op177 {c : ByteArray} {p : Nat} (h : bAt c p [177]) : decode c p = .ok (.return_, 1) := by
  have e : (Reader.u1 : Decoder Nat) c p = Except.ok (177, p + 1) := u1_at (pr_get _ _ p 0 177 h rfl)
  refine dcB ?_
  unfold Decoder.instr
  change Except.bind ((Reader.u1 : Decoder Nat) c p) _ = _
  rw [e]
  rfl
theorem op178 {c : ByteArray} {p n : Nat} {a b : UInt8} (h : bAt c p [178, a, b]) (hn : n = a.toNat * 256 + b.toNat) : decode c p = .ok (.getstatic n, 3) := by
  subst hn
  have e : (Reader.u1 : Decoder Nat) c p = Except.ok (178, p + 1) := u1_at (pr_get _ _ p 0 178 h rfl)
  have e2 : (Reader.u2 : Decoder Nat) c (p + 1) = Except.ok (a.toNat * 256 + b.toNat, p + 1 + 2) := u2_at (pr_get _ _ p 1 a h rfl) (pr_get _ _ p 2 b h rfl)
  refine dcB ?_
  unfold Decoder.instr
  change Except.bind ((Reader.u1 : Decoder Nat) c p) _ = _
  rw [e]
  show Except.bind ((Reader.u2 : Decoder Nat) c (p + 1)) (fun x => Except.ok (Instr.getstatic x.1, x.2)) = _
  rw [e2]
  rfl
theorem op179 {c : ByteArray} {p n : Nat} {a b : UInt8} (h : bAt c p [179, a, b]) (hn : n = a.toNat * 256 + b.toNat) : decode c p = .ok (.putstatic n, 3) := by
  subst hn
  have e : (Reader.u1 : Decoder Nat) c p = Except.ok (179, p + 1) := u1_at (pr_get _ _ p 0 179 h rfl)
  have e2 : (Reader.u2 : Decoder Nat) c (p + 1) = Except.ok (a.toNat * 256 + b.toNat, p + 1 + 2) := u2_at (pr_get _ _ p 1 a h rfl) (pr_get _ _ p 2 b h rfl)
  refine dcB ?_
  unfold Decoder.instr
  change Except.bind ((Reader.u1 : Decoder Nat) c p) _ = _
  rw [e]
  show Except.bind ((Reader.u2 : Decoder Nat) c (p + 1)) (fun x => Except.ok (Instr.putstatic x.1, x.2)) = _
  rw [e2]
  rfl
theorem op180 {c : ByteArray} {p n : Nat} {a b : UInt8} (h : bAt c p [180, a, b]) (hn : n = a.toNat * 256 + b.toNat) : decode c p = .ok (.getfield n, 3) := by
  subst hn
  have e : (Reader.u1 : Decoder Nat) c p = Except.ok (180, p + 1) := u1_at (pr_get _ _ p 0 180 h rfl)
  have e2 : (Reader.u2 : Decoder Nat) c (p + 1) = Except.ok (a.toNat * 256 + b.toNat, p + 1 + 2) := u2_at (pr_get _ _ p 1 a h rfl) (pr_get _ _ p 2 b h rfl)
  refine dcB ?_
  unfold Decoder.instr
  change Except.bind ((Reader.u1 : Decoder Nat) c p) _ = _
  rw [e]
  show Except.bind ((Reader.u2 : Decoder Nat) c (p + 1)) (fun x => Except.ok (Instr.getfield x.1, x.2)) = _
  rw [e2]
  rfl
theorem op181 {c : ByteArray} {p n : Nat} {a b : UInt8} (h : bAt c p [181, a, b]) (hn : n = a.toNat * 256 + b.toNat) : decode c p = .ok (.putfield n, 3) := by
  subst hn
  have e : (Reader.u1 : Decoder Nat) c p = Except.ok (181, p + 1) := u1_at (pr_get _ _ p 0 181 h rfl)
  have e2 : (Reader.u2 : Decoder Nat) c (p + 1) = Except.ok (a.toNat * 256 + b.toNat, p + 1 + 2) := u2_at (pr_get _ _ p 1 a h rfl) (pr_get _ _ p 2 b h rfl)
  refine dcB ?_
  unfold Decoder.instr
  change Except.bind ((Reader.u1 : Decoder Nat) c p) _ = _
  rw [e]
  show Except.bind ((Reader.u2 : Decoder Nat) c (p + 1)) (fun x => Except.ok (Instr.putfield x.1, x.2)) = _
  rw [e2]
  rfl
theorem op182 {c : ByteArray} {p n : Nat} {a b : UInt8} (h : bAt c p [182, a, b]) (hn : n = a.toNat * 256 + b.toNat) : decode c p = .ok (.invokevirtual n, 3) := by
  subst hn
  have e : (Reader.u1 : Decoder Nat) c p = Except.ok (182, p + 1) := u1_at (pr_get _ _ p 0 182 h rfl)
  have e2 : (Reader.u2 : Decoder Nat) c (p + 1) = Except.ok (a.toNat * 256 + b.toNat, p + 1 + 2) := u2_at (pr_get _ _ p 1 a h rfl) (pr_get _ _ p 2 b h rfl)
  refine dcB ?_
  unfold Decoder.instr
  change Except.bind ((Reader.u1 : Decoder Nat) c p) _ = _
  rw [e]
  show Except.bind ((Reader.u2 : Decoder Nat) c (p + 1)) (fun x => Except.ok (Instr.invokevirtual x.1, x.2)) = _
  rw [e2]
  rfl
theorem op183 {c : ByteArray} {p n : Nat} {a b : UInt8} (h : bAt c p [183, a, b]) (hn : n = a.toNat * 256 + b.toNat) : decode c p = .ok (.invokespecial n, 3) := by
  subst hn
  have e : (Reader.u1 : Decoder Nat) c p = Except.ok (183, p + 1) := u1_at (pr_get _ _ p 0 183 h rfl)
  have e2 : (Reader.u2 : Decoder Nat) c (p + 1) = Except.ok (a.toNat * 256 + b.toNat, p + 1 + 2) := u2_at (pr_get _ _ p 1 a h rfl) (pr_get _ _ p 2 b h rfl)
  refine dcB ?_
  unfold Decoder.instr
  change Except.bind ((Reader.u1 : Decoder Nat) c p) _ = _
  rw [e]
  show Except.bind ((Reader.u2 : Decoder Nat) c (p + 1)) (fun x => Except.ok (Instr.invokespecial x.1, x.2)) = _
  rw [e2]
  rfl
theorem op184 {c : ByteArray} {p n : Nat} {a b : UInt8} (h : bAt c p [184, a, b]) (hn : n = a.toNat * 256 + b.toNat) : decode c p = .ok (.invokestatic n, 3) := by
  subst hn
  have e : (Reader.u1 : Decoder Nat) c p = Except.ok (184, p + 1) := u1_at (pr_get _ _ p 0 184 h rfl)
  have e2 : (Reader.u2 : Decoder Nat) c (p + 1) = Except.ok (a.toNat * 256 + b.toNat, p + 1 + 2) := u2_at (pr_get _ _ p 1 a h rfl) (pr_get _ _ p 2 b h rfl)
  refine dcB ?_
  unfold Decoder.instr
  change Except.bind ((Reader.u1 : Decoder Nat) c p) _ = _
  rw [e]
  show Except.bind ((Reader.u2 : Decoder Nat) c (p + 1)) (fun x => Except.ok (Instr.invokestatic x.1, x.2)) = _
  rw [e2]
  rfl
theorem op187 {c : ByteArray} {p n : Nat} {a b : UInt8} (h : bAt c p [187, a, b]) (hn : n = a.toNat * 256 + b.toNat) : decode c p = .ok (.new n, 3) := by
  subst hn
  have e : (Reader.u1 : Decoder Nat) c p = Except.ok (187, p + 1) := u1_at (pr_get _ _ p 0 187 h rfl)
  have e2 : (Reader.u2 : Decoder Nat) c (p + 1) = Except.ok (a.toNat * 256 + b.toNat, p + 1 + 2) := u2_at (pr_get _ _ p 1 a h rfl) (pr_get _ _ p 2 b h rfl)
  refine dcB ?_
  unfold Decoder.instr
  change Except.bind ((Reader.u1 : Decoder Nat) c p) _ = _
  rw [e]
  show Except.bind ((Reader.u2 : Decoder Nat) c (p + 1)) (fun x => Except.ok (Instr.new x.1, x.2)) = _
  rw [e2]
  rfl
theorem op188_4 {c : ByteArray} {p : Nat} (h : bAt c p [188, 4]) : decode c p = .ok (.newarray .boolean, 2) := by
  have e : (Reader.u1 : Decoder Nat) c p = Except.ok (188, p + 1) := u1_at (pr_get _ _ p 0 188 h rfl)
  have e2 : (Reader.u1 : Decoder Nat) c (p + 1) = Except.ok (4, p + 1 + 1) := u1_at (pr_get _ _ p 1 4 h rfl)
  refine dcB ?_
  unfold Decoder.instr
  change Except.bind ((Reader.u1 : Decoder Nat) c p) _ = _
  rw [e]
  change Except.bind ((Reader.u1 : Decoder Nat) c (p + 1)) _ = _
  rw [e2]
  rfl
theorem op188_8 {c : ByteArray} {p : Nat} (h : bAt c p [188, 8]) : decode c p = .ok (.newarray .byte, 2) := by
  have e : (Reader.u1 : Decoder Nat) c p = Except.ok (188, p + 1) := u1_at (pr_get _ _ p 0 188 h rfl)
  have e2 : (Reader.u1 : Decoder Nat) c (p + 1) = Except.ok (8, p + 1 + 1) := u1_at (pr_get _ _ p 1 8 h rfl)
  refine dcB ?_
  unfold Decoder.instr
  change Except.bind ((Reader.u1 : Decoder Nat) c p) _ = _
  rw [e]
  change Except.bind ((Reader.u1 : Decoder Nat) c (p + 1)) _ = _
  rw [e2]
  rfl
theorem op188_10 {c : ByteArray} {p : Nat} (h : bAt c p [188, 10]) : decode c p = .ok (.newarray .int, 2) := by
  have e : (Reader.u1 : Decoder Nat) c p = Except.ok (188, p + 1) := u1_at (pr_get _ _ p 0 188 h rfl)
  have e2 : (Reader.u1 : Decoder Nat) c (p + 1) = Except.ok (10, p + 1 + 1) := u1_at (pr_get _ _ p 1 10 h rfl)
  refine dcB ?_
  unfold Decoder.instr
  change Except.bind ((Reader.u1 : Decoder Nat) c p) _ = _
  rw [e]
  change Except.bind ((Reader.u1 : Decoder Nat) c (p + 1)) _ = _
  rw [e2]
  rfl
theorem op188_11 {c : ByteArray} {p : Nat} (h : bAt c p [188, 11]) : decode c p = .ok (.newarray .long, 2) := by
  have e : (Reader.u1 : Decoder Nat) c p = Except.ok (188, p + 1) := u1_at (pr_get _ _ p 0 188 h rfl)
  have e2 : (Reader.u1 : Decoder Nat) c (p + 1) = Except.ok (11, p + 1 + 1) := u1_at (pr_get _ _ p 1 11 h rfl)
  refine dcB ?_
  unfold Decoder.instr
  change Except.bind ((Reader.u1 : Decoder Nat) c p) _ = _
  rw [e]
  change Except.bind ((Reader.u1 : Decoder Nat) c (p + 1)) _ = _
  rw [e2]
  rfl
theorem op189 {c : ByteArray} {p n : Nat} {a b : UInt8} (h : bAt c p [189, a, b]) (hn : n = a.toNat * 256 + b.toNat) : decode c p = .ok (.anewarray n, 3) := by
  subst hn
  have e : (Reader.u1 : Decoder Nat) c p = Except.ok (189, p + 1) := u1_at (pr_get _ _ p 0 189 h rfl)
  have e2 : (Reader.u2 : Decoder Nat) c (p + 1) = Except.ok (a.toNat * 256 + b.toNat, p + 1 + 2) := u2_at (pr_get _ _ p 1 a h rfl) (pr_get _ _ p 2 b h rfl)
  refine dcB ?_
  unfold Decoder.instr
  change Except.bind ((Reader.u1 : Decoder Nat) c p) _ = _
  rw [e]
  show Except.bind ((Reader.u2 : Decoder Nat) c (p + 1)) (fun x => Except.ok (Instr.anewarray x.1, x.2)) = _
  rw [e2]
  rfl
theorem op190 {c : ByteArray} {p : Nat} (h : bAt c p [190]) : decode c p = .ok (.arraylength, 1) := by
  have e : (Reader.u1 : Decoder Nat) c p = Except.ok (190, p + 1) := u1_at (pr_get _ _ p 0 190 h rfl)
  refine dcB ?_
  unfold Decoder.instr
  change Except.bind ((Reader.u1 : Decoder Nat) c p) _ = _
  rw [e]
  rfl
theorem op191 {c : ByteArray} {p : Nat} (h : bAt c p [191]) : decode c p = .ok (.athrow, 1) := by
  have e : (Reader.u1 : Decoder Nat) c p = Except.ok (191, p + 1) := u1_at (pr_get _ _ p 0 191 h rfl)
  refine dcB ?_
  unfold Decoder.instr
  change Except.bind ((Reader.u1 : Decoder Nat) c p) _ = _
  rw [e]
  rfl
theorem op192 {c : ByteArray} {p n : Nat} {a b : UInt8} (h : bAt c p [192, a, b]) (hn : n = a.toNat * 256 + b.toNat) : decode c p = .ok (.checkcast n, 3) := by
  subst hn
  have e : (Reader.u1 : Decoder Nat) c p = Except.ok (192, p + 1) := u1_at (pr_get _ _ p 0 192 h rfl)
  have e2 : (Reader.u2 : Decoder Nat) c (p + 1) = Except.ok (a.toNat * 256 + b.toNat, p + 1 + 2) := u2_at (pr_get _ _ p 1 a h rfl) (pr_get _ _ p 2 b h rfl)
  refine dcB ?_
  unfold Decoder.instr
  change Except.bind ((Reader.u1 : Decoder Nat) c p) _ = _
  rw [e]
  show Except.bind ((Reader.u2 : Decoder Nat) c (p + 1)) (fun x => Except.ok (Instr.checkcast x.1, x.2)) = _
  rw [e2]
  rfl
theorem op193 {c : ByteArray} {p n : Nat} {a b : UInt8} (h : bAt c p [193, a, b]) (hn : n = a.toNat * 256 + b.toNat) : decode c p = .ok (.instanceof n, 3) := by
  subst hn
  have e : (Reader.u1 : Decoder Nat) c p = Except.ok (193, p + 1) := u1_at (pr_get _ _ p 0 193 h rfl)
  have e2 : (Reader.u2 : Decoder Nat) c (p + 1) = Except.ok (a.toNat * 256 + b.toNat, p + 1 + 2) := u2_at (pr_get _ _ p 1 a h rfl) (pr_get _ _ p 2 b h rfl)
  refine dcB ?_
  unfold Decoder.instr
  change Except.bind ((Reader.u1 : Decoder Nat) c p) _ = _
  rw [e]
  show Except.bind ((Reader.u2 : Decoder Nat) c (p + 1)) (fun x => Except.ok (Instr.instanceof x.1, x.2)) = _
  rw [e2]
  rfl
theorem op198 {c : ByteArray} {p : Nat} {n : Int} {a b : UInt8} (h : bAt c p [198, a, b]) (hn : n = Reader.signed 16 (a.toNat * 256 + b.toNat)) : decode c p = .ok (.ifnull n, 3) := by
  subst hn
  have e : (Reader.u1 : Decoder Nat) c p = Except.ok (198, p + 1) := u1_at (pr_get _ _ p 0 198 h rfl)
  have e2 : (Reader.s2 : Decoder Int) c (p + 1) = Except.ok (Reader.signed 16 (a.toNat * 256 + b.toNat), p + 1 + 2) := s2_at (pr_get _ _ p 1 a h rfl) (pr_get _ _ p 2 b h rfl)
  refine dcB ?_
  unfold Decoder.instr
  change Except.bind ((Reader.u1 : Decoder Nat) c p) _ = _
  rw [e]
  show Except.bind ((Reader.s2 : Decoder Int) c (p + 1)) (fun x => Except.ok (Instr.ifnull x.1, x.2)) = _
  rw [e2]
  rfl
theorem op199 {c : ByteArray} {p : Nat} {n : Int} {a b : UInt8} (h : bAt c p [199, a, b]) (hn : n = Reader.signed 16 (a.toNat * 256 + b.toNat)) : decode c p = .ok (.ifnonnull n, 3) := by
  subst hn
  have e : (Reader.u1 : Decoder Nat) c p = Except.ok (199, p + 1) := u1_at (pr_get _ _ p 0 199 h rfl)
  have e2 : (Reader.s2 : Decoder Int) c (p + 1) = Except.ok (Reader.signed 16 (a.toNat * 256 + b.toNat), p + 1 + 2) := s2_at (pr_get _ _ p 1 a h rfl) (pr_get _ _ p 2 b h rfl)
  refine dcB ?_
  unfold Decoder.instr
  change Except.bind ((Reader.u1 : Decoder Nat) c p) _ = _
  rw [e]
  show Except.bind ((Reader.s2 : Decoder Int) c (p + 1)) (fun x => Except.ok (Instr.ifnonnull x.1, x.2)) = _
  rw [e2]
  rfl
