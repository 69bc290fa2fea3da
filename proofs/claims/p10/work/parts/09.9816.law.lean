set_option maxRecDepth 1000000 in
theorem zs_ne_0 : ∀ i, i < 0 → Cond.not (Cond.eq (.string RX4 (sEnt.getD i 0)) (.string RX4 226)) ∈ flatC (Jvm.Cond.and given_1 narrow_1) := pk_of (gs := []) (X := fun i => Cond.not (Cond.eq (.string RX4 (sEnt.getD i 0)) (.string RX4 226))) rfl
set_option maxRecDepth 1000000 in
theorem zs_ne_1 : ∀ i, i < 1 → Cond.not (Cond.eq (.string RX4 (sEnt.getD i 0)) (.string RX4 228)) ∈ flatC (Jvm.Cond.and given_1 narrow_1) := pk_of (gs := [244]) (X := fun i => Cond.not (Cond.eq (.string RX4 (sEnt.getD i 0)) (.string RX4 228))) rfl
set_option maxRecDepth 1000000 in
theorem zs_ne_2 : ∀ i, i < 2 → Cond.not (Cond.eq (.string RX4 (sEnt.getD i 0)) (.string RX4 230)) ∈ flatC (Jvm.Cond.and given_1 narrow_1) := pk_of (gs := [252, 0]) (X := fun i => Cond.not (Cond.eq (.string RX4 (sEnt.getD i 0)) (.string RX4 230))) rfl
set_option maxRecDepth 1000000 in
theorem zs_ne_3 : ∀ i, i < 3 → Cond.not (Cond.eq (.string RX4 (sEnt.getD i 0)) (.string RX4 232)) ∈ flatC (Jvm.Cond.and given_1 narrow_1) := pk_of (gs := [262, 0, 0]) (X := fun i => Cond.not (Cond.eq (.string RX4 (sEnt.getD i 0)) (.string RX4 232))) rfl
set_option maxRecDepth 1000000 in
theorem zs_ne_4 : ∀ i, i < 4 → Cond.not (Cond.eq (.string RX4 (sEnt.getD i 0)) (.string RX4 233)) ∈ flatC (Jvm.Cond.and given_1 narrow_1) := pk_of (gs := [274, 0, 0, 0]) (X := fun i => Cond.not (Cond.eq (.string RX4 (sEnt.getD i 0)) (.string RX4 233))) rfl
set_option maxRecDepth 1000000 in
theorem zs_ne_5 : ∀ i, i < 5 → Cond.not (Cond.eq (.string RX4 (sEnt.getD i 0)) (.string RX4 234)) ∈ flatC (Jvm.Cond.and given_1 narrow_1) := pk_of (gs := [285, 0, 0, 0, 0]) (X := fun i => Cond.not (Cond.eq (.string RX4 (sEnt.getD i 0)) (.string RX4 234))) rfl
set_option maxRecDepth 1000000 in
theorem zs_ne_6 : ∀ i, i < 6 → Cond.not (Cond.eq (.string RX4 (sEnt.getD i 0)) (.string RX4 236)) ∈ flatC (Jvm.Cond.and given_1 narrow_1) := pk_of (gs := [298, 0, 0, 0, 0, 0]) (X := fun i => Cond.not (Cond.eq (.string RX4 (sEnt.getD i 0)) (.string RX4 236))) rfl
set_option maxRecDepth 1000000 in
theorem zs_ne_7 : ∀ i, i < 7 → Cond.not (Cond.eq (.string RX4 (sEnt.getD i 0)) (.string RX4 238)) ∈ flatC (Jvm.Cond.and given_1 narrow_1) := pk_of (gs := [314, 0, 0, 0, 0, 0, 0]) (X := fun i => Cond.not (Cond.eq (.string RX4 (sEnt.getD i 0)) (.string RX4 238))) rfl
set_option maxRecDepth 1000000 in
theorem zs_ne_8 : ∀ i, i < 8 → Cond.not (Cond.eq (.string RX4 (sEnt.getD i 0)) (.string RX4 240)) ∈ flatC (Jvm.Cond.and given_1 narrow_1) := pk_of (gs := [331, 0, 0, 0, 0, 0, 0, 0]) (X := fun i => Cond.not (Cond.eq (.string RX4 (sEnt.getD i 0)) (.string RX4 240))) rfl
set_option maxRecDepth 1000000 in
theorem zs_ne_9 : ∀ i, i < 9 → Cond.not (Cond.eq (.string RX4 (sEnt.getD i 0)) (.string RX4 242)) ∈ flatC (Jvm.Cond.and given_1 narrow_1) := pk_of (gs := [348, 0, 0, 0, 0, 0, 0, 0, 0]) (X := fun i => Cond.not (Cond.eq (.string RX4 (sEnt.getD i 0)) (.string RX4 242))) rfl
set_option maxRecDepth 1000000 in
theorem zs_ne_10 : ∀ i, i < 10 → Cond.not (Cond.eq (.string RX4 (sEnt.getD i 0)) (.string RX4 244)) ∈ flatC (Jvm.Cond.and given_1 narrow_1) := pk_of (gs := [366, 0, 0, 0, 0, 0, 0, 0, 0, 0]) (X := fun i => Cond.not (Cond.eq (.string RX4 (sEnt.getD i 0)) (.string RX4 244))) rfl
set_option maxRecDepth 1000000 in
theorem zs_ne_11 : ∀ i, i < 11 → Cond.not (Cond.eq (.string RX4 (sEnt.getD i 0)) (.string RX4 246)) ∈ flatC (Jvm.Cond.and given_1 narrow_1) := pk_of (gs := [384, 0, 0, 0, 0, 0, 0, 0, 0, 0, 0]) (X := fun i => Cond.not (Cond.eq (.string RX4 (sEnt.getD i 0)) (.string RX4 246))) rfl
set_option maxRecDepth 1000000 in
theorem zs_ne_12 : ∀ i, i < 12 → Cond.not (Cond.eq (.string RX4 (sEnt.getD i 0)) (.string RX4 248)) ∈ flatC (Jvm.Cond.and given_1 narrow_1) := pk_of (gs := [406, 0, 0, 0, 0, 0, 0, 0, 0, 0, 0, 0]) (X := fun i => Cond.not (Cond.eq (.string RX4 (sEnt.getD i 0)) (.string RX4 248))) rfl
set_option maxRecDepth 1000000 in
theorem zs_ne_13 : ∀ i, i < 13 → Cond.not (Cond.eq (.string RX4 (sEnt.getD i 0)) (.string RX4 250)) ∈ flatC (Jvm.Cond.and given_1 narrow_1) := pk_of (gs := [426, 0, 0, 0, 0, 0, 0, 0, 0, 0, 0, 0, 0]) (X := fun i => Cond.not (Cond.eq (.string RX4 (sEnt.getD i 0)) (.string RX4 250))) rfl
set_option maxRecDepth 1000000 in
theorem zs_ne_14 : ∀ i, i < 14 → Cond.not (Cond.eq (.string RX4 (sEnt.getD i 0)) (.string RX4 252)) ∈ flatC (Jvm.Cond.and given_1 narrow_1) := pk_of (gs := [448, 0, 0, 0, 0, 0, 0, 0, 0, 0, 0, 0, 0, 0]) (X := fun i => Cond.not (Cond.eq (.string RX4 (sEnt.getD i 0)) (.string RX4 252))) rfl
set_option maxRecDepth 1000000 in
theorem zs_ne_15 : ∀ i, i < 15 → Cond.not (Cond.eq (.string RX4 (sEnt.getD i 0)) (.string RX4 254)) ∈ flatC (Jvm.Cond.and given_1 narrow_1) := pk_of (gs := [473, 0, 0, 0, 0, 0, 0, 0, 0, 0, 0, 0, 0, 0, 0]) (X := fun i => Cond.not (Cond.eq (.string RX4 (sEnt.getD i 0)) (.string RX4 254))) rfl
set_option maxRecDepth 1000000 in
theorem zs_ne_16 : ∀ i, i < 16 → Cond.not (Cond.eq (.string RX4 (sEnt.getD i 0)) (.string RX4 256)) ∈ flatC (Jvm.Cond.and given_1 narrow_1) := pk_of (gs := [497, 0, 0, 0, 0, 0, 0, 0, 0, 0, 0, 0, 0, 0, 0, 0]) (X := fun i => Cond.not (Cond.eq (.string RX4 (sEnt.getD i 0)) (.string RX4 256))) rfl
set_option maxRecDepth 1000000 in
theorem zs_ne_17 : ∀ i, i < 17 → Cond.not (Cond.eq (.string RX4 (sEnt.getD i 0)) (.string RX4 258)) ∈ flatC (Jvm.Cond.and given_1 narrow_1) := pk_of (gs := [521, 0, 0, 0, 0, 0, 0, 0, 0, 0, 0, 0, 0, 0, 0, 0, 0]) (X := fun i => Cond.not (Cond.eq (.string RX4 (sEnt.getD i 0)) (.string RX4 258))) rfl
set_option maxRecDepth 1000000 in
theorem zs_ne_18 : ∀ i, i < 18 → Cond.not (Cond.eq (.string RX4 (sEnt.getD i 0)) (.string RX4 260)) ∈ flatC (Jvm.Cond.and given_1 narrow_1) := pk_of (gs := [547, 0, 0, 0, 0, 0, 0, 0, 0, 0, 0, 0, 0, 0, 0, 0, 0, 0]) (X := fun i => Cond.not (Cond.eq (.string RX4 (sEnt.getD i 0)) (.string RX4 260))) rfl
set_option maxRecDepth 1000000 in
theorem zs_ne_19 : ∀ i, i < 19 → Cond.not (Cond.eq (.string RX4 (sEnt.getD i 0)) (.string RX4 262)) ∈ flatC (Jvm.Cond.and given_1 narrow_1) := pk_of (gs := [573, 0, 0, 0, 0, 0, 0, 0, 0, 0, 0, 0, 0, 0, 0, 0, 0, 0, 0]) (X := fun i => Cond.not (Cond.eq (.string RX4 (sEnt.getD i 0)) (.string RX4 262))) rfl
theorem zs_nl : ∀ j, j < 20 → ∀ i, i < j → Cond.not (Cond.eq (.string RX4 (sEnt.getD i 0)) (.string RX4 (sEnt.getD j 0))) ∈ flatC (Jvm.Cond.and given_1 narrow_1) := fun j hj => match j, hj with
  | 0, _ => zs_ne_0
  | 1, _ => zs_ne_1
  | 2, _ => zs_ne_2
  | 3, _ => zs_ne_3
  | 4, _ => zs_ne_4
  | 5, _ => zs_ne_5
  | 6, _ => zs_ne_6
  | 7, _ => zs_ne_7
  | 8, _ => zs_ne_8
  | 9, _ => zs_ne_9
  | 10, _ => zs_ne_10
  | 11, _ => zs_ne_11
  | 12, _ => zs_ne_12
  | 13, _ => zs_ne_13
  | 14, _ => zs_ne_14
  | 15, _ => zs_ne_15
  | 16, _ => zs_ne_16
  | 17, _ => zs_ne_17
  | 18, _ => zs_ne_18
  | 19, _ => zs_ne_19
  | i + 20, h => absurd h (by omega)
theorem zs_ne : ∀ i, i < 20 → ∀ j, j < 20 → i ≠ j → Cond.not (Cond.eq (.string RX4 (sEnt.getD i 0)) (.string RX4 (sEnt.getD j 0))) ∈ flatC (Jvm.Cond.and given_1 narrow_1) ∨ Cond.not (Cond.eq (.string RX4 (sEnt.getD j 0)) (.string RX4 (sEnt.getD i 0))) ∈ flatC (Jvm.Cond.and given_1 narrow_1) := fun i hi j hj hne => (Nat.lt_or_gt_of_ne hne).elim (fun h => Or.inl (zs_nl j hj i h)) (fun h => Or.inr (zs_nl i hi j h))
