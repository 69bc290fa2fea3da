set_option maxRecDepth 1000000 in
theorem zs_el_0 : ∀ j, j < 3 → Cond.eq (.elem (.field (.string RX4 226) "java/lang/String" "value" "[B") (.int (Int32.ofNat j))) (.int ((sByt.getD 0 []).getD j 0)) ∈ flatC (Jvm.Cond.and given_1 narrow_1) := pk_of (gs := [230, 0, 0]) (X := fun j => Cond.eq (.elem (.field (.string RX4 226) "java/lang/String" "value" "[B") (.int (Int32.ofNat j))) (.int ((sByt.getD 0 []).getD j 0))) rfl
set_option maxRecDepth 1000000 in
theorem zs_el_1 : ∀ j, j < 7 → Cond.eq (.elem (.field (.string RX4 228) "java/lang/String" "value" "[B") (.int (Int32.ofNat j))) (.int ((sByt.getD 1 []).getD j 0)) ∈ flatC (Jvm.Cond.and given_1 narrow_1) := pk_of (gs := [237, 0, 0, 0, 0, 0, 0]) (X := fun j => Cond.eq (.elem (.field (.string RX4 228) "java/lang/String" "value" "[B") (.int (Int32.ofNat j))) (.int ((sByt.getD 1 []).getD j 0))) rfl
set_option maxRecDepth 1000000 in
theorem zs_el_2 : ∀ j, j < 3 → Cond.eq (.elem (.field (.string RX4 230) "java/lang/String" "value" "[B") (.int (Int32.ofNat j))) (.int ((sByt.getD 2 []).getD j 0)) ∈ flatC (Jvm.Cond.and given_1 narrow_1) := pk_of (gs := [249, 0, 0]) (X := fun j => Cond.eq (.elem (.field (.string RX4 230) "java/lang/String" "value" "[B") (.int (Int32.ofNat j))) (.int ((sByt.getD 2 []).getD j 0))) rfl
set_option maxRecDepth 1000000 in
theorem zs_el_3 : ∀ j, j < 4 → Cond.eq (.elem (.field (.string RX4 232) "java/lang/String" "value" "[B") (.int (Int32.ofNat j))) (.int ((sByt.getD 3 []).getD j 0)) ∈ flatC (Jvm.Cond.and given_1 narrow_1) := pk_of (gs := [258, 0, 0, 0]) (X := fun j => Cond.eq (.elem (.field (.string RX4 232) "java/lang/String" "value" "[B") (.int (Int32.ofNat j))) (.int ((sByt.getD 3 []).getD j 0))) rfl
set_option maxRecDepth 1000000 in
theorem zs_el_4 : ∀ j, j < 5 → Cond.eq (.elem (.field (.string RX4 233) "java/lang/String" "value" "[B") (.int (Int32.ofNat j))) (.int ((sByt.getD 4 []).getD j 0)) ∈ flatC (Jvm.Cond.and given_1 narrow_1) := pk_of (gs := [269, 0, 0, 0, 0]) (X := fun j => Cond.eq (.elem (.field (.string RX4 233) "java/lang/String" "value" "[B") (.int (Int32.ofNat j))) (.int ((sByt.getD 4 []).getD j 0))) rfl
set_option maxRecDepth 1000000 in
theorem zs_el_5 : ∀ j, j < 3 → Cond.eq (.elem (.field (.string RX4 234) "java/lang/String" "value" "[B") (.int (Int32.ofNat j))) (.int ((sByt.getD 5 []).getD j 0)) ∈ flatC (Jvm.Cond.and given_1 narrow_1) := pk_of (gs := [282, 0, 0]) (X := fun j => Cond.eq (.elem (.field (.string RX4 234) "java/lang/String" "value" "[B") (.int (Int32.ofNat j))) (.int ((sByt.getD 5 []).getD j 0))) rfl
set_option maxRecDepth 1000000 in
theorem zs_el_6 : ∀ j, j < 4 → Cond.eq (.elem (.field (.string RX4 236) "java/lang/String" "value" "[B") (.int (Int32.ofNat j))) (.int ((sByt.getD 6 []).getD j 0)) ∈ flatC (Jvm.Cond.and given_1 narrow_1) := pk_of (gs := [294, 0, 0, 0]) (X := fun j => Cond.eq (.elem (.field (.string RX4 236) "java/lang/String" "value" "[B") (.int (Int32.ofNat j))) (.int ((sByt.getD 6 []).getD j 0))) rfl
set_option maxRecDepth 1000000 in
theorem zs_el_7 : ∀ j, j < 6 → Cond.eq (.elem (.field (.string RX4 238) "java/lang/String" "value" "[B") (.int (Int32.ofNat j))) (.int ((sByt.getD 7 []).getD j 0)) ∈ flatC (Jvm.Cond.and given_1 narrow_1) := pk_of (gs := [308, 0, 0, 0, 0, 0]) (X := fun j => Cond.eq (.elem (.field (.string RX4 238) "java/lang/String" "value" "[B") (.int (Int32.ofNat j))) (.int ((sByt.getD 7 []).getD j 0))) rfl
set_option maxRecDepth 1000000 in
theorem zs_el_8 : ∀ j, j < 6 → Cond.eq (.elem (.field (.string RX4 240) "java/lang/String" "value" "[B") (.int (Int32.ofNat j))) (.int ((sByt.getD 8 []).getD j 0)) ∈ flatC (Jvm.Cond.and given_1 narrow_1) := pk_of (gs := [325, 0, 0, 0, 0, 0]) (X := fun j => Cond.eq (.elem (.field (.string RX4 240) "java/lang/String" "value" "[B") (.int (Int32.ofNat j))) (.int ((sByt.getD 8 []).getD j 0))) rfl
set_option maxRecDepth 1000000 in
theorem zs_el_9 : ∀ j, j < 5 → Cond.eq (.elem (.field (.string RX4 242) "java/lang/String" "value" "[B") (.int (Int32.ofNat j))) (.int ((sByt.getD 9 []).getD j 0)) ∈ flatC (Jvm.Cond.and given_1 narrow_1) := pk_of (gs := [343, 0, 0, 0, 0]) (X := fun j => Cond.eq (.elem (.field (.string RX4 242) "java/lang/String" "value" "[B") (.int (Int32.ofNat j))) (.int ((sByt.getD 9 []).getD j 0))) rfl
set_option maxRecDepth 1000000 in
theorem zs_el_10 : ∀ j, j < 5 → Cond.eq (.elem (.field (.string RX4 244) "java/lang/String" "value" "[B") (.int (Int32.ofNat j))) (.int ((sByt.getD 10 []).getD j 0)) ∈ flatC (Jvm.Cond.and given_1 narrow_1) := pk_of (gs := [361, 0, 0, 0, 0]) (X := fun j => Cond.eq (.elem (.field (.string RX4 244) "java/lang/String" "value" "[B") (.int (Int32.ofNat j))) (.int ((sByt.getD 10 []).getD j 0))) rfl
set_option maxRecDepth 1000000 in
theorem zs_el_11 : ∀ j, j < 4 → Cond.eq (.elem (.field (.string RX4 246) "java/lang/String" "value" "[B") (.int (Int32.ofNat j))) (.int ((sByt.getD 11 []).getD j 0)) ∈ flatC (Jvm.Cond.and given_1 narrow_1) := pk_of (gs := [380, 0, 0, 0]) (X := fun j => Cond.eq (.elem (.field (.string RX4 246) "java/lang/String" "value" "[B") (.int (Int32.ofNat j))) (.int ((sByt.getD 11 []).getD j 0))) rfl
set_option maxRecDepth 1000000 in
theorem zs_el_12 : ∀ j, j < 7 → Cond.eq (.elem (.field (.string RX4 248) "java/lang/String" "value" "[B") (.int (Int32.ofNat j))) (.int ((sByt.getD 12 []).getD j 0)) ∈ flatC (Jvm.Cond.and given_1 narrow_1) := pk_of (gs := [399, 0, 0, 0, 0, 0, 0]) (X := fun j => Cond.eq (.elem (.field (.string RX4 248) "java/lang/String" "value" "[B") (.int (Int32.ofNat j))) (.int ((sByt.getD 12 []).getD j 0))) rfl
set_option maxRecDepth 1000000 in
theorem zs_el_13 : ∀ j, j < 4 → Cond.eq (.elem (.field (.string RX4 250) "java/lang/String" "value" "[B") (.int (Int32.ofNat j))) (.int ((sByt.getD 13 []).getD j 0)) ∈ flatC (Jvm.Cond.and given_1 narrow_1) := pk_of (gs := [422, 0, 0, 0]) (X := fun j => Cond.eq (.elem (.field (.string RX4 250) "java/lang/String" "value" "[B") (.int (Int32.ofNat j))) (.int ((sByt.getD 13 []).getD j 0))) rfl
set_option maxRecDepth 1000000 in
theorem zs_el_14 : ∀ j, j < 5 → Cond.eq (.elem (.field (.string RX4 252) "java/lang/String" "value" "[B") (.int (Int32.ofNat j))) (.int ((sByt.getD 14 []).getD j 0)) ∈ flatC (Jvm.Cond.and given_1 narrow_1) := pk_of (gs := [443, 0, 0, 0, 0]) (X := fun j => Cond.eq (.elem (.field (.string RX4 252) "java/lang/String" "value" "[B") (.int (Int32.ofNat j))) (.int ((sByt.getD 14 []).getD j 0))) rfl
set_option maxRecDepth 1000000 in
theorem zs_el_15 : ∀ j, j < 7 → Cond.eq (.elem (.field (.string RX4 254) "java/lang/String" "value" "[B") (.int (Int32.ofNat j))) (.int ((sByt.getD 15 []).getD j 0)) ∈ flatC (Jvm.Cond.and given_1 narrow_1) := pk_of (gs := [466, 0, 0, 0, 0, 0, 0]) (X := fun j => Cond.eq (.elem (.field (.string RX4 254) "java/lang/String" "value" "[B") (.int (Int32.ofNat j))) (.int ((sByt.getD 15 []).getD j 0))) rfl
set_option maxRecDepth 1000000 in
theorem zs_el_16 : ∀ j, j < 5 → Cond.eq (.elem (.field (.string RX4 256) "java/lang/String" "value" "[B") (.int (Int32.ofNat j))) (.int ((sByt.getD 16 []).getD j 0)) ∈ flatC (Jvm.Cond.and given_1 narrow_1) := pk_of (gs := [492, 0, 0, 0, 0]) (X := fun j => Cond.eq (.elem (.field (.string RX4 256) "java/lang/String" "value" "[B") (.int (Int32.ofNat j))) (.int ((sByt.getD 16 []).getD j 0))) rfl
set_option maxRecDepth 1000000 in
theorem zs_el_17 : ∀ j, j < 4 → Cond.eq (.elem (.field (.string RX4 258) "java/lang/String" "value" "[B") (.int (Int32.ofNat j))) (.int ((sByt.getD 17 []).getD j 0)) ∈ flatC (Jvm.Cond.and given_1 narrow_1) := pk_of (gs := [517, 0, 0, 0]) (X := fun j => Cond.eq (.elem (.field (.string RX4 258) "java/lang/String" "value" "[B") (.int (Int32.ofNat j))) (.int ((sByt.getD 17 []).getD j 0))) rfl
set_option maxRecDepth 1000000 in
theorem zs_el_18 : ∀ j, j < 5 → Cond.eq (.elem (.field (.string RX4 260) "java/lang/String" "value" "[B") (.int (Int32.ofNat j))) (.int ((sByt.getD 18 []).getD j 0)) ∈ flatC (Jvm.Cond.and given_1 narrow_1) := pk_of (gs := [542, 0, 0, 0, 0]) (X := fun j => Cond.eq (.elem (.field (.string RX4 260) "java/lang/String" "value" "[B") (.int (Int32.ofNat j))) (.int ((sByt.getD 18 []).getD j 0))) rfl
set_option maxRecDepth 1000000 in
theorem zs_el_19 : ∀ j, j < 4 → Cond.eq (.elem (.field (.string RX4 262) "java/lang/String" "value" "[B") (.int (Int32.ofNat j))) (.int ((sByt.getD 19 []).getD j 0)) ∈ flatC (Jvm.Cond.and given_1 narrow_1) := pk_of (gs := [569, 0, 0, 0]) (X := fun j => Cond.eq (.elem (.field (.string RX4 262) "java/lang/String" "value" "[B") (.int (Int32.ofNat j))) (.int ((sByt.getD 19 []).getD j 0))) rfl
theorem zs_el : ∀ i, i < 20 → ∀ j, j < sLen.getD i 0 → Cond.eq (.elem (.field (.string RX4 (sEnt.getD i 0)) "java/lang/String" "value" "[B") (.int (Int32.ofNat j))) (.int ((sByt.getD i []).getD j 0)) ∈ flatC (Jvm.Cond.and given_1 narrow_1) := fun i hi => match i, hi with
  | 0, _ => zs_el_0
  | 1, _ => zs_el_1
  | 2, _ => zs_el_2
  | 3, _ => zs_el_3
  | 4, _ => zs_el_4
  | 5, _ => zs_el_5
  | 6, _ => zs_el_6
  | 7, _ => zs_el_7
  | 8, _ => zs_el_8
  | 9, _ => zs_el_9
  | 10, _ => zs_el_10
  | 11, _ => zs_el_11
  | 12, _ => zs_el_12
  | 13, _ => zs_el_13
  | 14, _ => zs_el_14
  | 15, _ => zs_el_15
  | 16, _ => zs_el_16
  | 17, _ => zs_el_17
  | 18, _ => zs_el_18
  | 19, _ => zs_el_19
  | i + 20, h => absurd h (by omega)
