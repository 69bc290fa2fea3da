theorem zs_t0 : ∀ j, j < 5 → Cond.eq (.elem (.static RX4 "FIRST_WORDS" "[I") (.int (Int32.ofNat j))) (.int (tbf_0 j)) ∈ flatC (Jvm.Cond.and given_1 narrow_1) := by decide +kernel
theorem zs_t1 : ∀ j, j < 20 → Cond.eq (.elem (.static RX4 "NUMBERS" "[I") (.int (Int32.ofNat j))) (.int (tbf_1 j)) ∈ flatC (Jvm.Cond.and given_1 narrow_1) := by decide +kernel
theorem zs_t2 : ∀ j, j < 60 → Cond.eq (.elem (.static RX4 "LEAST" "[I") (.int (Int32.ofNat j))) (.int (tbf_2 j)) ∈ flatC (Jvm.Cond.and given_1 narrow_1) := by decide +kernel
theorem zs_t3 : ∀ j, j < 60 → Cond.eq (.elem (.static RX4 "MOST" "[I") (.int (Int32.ofNat j))) (.int (tbf_3 j)) ∈ flatC (Jvm.Cond.and given_1 narrow_1) := by decide +kernel
theorem zs_ex : ∀ i, i < 20 → Cond.exactly (.string RX4 (sEnt.getD i 0)) "java/lang/String" ∈ flatC (Jvm.Cond.and given_1 narrow_1) := by decide +kernel
theorem zs_co : ∀ i, i < 20 → Cond.eq (.field (.string RX4 (sEnt.getD i 0)) "java/lang/String" "coder" "B") (.int 0) ∈ flatC (Jvm.Cond.and given_1 narrow_1) := by decide +kernel
theorem zs_ar : ∀ i, i < 20 → Cond.arrayOf (.field (.string RX4 (sEnt.getD i 0)) "java/lang/String" "value" "[B") .byte ∈ flatC (Jvm.Cond.and given_1 narrow_1) := by decide +kernel
theorem zs_le : ∀ i, i < 20 → Cond.eq (.length (.field (.string RX4 (sEnt.getD i 0)) "java/lang/String" "value" "[B")) (.int (Int32.ofNat (sLen.getD i 0))) ∈ flatC (Jvm.Cond.and given_1 narrow_1) := by decide +kernel
