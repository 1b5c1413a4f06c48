/-! how fields, methods and constants are linked -/
theorem inX0 : ∀ z ∈ u_ws RX0 TX0 4, z ∈ mzT := by decide +kernel
theorem inX1 : ∀ z ∈ u_ws RX1 TX1 9, z ∈ mzT := by decide +kernel
theorem inX2 : ∀ z ∈ u_ws RX2 TX2 4, z ∈ mzT := by decide +kernel
theorem inX3 : ∀ z ∈ u_ws RX3 TX3 3, z ∈ mzT := by decide +kernel
theorem inX4 : ∀ z ∈ u_ws RX4 TX4 3, z ∈ mzT := by decide +kernel
theorem inX5 : ∀ z ∈ u_ws RX5 TX5 2, z ∈ mzT := by decide +kernel
theorem inX6 : ∀ z ∈ u_ws RX6 TX6 5, z ∈ mzT := by decide +kernel
theorem inX7 : ∀ z ∈ u_ws RX7 TX7 14, z ∈ mzT := by decide +kernel
theorem inX8 : ∀ z ∈ u_ws RX8 TX8 29, z ∈ mzT := by decide +kernel
theorem lkS_8_83 : mzLkS 8 83 yX8_in := ⟨Or.inl (mzT_at 887 (by decide +kernel) rfl), mzT_at 888 (by decide +kernel) rfl, mzT_at 82 (by decide +kernel) rfl⟩
theorem kc_8_81 : Jvm.Cond.constantLong (mzcn 8) 81 (-9223372036854775808) ∈ mzT := mzT_at 1174 (by decide +kernel) rfl
