/-! ===== facts: fields of a nest mate ===== -/
theorem fnX10_61 : am_FN RX10 61 12 6 := ⟨RX12, TX12, 13, "PalmwardModel", rfl, by decide, by decide +kernel, uX12⟩
