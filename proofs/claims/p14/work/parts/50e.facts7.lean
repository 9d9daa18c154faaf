/-! ===== facts: Math on floats ===== -/
theorem jX9_41 : am_cJ RX9 41 ⟨"java/lang/Math", "abs", "(F)F"⟩ cJ9_abs_f6c48 1 (some .float) := ⟨am_t6 46 rfl rfl, am_t6 47 rfl rfl, am_t1 20 rfl rfl, am_t6 48 rfl rfl⟩
theorem jX9_64 : am_cJ RX9 64 ⟨"java/lang/Math", "max", "(FF)F"⟩ cJ9_max_e70c8 2 (some .float) := ⟨am_t6 56 rfl rfl, am_t6 57 rfl rfl, am_t1 20 rfl rfl, am_t6 58 rfl rfl⟩
theorem jX12_172 : am_cJ RX12 172 ⟨"java/lang/Math", "abs", "(F)F"⟩ cJ9_abs_f6c48 1 (some .float) := ⟨am_t6 148 rfl rfl, am_t6 47 rfl rfl, am_t1 20 rfl rfl, am_t6 48 rfl rfl⟩
theorem jX12_290 : am_cJ RX12 290 ⟨"java/lang/Math", "min", "(FF)F"⟩ cJ9_min_e70c8 2 (some .float) := ⟨am_t7 5 rfl rfl, am_t7 6 rfl rfl, am_t1 20 rfl rfl, am_t7 7 rfl rfl⟩
theorem jX12_294 : am_cJ RX12 294 ⟨"java/lang/Math", "max", "(FF)F"⟩ cJ9_max_e70c8 2 (some .float) := ⟨am_t7 8 rfl rfl, am_t6 57 rfl rfl, am_t1 20 rfl rfl, am_t6 58 rfl rfl⟩
