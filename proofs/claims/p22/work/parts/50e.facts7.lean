/-! ===== facts: Math on floats ===== -/
theorem jX9_41 : am_cJ RX9 41 ⟨"java/lang/Math", "abs", "(F)F"⟩ cJ9_abs_f6c48 1 (some .float) := ⟨am_t6 42 rfl rfl, am_t6 43 rfl rfl, am_t1 20 rfl rfl, am_t6 44 rfl rfl⟩
theorem jX9_64 : am_cJ RX9 64 ⟨"java/lang/Math", "max", "(FF)F"⟩ cJ9_max_e70c8 2 (some .float) := ⟨am_t6 52 rfl rfl, am_t6 53 rfl rfl, am_t1 20 rfl rfl, am_t6 54 rfl rfl⟩
theorem jX12_172 : am_cJ RX12 172 ⟨"java/lang/Math", "abs", "(F)F"⟩ cJ9_abs_f6c48 1 (some .float) := ⟨am_t6 144 rfl rfl, am_t6 43 rfl rfl, am_t1 20 rfl rfl, am_t6 44 rfl rfl⟩
theorem jX12_290 : am_cJ RX12 290 ⟨"java/lang/Math", "min", "(FF)F"⟩ cJ9_min_e70c8 2 (some .float) := ⟨am_t7 1 rfl rfl, am_t7 2 rfl rfl, am_t1 20 rfl rfl, am_t7 3 rfl rfl⟩
theorem jX12_294 : am_cJ RX12 294 ⟨"java/lang/Math", "max", "(FF)F"⟩ cJ9_max_e70c8 2 (some .float) := ⟨am_t7 4 rfl rfl, am_t6 53 rfl rfl, am_t1 20 rfl rfl, am_t6 54 rfl rfl⟩
