/-! ===== facts: throws, handlers ===== -/
theorem wX7_63 : ∀ w ∈ vx_atS RX7 63 "java/lang/IllegalArgumentException" am_nms, w ∈ am_W ∨ w ∈ am_fW := am_tw RX7 63 "java/lang/IllegalArgumentException" (by decide +kernel)
theorem tX7_59_61 : am_Tw RX7 59 61 63 0 := ⟨by decide +kernel, am_t2 52 rfl rfl, am_t1 12 rfl rfl, ⟨"no such area", by decide +kernel⟩, wX7_63⟩
theorem wX7_73 : ∀ w ∈ vx_atS RX7 73 "java/lang/IllegalStateException" am_nms, w ∈ am_W ∨ w ∈ am_fW := am_tw RX7 73 "java/lang/IllegalStateException" (by decide +kernel)
theorem tX7_69_71 : am_Tw RX7 69 71 73 1 := ⟨by decide +kernel, am_t2 120 rfl rfl, am_t1 13 rfl rfl, ⟨"all areas are told", by decide +kernel⟩, wX7_73⟩
theorem tX7_59_78 : am_Tw RX7 59 78 63 0 := ⟨by decide +kernel, am_t2 52 rfl rfl, am_t1 12 rfl rfl, ⟨"dial is not 1 to 4", by decide +kernel⟩, wX7_63⟩
theorem tX7_59_80 : am_Tw RX7 59 80 63 0 := ⟨by decide +kernel, am_t2 52 rfl rfl, am_t1 12 rfl rfl, ⟨"limit is not 1 to 30", by decide +kernel⟩, wX7_63⟩
theorem tX7_59_82 : am_Tw RX7 59 82 63 0 := ⟨by decide +kernel, am_t2 52 rfl rfl, am_t1 12 rfl rfl, ⟨"heat is not -30 to 30", by decide +kernel⟩, wX7_63⟩
theorem wX7_167 : ∀ w ∈ vx_atS RX7 167 "java/lang/IndexOutOfBoundsException" am_nms, w ∈ am_W ∨ w ∈ am_fW := am_tw RX7 167 "java/lang/IndexOutOfBoundsException" (by decide +kernel)
theorem tX7_163_236 : am_Tw RX7 163 236 167 2 := ⟨by decide +kernel, am_t2 213 rfl rfl, am_t1 15 rfl rfl, ⟨"x is not 0 to 7", by decide +kernel⟩, wX7_167⟩
theorem tX7_163_238 : am_Tw RX7 163 238 167 2 := ⟨by decide +kernel, am_t2 213 rfl rfl, am_t1 15 rfl rfl, ⟨"y is not 0 to 5", by decide +kernel⟩, wX7_167⟩
theorem tX7_59_240 : am_Tw RX7 59 240 63 0 := ⟨by decide +kernel, am_t2 52 rfl rfl, am_t1 12 rfl rfl, ⟨"strength is not 1 to 200", by decide +kernel⟩, wX7_63⟩
theorem tX7_59_110 : am_Tw RX7 59 110 63 0 := ⟨by decide +kernel, am_t2 52 rfl rfl, am_t1 12 rfl rfl, ⟨"much is not -40 to 40", by decide +kernel⟩, wX7_63⟩
theorem tX7_59_242 : am_Tw RX7 59 242 63 0 := ⟨by decide +kernel, am_t2 52 rfl rfl, am_t1 12 rfl rfl, ⟨"what is not told of", by decide +kernel⟩, wX7_63⟩
theorem tX7_163_244 : am_Tw RX7 163 244 167 2 := ⟨by decide +kernel, am_t2 213 rfl rfl, am_t1 15 rfl rfl, ⟨"no contact of that name", by decide +kernel⟩, wX7_167⟩
theorem tX7_163_165 : am_Tw RX7 163 165 167 2 := ⟨by decide +kernel, am_t2 213 rfl rfl, am_t1 15 rfl rfl, ⟨"no such peak", by decide +kernel⟩, wX7_167⟩
theorem tX7_59_198 : am_Tw RX7 59 198 63 0 := ⟨by decide +kernel, am_t2 52 rfl rfl, am_t1 12 rfl rfl, ⟨"ahead is not 0 to 9", by decide +kernel⟩, wX7_63⟩
theorem tX7_163_61 : am_Tw RX7 163 61 167 2 := ⟨by decide +kernel, am_t2 213 rfl rfl, am_t1 15 rfl rfl, ⟨"no such area", by decide +kernel⟩, wX7_167⟩
theorem fc_0 : Cond.castable (am_E 0) "java/lang/IllegalArgumentException" ∈ am_fW := List.mem_filter.mpr ⟨List.mem_of_getElem? (i := 321) (by decide +kernel), by decide +kernel⟩
theorem fc_1 : Cond.castable (am_E 1) "java/lang/IllegalStateException" ∈ am_fW := List.mem_filter.mpr ⟨List.mem_of_getElem? (i := 389) (by decide +kernel), by decide +kernel⟩
theorem fc_2 : Cond.castable (am_E 2) "java/lang/IndexOutOfBoundsException" ∈ am_fW := List.mem_filter.mpr ⟨List.mem_of_getElem? (i := 482) (by decide +kernel), by decide +kernel⟩
theorem gL_frames : am_GW mL_frames 2 := ⟨by decide +kernel, am_t3 210 rfl rfl, am_t1 0 rfl rfl, ⟨by decide +kernel, by decide +kernel⟩, by decide +kernel⟩
theorem lL_79 : am_cSW "PalmwardLaw" 79 mL_frames 2 := ⟨gL_frames, am_t3 208 rfl rfl, am_t3 209 rfl rfl⟩
