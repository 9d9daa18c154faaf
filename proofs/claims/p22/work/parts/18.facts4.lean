/-! ===== facts: throws, handlers ===== -/
theorem wX7_63 : ∀ w ∈ vx_atS RX7 63 "java/lang/IllegalArgumentException" am_nms, w ∈ am_W ∨ w ∈ am_fW := am_tw RX7 63 "java/lang/IllegalArgumentException" (by decide +kernel)
theorem tX7_59_61 : am_Tw RX7 59 61 63 0 := ⟨by decide +kernel, am_t3 144 rfl rfl, am_t1 16 rfl rfl, ⟨"no such area", by decide +kernel⟩, wX7_63⟩
theorem wX7_73 : ∀ w ∈ vx_atS RX7 73 "java/lang/IllegalStateException" am_nms, w ∈ am_W ∨ w ∈ am_fW := am_tw RX7 73 "java/lang/IllegalStateException" (by decide +kernel)
theorem tX7_69_71 : am_Tw RX7 69 71 73 1 := ⟨by decide +kernel, am_t3 212 rfl rfl, am_t1 17 rfl rfl, ⟨"all areas are told", by decide +kernel⟩, wX7_73⟩
theorem tX7_59_78 : am_Tw RX7 59 78 63 0 := ⟨by decide +kernel, am_t3 144 rfl rfl, am_t1 16 rfl rfl, ⟨"dial is not 1 to 4", by decide +kernel⟩, wX7_63⟩
theorem tX7_59_80 : am_Tw RX7 59 80 63 0 := ⟨by decide +kernel, am_t3 144 rfl rfl, am_t1 16 rfl rfl, ⟨"limit is not 1 to 30", by decide +kernel⟩, wX7_63⟩
theorem tX7_59_82 : am_Tw RX7 59 82 63 0 := ⟨by decide +kernel, am_t3 144 rfl rfl, am_t1 16 rfl rfl, ⟨"heat is not -30 to 30", by decide +kernel⟩, wX7_63⟩
theorem wX7_167 : ∀ w ∈ vx_atS RX7 167 "java/lang/IndexOutOfBoundsException" am_nms, w ∈ am_W ∨ w ∈ am_fW := am_tw RX7 167 "java/lang/IndexOutOfBoundsException" (by decide +kernel)
theorem tX7_163_236 : am_Tw RX7 163 236 167 2 := ⟨by decide +kernel, am_t4 27 rfl rfl, am_t1 23 rfl rfl, ⟨"x is not 0 to 7", by decide +kernel⟩, wX7_167⟩
theorem tX7_163_238 : am_Tw RX7 163 238 167 2 := ⟨by decide +kernel, am_t4 27 rfl rfl, am_t1 23 rfl rfl, ⟨"y is not 0 to 5", by decide +kernel⟩, wX7_167⟩
theorem tX7_59_240 : am_Tw RX7 59 240 63 0 := ⟨by decide +kernel, am_t3 144 rfl rfl, am_t1 16 rfl rfl, ⟨"strength is not 1 to 200", by decide +kernel⟩, wX7_63⟩
theorem tX7_59_110 : am_Tw RX7 59 110 63 0 := ⟨by decide +kernel, am_t3 144 rfl rfl, am_t1 16 rfl rfl, ⟨"much is not -40 to 40", by decide +kernel⟩, wX7_63⟩
theorem tX7_59_242 : am_Tw RX7 59 242 63 0 := ⟨by decide +kernel, am_t3 144 rfl rfl, am_t1 16 rfl rfl, ⟨"what is not told of", by decide +kernel⟩, wX7_63⟩
theorem tX7_163_165 : am_Tw RX7 163 165 167 2 := ⟨by decide +kernel, am_t4 27 rfl rfl, am_t1 23 rfl rfl, ⟨"no such peak", by decide +kernel⟩, wX7_167⟩
theorem tX7_163_244 : am_Tw RX7 163 244 167 2 := ⟨by decide +kernel, am_t4 27 rfl rfl, am_t1 23 rfl rfl, ⟨"no contact of that name", by decide +kernel⟩, wX7_167⟩
theorem tX7_163_61 : am_Tw RX7 163 61 167 2 := ⟨by decide +kernel, am_t4 27 rfl rfl, am_t1 23 rfl rfl, ⟨"no such area", by decide +kernel⟩, wX7_167⟩
theorem tX7_59_198 : am_Tw RX7 59 198 63 0 := ⟨by decide +kernel, am_t3 144 rfl rfl, am_t1 16 rfl rfl, ⟨"ahead is not 0 to 9", by decide +kernel⟩, wX7_63⟩
theorem zJx4a65c_39 : Cond.fieldLink RJx4a65c 39 "java/util/ArrayList" "DEFAULTCAPACITY_EMPTY_ELEMENTDATA" "[Ljava/lang/Object;" ∈ am_W := am_t4 186 rfl rfl
theorem vX10_55 : Cond.methodLink RX10 55 arraycopyName ∈ am_W ∧ Cond.native arraycopyName ∈ am_W ∧ Cond.static arraycopyName ∈ am_W ∧ Cond.initialized "java/lang/System" ∈ am_W := ⟨am_t5 219 rfl rfl, am_t5 104 rfl rfl, am_t5 103 rfl rfl, am_t1 22 rfl rfl⟩
theorem foX8 : Cond.castable RX8 "java/lang/Object" ∈ am_fW := List.mem_filter.mpr ⟨List.mem_of_getElem? (i := 1557) (by decide +kernel), by decide +kernel⟩
theorem fc_0 : Cond.castable (am_E 0) "java/lang/IllegalArgumentException" ∈ am_fW := List.mem_filter.mpr ⟨List.mem_of_getElem? (i := 685) (by decide +kernel), by decide +kernel⟩
theorem fc_1 : Cond.castable (am_E 1) "java/lang/IllegalStateException" ∈ am_fW := List.mem_filter.mpr ⟨List.mem_of_getElem? (i := 753) (by decide +kernel), by decide +kernel⟩
theorem fc_2 : Cond.castable (am_E 2) "java/lang/IndexOutOfBoundsException" ∈ am_fW := List.mem_filter.mpr ⟨List.mem_of_getElem? (i := 808) (by decide +kernel), by decide +kernel⟩
theorem gL_area : am_GW mL_area 6 := ⟨by decide +kernel, am_t3 137 rfl rfl, am_t1 0 rfl rfl, ⟨by decide +kernel, by decide +kernel⟩, by decide +kernel⟩
theorem gL_dial : am_GW mL_dial 3 := ⟨by decide +kernel, am_t3 234 rfl rfl, am_t1 0 rfl rfl, ⟨by decide +kernel, by decide +kernel⟩, by decide +kernel⟩
theorem gL_limit : am_GW mL_limit 3 := ⟨by decide +kernel, am_t4 2 rfl rfl, am_t1 0 rfl rfl, ⟨by decide +kernel, by decide +kernel⟩, by decide +kernel⟩
theorem gL_heat : am_GW mL_heat 3 := ⟨by decide +kernel, am_t4 10 rfl rfl, am_t1 0 rfl rfl, ⟨by decide +kernel, by decide +kernel⟩, by decide +kernel⟩
theorem gL_press : am_GW mL_press 5 := ⟨by decide +kernel, am_t4 18 rfl rfl, am_t1 0 rfl rfl, ⟨by decide +kernel, by decide +kernel⟩, by decide +kernel⟩
theorem gL_noise : am_GW mL_noise 4 := ⟨by decide +kernel, am_t4 59 rfl rfl, am_t1 0 rfl rfl, ⟨by decide +kernel, by decide +kernel⟩, by decide +kernel⟩
theorem gL_ofCell : am_GW mL_ofCell 5 := ⟨by decide +kernel, am_t4 71 rfl rfl, am_t1 0 rfl rfl, ⟨by decide +kernel, by decide +kernel⟩, by decide +kernel⟩
theorem gL_ofPeak : am_GW mL_ofPeak 4 := ⟨by decide +kernel, am_t4 82 rfl rfl, am_t1 0 rfl rfl, ⟨by decide +kernel, by decide +kernel⟩, by decide +kernel⟩
theorem gL_ofContact : am_GW mL_ofContact 4 := ⟨by decide +kernel, am_t4 90 rfl rfl, am_t1 0 rfl rfl, ⟨by decide +kernel, by decide +kernel⟩, by decide +kernel⟩
theorem gL_where : am_GW mL_where 4 := ⟨by decide +kernel, am_t4 102 rfl rfl, am_t1 0 rfl rfl, ⟨by decide +kernel, by decide +kernel⟩, by decide +kernel⟩
theorem gL_apart : am_GW mL_apart 4 := ⟨by decide +kernel, am_t4 109 rfl rfl, am_t1 0 rfl rfl, ⟨by decide +kernel, by decide +kernel⟩, by decide +kernel⟩
theorem gL_ofRow : am_GW mL_ofRow 4 := ⟨by decide +kernel, am_t4 117 rfl rfl, am_t1 0 rfl rfl, ⟨by decide +kernel, by decide +kernel⟩, by decide +kernel⟩
theorem gL_ofArea : am_GW mL_ofArea 4 := ⟨by decide +kernel, am_t4 124 rfl rfl, am_t1 0 rfl rfl, ⟨by decide +kernel, by decide +kernel⟩, by decide +kernel⟩
theorem gL_many : am_GW mL_many 3 := ⟨by decide +kernel, am_t4 131 rfl rfl, am_t1 0 rfl rfl, ⟨by decide +kernel, by decide +kernel⟩, by decide +kernel⟩
theorem gL_guess : am_GW mL_guess 5 := ⟨by decide +kernel, am_t4 138 rfl rfl, am_t1 0 rfl rfl, ⟨by decide +kernel, by decide +kernel⟩, by decide +kernel⟩
theorem gL_wouldMatch : am_GW mL_wouldMatch 3 := ⟨by decide +kernel, am_t4 146 rfl rfl, am_t1 0 rfl rfl, ⟨by decide +kernel, by decide +kernel⟩, by decide +kernel⟩
theorem gL_keepBy : am_GW mL_keepBy 4 := ⟨by decide +kernel, am_t4 153 rfl rfl, am_t1 0 rfl rfl, ⟨by decide +kernel, by decide +kernel⟩, by decide +kernel⟩
