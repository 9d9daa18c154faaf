/-! ===== the law: facts of its own body ===== -/
abbrev mL_law : am_M := (yL_law, code, 9, (some .boolean), [], 2048, 84000)
theorem cL_13 : Cond.classLink "PalmwardLaw" 13 "java/lang/IllegalArgumentException" ∈ am_W := am_t3 138 rfl rfl
theorem cL_15 : Cond.classLink "PalmwardLaw" 15 "java/lang/IllegalStateException" ∈ am_W := am_t3 139 rfl rfl
theorem cL_31 : Cond.classLink "PalmwardLaw" 31 "java/lang/IndexOutOfBoundsException" ∈ am_W := am_t4 19 rfl rfl
theorem lL_72 : am_cI "PalmwardLaw" 72 mX7_init 0 := ⟨gX7_init, am_t1 34 rfl rfl, am_t1 35 rfl rfl, rfl, rfl⟩
theorem lL_75 : am_cI "PalmwardLaw" 75 mX12_init 0 := ⟨gX12_init, am_t4 168 rfl rfl, am_t4 169 rfl rfl, rfl, rfl⟩
theorem lL_76 : am_cSW "PalmwardLaw" 76 mL_area 6 := ⟨gL_area, am_t3 135 rfl rfl, am_t3 136 rfl rfl⟩
theorem lL_81 : am_cV "PalmwardLaw" 81 mX12_area 4 12 := ⟨gX12_area, am_t5 1 rfl rfl, am_t5 2 rfl rfl, am_t5 3 rfl rfl, _, rfl, rfl⟩
theorem lL_82 : am_cSW "PalmwardLaw" 82 mL_dial 3 := ⟨gL_dial, am_t3 232 rfl rfl, am_t3 233 rfl rfl⟩
theorem lL_85 : am_cV "PalmwardLaw" 85 mX12_dial 1 12 := ⟨gX12_dial, am_t5 107 rfl rfl, am_t5 108 rfl rfl, am_t5 109 rfl rfl, _, rfl, rfl⟩
theorem lL_86 : am_cSW "PalmwardLaw" 86 mL_limit 3 := ⟨gL_limit, am_t4 0 rfl rfl, am_t4 1 rfl rfl⟩
theorem lL_88 : am_cV "PalmwardLaw" 88 mX12_limit 1 12 := ⟨gX12_limit, am_t5 111 rfl rfl, am_t5 112 rfl rfl, am_t5 113 rfl rfl, _, rfl, rfl⟩
theorem lL_89 : am_cSW "PalmwardLaw" 89 mL_heat 3 := ⟨gL_heat, am_t4 8 rfl rfl, am_t4 9 rfl rfl⟩
theorem lL_91 : am_cV "PalmwardLaw" 91 mX12_heat 1 12 := ⟨gX12_heat, am_t5 115 rfl rfl, am_t5 116 rfl rfl, am_t5 117 rfl rfl, _, rfl, rfl⟩
theorem lL_92 : am_cSW "PalmwardLaw" 92 mL_press 5 := ⟨gL_press, am_t4 16 rfl rfl, am_t4 17 rfl rfl⟩
theorem lL_95 : am_cV "PalmwardLaw" 95 mX12_press 3 12 := ⟨gX12_press, am_t5 119 rfl rfl, am_t5 120 rfl rfl, am_t5 121 rfl rfl, _, rfl, rfl⟩
theorem lL_96 : am_cSW "PalmwardLaw" 96 mL_noise 4 := ⟨gL_noise, am_t4 57 rfl rfl, am_t4 58 rfl rfl⟩
theorem lL_99 : am_cV "PalmwardLaw" 99 mX12_noise 2 12 := ⟨gX12_noise, am_t5 136 rfl rfl, am_t5 137 rfl rfl, am_t5 138 rfl rfl, _, rfl, rfl⟩
theorem lL_100 : am_cV "PalmwardLaw" 100 mX7_frame 0 7 := ⟨gX7_frame, am_t2 63 rfl rfl, am_t2 64 rfl rfl, am_t2 65 rfl rfl, _, rfl, rfl⟩
theorem lL_104 : am_cV "PalmwardLaw" 104 mX12_frame 0 12 := ⟨gX12_frame, am_t5 197 rfl rfl, am_t5 198 rfl rfl, am_t5 199 rfl rfl, _, rfl, rfl⟩
theorem lL_105 : am_cV "PalmwardLaw" 105 mX7_wipe 0 7 := ⟨gX7_wipe, am_t3 23 rfl rfl, am_t3 24 rfl rfl, am_t3 25 rfl rfl, _, rfl, rfl⟩
theorem lL_108 : am_cV "PalmwardLaw" 108 mX12_wipe 0 12 := ⟨gX12_wipe, am_t6 167 rfl rfl, am_t6 168 rfl rfl, am_t6 169 rfl rfl, _, rfl, rfl⟩
theorem lL_109 : am_cSW "PalmwardLaw" 109 mL_ofCell 5 := ⟨gL_ofCell, am_t4 69 rfl rfl, am_t4 70 rfl rfl⟩
theorem lL_111 : am_cV "PalmwardLaw" 111 mX12_ofCell 3 12 := ⟨gX12_ofCell, am_t6 171 rfl rfl, am_t6 172 rfl rfl, am_t6 173 rfl rfl, _, rfl, rfl⟩
theorem lL_112 : am_cSW "PalmwardLaw" 112 mL_ofPeak 4 := ⟨gL_ofPeak, am_t4 80 rfl rfl, am_t4 81 rfl rfl⟩
theorem lL_114 : am_cV "PalmwardLaw" 114 mX12_ofPeak 2 12 := ⟨gX12_ofPeak, am_t6 180 rfl rfl, am_t6 181 rfl rfl, am_t6 182 rfl rfl, _, rfl, rfl⟩
theorem lL_115 : am_cSW "PalmwardLaw" 115 mL_ofContact 4 := ⟨gL_ofContact, am_t4 88 rfl rfl, am_t4 89 rfl rfl⟩
theorem lL_117 : am_cV "PalmwardLaw" 117 mX12_ofContact 2 12 := ⟨gX12_ofContact, am_t6 187 rfl rfl, am_t6 188 rfl rfl, am_t6 189 rfl rfl, _, rfl, rfl⟩
theorem lL_118 : am_cSW "PalmwardLaw" 118 mL_where 4 := ⟨gL_where, am_t4 100 rfl rfl, am_t4 101 rfl rfl⟩
theorem lL_121 : am_cV "PalmwardLaw" 121 mX12_where 2 12 := ⟨gX12_where, am_t6 198 rfl rfl, am_t6 199 rfl rfl, am_t6 200 rfl rfl, _, rfl, rfl⟩
theorem lL_122 : am_cSW "PalmwardLaw" 122 mL_apart 4 := ⟨gL_apart, am_t4 107 rfl rfl, am_t4 108 rfl rfl⟩
theorem lL_124 : am_cV "PalmwardLaw" 124 mX12_apart 2 12 := ⟨gX12_apart, am_t6 205 rfl rfl, am_t6 206 rfl rfl, am_t6 207 rfl rfl, _, rfl, rfl⟩
theorem lL_125 : am_cSW "PalmwardLaw" 125 mL_ofRow 4 := ⟨gL_ofRow, am_t4 115 rfl rfl, am_t4 116 rfl rfl⟩
theorem lL_127 : am_cV "PalmwardLaw" 127 mX12_ofRow 2 12 := ⟨gX12_ofRow, am_t6 209 rfl rfl, am_t6 210 rfl rfl, am_t6 211 rfl rfl, _, rfl, rfl⟩
theorem lL_128 : am_cSW "PalmwardLaw" 128 mL_ofArea 4 := ⟨gL_ofArea, am_t4 122 rfl rfl, am_t4 123 rfl rfl⟩
theorem lL_130 : am_cV "PalmwardLaw" 130 mX12_ofArea 2 12 := ⟨gX12_ofArea, am_t6 216 rfl rfl, am_t6 217 rfl rfl, am_t6 218 rfl rfl, _, rfl, rfl⟩
theorem lL_131 : am_cSW "PalmwardLaw" 131 mL_many 3 := ⟨gL_many, am_t4 129 rfl rfl, am_t4 130 rfl rfl⟩
theorem lL_133 : am_cV "PalmwardLaw" 133 mX12_many 1 12 := ⟨gX12_many, am_t6 224 rfl rfl, am_t6 225 rfl rfl, am_t6 226 rfl rfl, _, rfl, rfl⟩
theorem lL_134 : am_cSW "PalmwardLaw" 134 mL_guess 5 := ⟨gL_guess, am_t4 136 rfl rfl, am_t4 137 rfl rfl⟩
theorem lL_137 : am_cV "PalmwardLaw" 137 mX12_guess 3 12 := ⟨gX12_guess, am_t6 232 rfl rfl, am_t6 233 rfl rfl, am_t6 234 rfl rfl, _, rfl, rfl⟩
theorem lL_138 : am_cSW "PalmwardLaw" 138 mL_wouldMatch 3 := ⟨gL_wouldMatch, am_t4 144 rfl rfl, am_t4 145 rfl rfl⟩
theorem lL_140 : am_cV "PalmwardLaw" 140 mX12_wouldMatch 1 12 := ⟨gX12_wouldMatch, am_t7 5 rfl rfl, am_t7 6 rfl rfl, am_t7 7 rfl rfl, _, rfl, rfl⟩
theorem lL_141 : am_cV "PalmwardLaw" 141 mX7_calmIn 0 7 := ⟨gX7_calmIn, am_t3 35 rfl rfl, am_t3 36 rfl rfl, am_t3 37 rfl rfl, _, rfl, rfl⟩
theorem lL_144 : am_cV "PalmwardLaw" 144 mX12_calmIn 0 12 := ⟨gX12_calmIn, am_t7 13 rfl rfl, am_t7 14 rfl rfl, am_t7 15 rfl rfl, _, rfl, rfl⟩
theorem lL_145 : am_cSW "PalmwardLaw" 145 mL_keepBy 4 := ⟨gL_keepBy, am_t4 151 rfl rfl, am_t4 152 rfl rfl⟩
theorem lL_147 : am_cV "PalmwardLaw" 147 mX12_keepBy 2 12 := ⟨gX12_keepBy, am_t7 21 rfl rfl, am_t7 22 rfl rfl, am_t7 23 rfl rfl, _, rfl, rfl⟩
theorem lL_148 : am_cV "PalmwardLaw" 148 mX7_digest 0 7 := ⟨gX7_digest, am_t3 47 rfl rfl, am_t3 48 rfl rfl, am_t3 49 rfl rfl, _, rfl, rfl⟩
theorem lL_152 : am_cV "PalmwardLaw" 152 mX12_digest 0 12 := ⟨gX12_digest, am_t7 29 rfl rfl, am_t7 30 rfl rfl, am_t7 31 rfl rfl, _, rfl, rfl⟩
theorem dL_area_0 : decode cL_area 0 = .ok (.aload 5, 2) := by decide +kernel
theorem dL_area_2 : decode cL_area 2 = .ok (.iconst 0, 1) := by decide +kernel
theorem dL_area_3 : decode cL_area 3 = .ok (.aload_n 0, 1) := by decide +kernel
theorem dL_area_4 : decode cL_area 4 = .ok (.iload_n 1, 1) := by decide +kernel
theorem dL_area_5 : decode cL_area 5 = .ok (.iload_n 2, 1) := by decide +kernel
theorem dL_area_6 : decode cL_area 6 = .ok (.iload_n 3, 1) := by decide +kernel
theorem dL_area_7 : decode cL_area 7 = .ok (.iload 4, 2) := by decide +kernel
theorem dL_area_9 : decode cL_area 9 = .ok (.invokevirtual 7, 3) := by decide +kernel
theorem dL_area_12 : decode cL_area 12 = .ok (.i2l, 1) := by decide +kernel
theorem dL_area_13 : decode cL_area 13 = .ok (.lastore, 1) := by decide +kernel
theorem dL_area_14 : decode cL_area 14 = .ok (.goto 11, 3) := by decide +kernel
theorem dL_area_17 : decode cL_area 17 = .ok (.astore 6, 2) := by decide +kernel
theorem dL_area_19 : decode cL_area 19 = .ok (.iconst 1, 1) := by decide +kernel
theorem dL_area_20 : decode cL_area 20 = .ok (.ireturn, 1) := by decide +kernel
theorem dL_area_21 : decode cL_area 21 = .ok (.astore 6, 2) := by decide +kernel
theorem dL_area_23 : decode cL_area 23 = .ok (.iconst 2, 1) := by decide +kernel
theorem dL_area_24 : decode cL_area 24 = .ok (.ireturn, 1) := by decide +kernel
theorem dL_area_25 : decode cL_area 25 = .ok (.iconst 0, 1) := by decide +kernel
theorem dL_area_26 : decode cL_area 26 = .ok (.ireturn, 1) := by decide +kernel
theorem dL_dial_0 : decode cL_dial 0 = .ok (.aload_n 2, 1) := by decide +kernel
theorem dL_dial_1 : decode cL_dial 1 = .ok (.iconst 0, 1) := by decide +kernel
theorem dL_dial_2 : decode cL_dial 2 = .ok (.aload_n 0, 1) := by decide +kernel
theorem dL_dial_3 : decode cL_dial 3 = .ok (.iload_n 1, 1) := by decide +kernel
theorem dL_dial_4 : decode cL_dial 4 = .ok (.invokevirtual 17, 3) := by decide +kernel
theorem dL_dial_7 : decode cL_dial 7 = .ok (.i2l, 1) := by decide +kernel
theorem dL_dial_8 : decode cL_dial 8 = .ok (.lastore, 1) := by decide +kernel
theorem dL_dial_9 : decode cL_dial 9 = .ok (.goto 6, 3) := by decide +kernel
theorem dL_dial_12 : decode cL_dial 12 = .ok (.astore_n 3, 1) := by decide +kernel
theorem dL_dial_13 : decode cL_dial 13 = .ok (.iconst 1, 1) := by decide +kernel
theorem dL_dial_14 : decode cL_dial 14 = .ok (.ireturn, 1) := by decide +kernel
theorem dL_dial_15 : decode cL_dial 15 = .ok (.iconst 0, 1) := by decide +kernel
theorem dL_dial_16 : decode cL_dial 16 = .ok (.ireturn, 1) := by decide +kernel
theorem dL_limit_0 : decode cL_limit 0 = .ok (.aload_n 2, 1) := by decide +kernel
theorem dL_limit_1 : decode cL_limit 1 = .ok (.iconst 0, 1) := by decide +kernel
theorem dL_limit_2 : decode cL_limit 2 = .ok (.aload_n 0, 1) := by decide +kernel
theorem dL_limit_3 : decode cL_limit 3 = .ok (.iload_n 1, 1) := by decide +kernel
theorem dL_limit_4 : decode cL_limit 4 = .ok (.invokevirtual 21, 3) := by decide +kernel
theorem dL_limit_7 : decode cL_limit 7 = .ok (.i2l, 1) := by decide +kernel
theorem dL_limit_8 : decode cL_limit 8 = .ok (.lastore, 1) := by decide +kernel
theorem dL_limit_9 : decode cL_limit 9 = .ok (.goto 6, 3) := by decide +kernel
theorem dL_limit_12 : decode cL_limit 12 = .ok (.astore_n 3, 1) := by decide +kernel
theorem dL_limit_13 : decode cL_limit 13 = .ok (.iconst 1, 1) := by decide +kernel
theorem dL_limit_14 : decode cL_limit 14 = .ok (.ireturn, 1) := by decide +kernel
theorem dL_limit_15 : decode cL_limit 15 = .ok (.iconst 0, 1) := by decide +kernel
theorem dL_limit_16 : decode cL_limit 16 = .ok (.ireturn, 1) := by decide +kernel
theorem dL_heat_0 : decode cL_heat 0 = .ok (.aload_n 2, 1) := by decide +kernel
theorem dL_heat_1 : decode cL_heat 1 = .ok (.iconst 0, 1) := by decide +kernel
theorem dL_heat_2 : decode cL_heat 2 = .ok (.aload_n 0, 1) := by decide +kernel
theorem dL_heat_3 : decode cL_heat 3 = .ok (.iload_n 1, 1) := by decide +kernel
theorem dL_heat_4 : decode cL_heat 4 = .ok (.invokevirtual 24, 3) := by decide +kernel
theorem dL_heat_7 : decode cL_heat 7 = .ok (.i2l, 1) := by decide +kernel
theorem dL_heat_8 : decode cL_heat 8 = .ok (.lastore, 1) := by decide +kernel
theorem dL_heat_9 : decode cL_heat 9 = .ok (.goto 6, 3) := by decide +kernel
theorem dL_heat_12 : decode cL_heat 12 = .ok (.astore_n 3, 1) := by decide +kernel
theorem dL_heat_13 : decode cL_heat 13 = .ok (.iconst 1, 1) := by decide +kernel
theorem dL_heat_14 : decode cL_heat 14 = .ok (.ireturn, 1) := by decide +kernel
theorem dL_heat_15 : decode cL_heat 15 = .ok (.iconst 0, 1) := by decide +kernel
theorem dL_heat_16 : decode cL_heat 16 = .ok (.ireturn, 1) := by decide +kernel
theorem dL_press_0 : decode cL_press 0 = .ok (.aload 4, 2) := by decide +kernel
theorem dL_press_2 : decode cL_press 2 = .ok (.iconst 0, 1) := by decide +kernel
theorem dL_press_3 : decode cL_press 3 = .ok (.aload_n 0, 1) := by decide +kernel
theorem dL_press_4 : decode cL_press 4 = .ok (.iload_n 1, 1) := by decide +kernel
theorem dL_press_5 : decode cL_press 5 = .ok (.iload_n 2, 1) := by decide +kernel
theorem dL_press_6 : decode cL_press 6 = .ok (.iload_n 3, 1) := by decide +kernel
theorem dL_press_7 : decode cL_press 7 = .ok (.invokevirtual 27, 3) := by decide +kernel
theorem dL_press_10 : decode cL_press 10 = .ok (.i2l, 1) := by decide +kernel
theorem dL_press_11 : decode cL_press 11 = .ok (.lastore, 1) := by decide +kernel
theorem dL_press_12 : decode cL_press 12 = .ok (.goto 11, 3) := by decide +kernel
theorem dL_press_15 : decode cL_press 15 = .ok (.astore 5, 2) := by decide +kernel
theorem dL_press_17 : decode cL_press 17 = .ok (.iconst 1, 1) := by decide +kernel
theorem dL_press_18 : decode cL_press 18 = .ok (.ireturn, 1) := by decide +kernel
theorem dL_press_19 : decode cL_press 19 = .ok (.astore 5, 2) := by decide +kernel
theorem dL_press_21 : decode cL_press 21 = .ok (.iconst 2, 1) := by decide +kernel
theorem dL_press_22 : decode cL_press 22 = .ok (.ireturn, 1) := by decide +kernel
theorem dL_press_23 : decode cL_press 23 = .ok (.iconst 0, 1) := by decide +kernel
theorem dL_press_24 : decode cL_press 24 = .ok (.ireturn, 1) := by decide +kernel
theorem dL_noise_0 : decode cL_noise 0 = .ok (.aload_n 3, 1) := by decide +kernel
theorem dL_noise_1 : decode cL_noise 1 = .ok (.iconst 0, 1) := by decide +kernel
theorem dL_noise_2 : decode cL_noise 2 = .ok (.aload_n 0, 1) := by decide +kernel
theorem dL_noise_3 : decode cL_noise 3 = .ok (.iload_n 1, 1) := by decide +kernel
theorem dL_noise_4 : decode cL_noise 4 = .ok (.iload_n 2, 1) := by decide +kernel
theorem dL_noise_5 : decode cL_noise 5 = .ok (.invokevirtual 33, 3) := by decide +kernel
theorem dL_noise_8 : decode cL_noise 8 = .ok (.i2l, 1) := by decide +kernel
theorem dL_noise_9 : decode cL_noise 9 = .ok (.lastore, 1) := by decide +kernel
theorem dL_noise_10 : decode cL_noise 10 = .ok (.goto 11, 3) := by decide +kernel
theorem dL_noise_13 : decode cL_noise 13 = .ok (.astore 4, 2) := by decide +kernel
theorem dL_noise_15 : decode cL_noise 15 = .ok (.iconst 1, 1) := by decide +kernel
theorem dL_noise_16 : decode cL_noise 16 = .ok (.ireturn, 1) := by decide +kernel
theorem dL_noise_17 : decode cL_noise 17 = .ok (.astore 4, 2) := by decide +kernel
theorem dL_noise_19 : decode cL_noise 19 = .ok (.iconst 2, 1) := by decide +kernel
theorem dL_noise_20 : decode cL_noise 20 = .ok (.ireturn, 1) := by decide +kernel
theorem dL_noise_21 : decode cL_noise 21 = .ok (.iconst 0, 1) := by decide +kernel
theorem dL_noise_22 : decode cL_noise 22 = .ok (.ireturn, 1) := by decide +kernel
theorem dL_ofCell_0 : decode cL_ofCell 0 = .ok (.aload 4, 2) := by decide +kernel
theorem dL_ofCell_2 : decode cL_ofCell 2 = .ok (.iconst 0, 1) := by decide +kernel
theorem dL_ofCell_3 : decode cL_ofCell 3 = .ok (.aload_n 0, 1) := by decide +kernel
theorem dL_ofCell_4 : decode cL_ofCell 4 = .ok (.iload_n 1, 1) := by decide +kernel
theorem dL_ofCell_5 : decode cL_ofCell 5 = .ok (.iload_n 2, 1) := by decide +kernel
theorem dL_ofCell_6 : decode cL_ofCell 6 = .ok (.iload_n 3, 1) := by decide +kernel
theorem dL_ofCell_7 : decode cL_ofCell 7 = .ok (.invokevirtual 37, 3) := by decide +kernel
theorem dL_ofCell_10 : decode cL_ofCell 10 = .ok (.i2l, 1) := by decide +kernel
theorem dL_ofCell_11 : decode cL_ofCell 11 = .ok (.lastore, 1) := by decide +kernel
theorem dL_ofCell_12 : decode cL_ofCell 12 = .ok (.goto 11, 3) := by decide +kernel
theorem dL_ofCell_15 : decode cL_ofCell 15 = .ok (.astore 5, 2) := by decide +kernel
theorem dL_ofCell_17 : decode cL_ofCell 17 = .ok (.iconst 1, 1) := by decide +kernel
theorem dL_ofCell_18 : decode cL_ofCell 18 = .ok (.ireturn, 1) := by decide +kernel
theorem dL_ofCell_19 : decode cL_ofCell 19 = .ok (.astore 5, 2) := by decide +kernel
theorem dL_ofCell_21 : decode cL_ofCell 21 = .ok (.iconst 2, 1) := by decide +kernel
theorem dL_ofCell_22 : decode cL_ofCell 22 = .ok (.ireturn, 1) := by decide +kernel
theorem dL_ofCell_23 : decode cL_ofCell 23 = .ok (.iconst 0, 1) := by decide +kernel
theorem dL_ofCell_24 : decode cL_ofCell 24 = .ok (.ireturn, 1) := by decide +kernel
theorem dL_ofPeak_0 : decode cL_ofPeak 0 = .ok (.aload_n 3, 1) := by decide +kernel
theorem dL_ofPeak_1 : decode cL_ofPeak 1 = .ok (.iconst 0, 1) := by decide +kernel
theorem dL_ofPeak_2 : decode cL_ofPeak 2 = .ok (.aload_n 0, 1) := by decide +kernel
theorem dL_ofPeak_3 : decode cL_ofPeak 3 = .ok (.iload_n 1, 1) := by decide +kernel
theorem dL_ofPeak_4 : decode cL_ofPeak 4 = .ok (.iload_n 2, 1) := by decide +kernel
theorem dL_ofPeak_5 : decode cL_ofPeak 5 = .ok (.invokevirtual 40, 3) := by decide +kernel
theorem dL_ofPeak_8 : decode cL_ofPeak 8 = .ok (.i2l, 1) := by decide +kernel
theorem dL_ofPeak_9 : decode cL_ofPeak 9 = .ok (.lastore, 1) := by decide +kernel
theorem dL_ofPeak_10 : decode cL_ofPeak 10 = .ok (.goto 11, 3) := by decide +kernel
theorem dL_ofPeak_13 : decode cL_ofPeak 13 = .ok (.astore 4, 2) := by decide +kernel
theorem dL_ofPeak_15 : decode cL_ofPeak 15 = .ok (.iconst 1, 1) := by decide +kernel
theorem dL_ofPeak_16 : decode cL_ofPeak 16 = .ok (.ireturn, 1) := by decide +kernel
theorem dL_ofPeak_17 : decode cL_ofPeak 17 = .ok (.astore 4, 2) := by decide +kernel
theorem dL_ofPeak_19 : decode cL_ofPeak 19 = .ok (.iconst 2, 1) := by decide +kernel
theorem dL_ofPeak_20 : decode cL_ofPeak 20 = .ok (.ireturn, 1) := by decide +kernel
theorem dL_ofPeak_21 : decode cL_ofPeak 21 = .ok (.iconst 0, 1) := by decide +kernel
theorem dL_ofPeak_22 : decode cL_ofPeak 22 = .ok (.ireturn, 1) := by decide +kernel
theorem dL_ofContact_0 : decode cL_ofContact 0 = .ok (.aload_n 3, 1) := by decide +kernel
theorem dL_ofContact_1 : decode cL_ofContact 1 = .ok (.iconst 0, 1) := by decide +kernel
theorem dL_ofContact_2 : decode cL_ofContact 2 = .ok (.aload_n 0, 1) := by decide +kernel
theorem dL_ofContact_3 : decode cL_ofContact 3 = .ok (.iload_n 1, 1) := by decide +kernel
theorem dL_ofContact_4 : decode cL_ofContact 4 = .ok (.iload_n 2, 1) := by decide +kernel
theorem dL_ofContact_5 : decode cL_ofContact 5 = .ok (.invokevirtual 43, 3) := by decide +kernel
theorem dL_ofContact_8 : decode cL_ofContact 8 = .ok (.i2l, 1) := by decide +kernel
theorem dL_ofContact_9 : decode cL_ofContact 9 = .ok (.lastore, 1) := by decide +kernel
theorem dL_ofContact_10 : decode cL_ofContact 10 = .ok (.goto 11, 3) := by decide +kernel
theorem dL_ofContact_13 : decode cL_ofContact 13 = .ok (.astore 4, 2) := by decide +kernel
theorem dL_ofContact_15 : decode cL_ofContact 15 = .ok (.iconst 1, 1) := by decide +kernel
theorem dL_ofContact_16 : decode cL_ofContact 16 = .ok (.ireturn, 1) := by decide +kernel
theorem dL_ofContact_17 : decode cL_ofContact 17 = .ok (.astore 4, 2) := by decide +kernel
theorem dL_ofContact_19 : decode cL_ofContact 19 = .ok (.iconst 2, 1) := by decide +kernel
theorem dL_ofContact_20 : decode cL_ofContact 20 = .ok (.ireturn, 1) := by decide +kernel
theorem dL_ofContact_21 : decode cL_ofContact 21 = .ok (.iconst 0, 1) := by decide +kernel
theorem dL_ofContact_22 : decode cL_ofContact 22 = .ok (.ireturn, 1) := by decide +kernel
theorem dL_where_0 : decode cL_where 0 = .ok (.aload_n 3, 1) := by decide +kernel
theorem dL_where_1 : decode cL_where 1 = .ok (.iconst 0, 1) := by decide +kernel
theorem dL_where_2 : decode cL_where 2 = .ok (.aload_n 0, 1) := by decide +kernel
theorem dL_where_3 : decode cL_where 3 = .ok (.iload_n 1, 1) := by decide +kernel
theorem dL_where_4 : decode cL_where 4 = .ok (.iload_n 2, 1) := by decide +kernel
theorem dL_where_5 : decode cL_where 5 = .ok (.invokevirtual 46, 3) := by decide +kernel
theorem dL_where_8 : decode cL_where 8 = .ok (.dastore, 1) := by decide +kernel
theorem dL_where_9 : decode cL_where 9 = .ok (.goto 11, 3) := by decide +kernel
theorem dL_where_12 : decode cL_where 12 = .ok (.astore 4, 2) := by decide +kernel
theorem dL_where_14 : decode cL_where 14 = .ok (.iconst 1, 1) := by decide +kernel
theorem dL_where_15 : decode cL_where 15 = .ok (.ireturn, 1) := by decide +kernel
theorem dL_where_16 : decode cL_where 16 = .ok (.astore 4, 2) := by decide +kernel
theorem dL_where_18 : decode cL_where 18 = .ok (.iconst 2, 1) := by decide +kernel
theorem dL_where_19 : decode cL_where 19 = .ok (.ireturn, 1) := by decide +kernel
theorem dL_where_20 : decode cL_where 20 = .ok (.iconst 0, 1) := by decide +kernel
theorem dL_where_21 : decode cL_where 21 = .ok (.ireturn, 1) := by decide +kernel
theorem dL_apart_0 : decode cL_apart 0 = .ok (.aload_n 3, 1) := by decide +kernel
theorem dL_apart_1 : decode cL_apart 1 = .ok (.iconst 0, 1) := by decide +kernel
theorem dL_apart_2 : decode cL_apart 2 = .ok (.aload_n 0, 1) := by decide +kernel
theorem dL_apart_3 : decode cL_apart 3 = .ok (.iload_n 1, 1) := by decide +kernel
theorem dL_apart_4 : decode cL_apart 4 = .ok (.iload_n 2, 1) := by decide +kernel
theorem dL_apart_5 : decode cL_apart 5 = .ok (.invokevirtual 50, 3) := by decide +kernel
theorem dL_apart_8 : decode cL_apart 8 = .ok (.dastore, 1) := by decide +kernel
theorem dL_apart_9 : decode cL_apart 9 = .ok (.goto 7, 3) := by decide +kernel
theorem dL_apart_12 : decode cL_apart 12 = .ok (.astore 4, 2) := by decide +kernel
theorem dL_apart_14 : decode cL_apart 14 = .ok (.iconst 1, 1) := by decide +kernel
theorem dL_apart_15 : decode cL_apart 15 = .ok (.ireturn, 1) := by decide +kernel
theorem dL_apart_16 : decode cL_apart 16 = .ok (.iconst 0, 1) := by decide +kernel
theorem dL_apart_17 : decode cL_apart 17 = .ok (.ireturn, 1) := by decide +kernel
theorem dL_ofRow_0 : decode cL_ofRow 0 = .ok (.aload_n 3, 1) := by decide +kernel
theorem dL_ofRow_1 : decode cL_ofRow 1 = .ok (.iconst 0, 1) := by decide +kernel
theorem dL_ofRow_2 : decode cL_ofRow 2 = .ok (.aload_n 0, 1) := by decide +kernel
theorem dL_ofRow_3 : decode cL_ofRow 3 = .ok (.iload_n 1, 1) := by decide +kernel
theorem dL_ofRow_4 : decode cL_ofRow 4 = .ok (.iload_n 2, 1) := by decide +kernel
theorem dL_ofRow_5 : decode cL_ofRow 5 = .ok (.invokevirtual 53, 3) := by decide +kernel
theorem dL_ofRow_8 : decode cL_ofRow 8 = .ok (.i2l, 1) := by decide +kernel
theorem dL_ofRow_9 : decode cL_ofRow 9 = .ok (.lastore, 1) := by decide +kernel
theorem dL_ofRow_10 : decode cL_ofRow 10 = .ok (.goto 11, 3) := by decide +kernel
theorem dL_ofRow_13 : decode cL_ofRow 13 = .ok (.astore 4, 2) := by decide +kernel
theorem dL_ofRow_15 : decode cL_ofRow 15 = .ok (.iconst 1, 1) := by decide +kernel
theorem dL_ofRow_16 : decode cL_ofRow 16 = .ok (.ireturn, 1) := by decide +kernel
theorem dL_ofRow_17 : decode cL_ofRow 17 = .ok (.astore 4, 2) := by decide +kernel
theorem dL_ofRow_19 : decode cL_ofRow 19 = .ok (.iconst 2, 1) := by decide +kernel
theorem dL_ofRow_20 : decode cL_ofRow 20 = .ok (.ireturn, 1) := by decide +kernel
theorem dL_ofRow_21 : decode cL_ofRow 21 = .ok (.iconst 0, 1) := by decide +kernel
theorem dL_ofRow_22 : decode cL_ofRow 22 = .ok (.ireturn, 1) := by decide +kernel
theorem dL_ofArea_0 : decode cL_ofArea 0 = .ok (.aload_n 3, 1) := by decide +kernel
theorem dL_ofArea_1 : decode cL_ofArea 1 = .ok (.iconst 0, 1) := by decide +kernel
theorem dL_ofArea_2 : decode cL_ofArea 2 = .ok (.aload_n 0, 1) := by decide +kernel
theorem dL_ofArea_3 : decode cL_ofArea 3 = .ok (.iload_n 1, 1) := by decide +kernel
theorem dL_ofArea_4 : decode cL_ofArea 4 = .ok (.iload_n 2, 1) := by decide +kernel
theorem dL_ofArea_5 : decode cL_ofArea 5 = .ok (.invokevirtual 56, 3) := by decide +kernel
theorem dL_ofArea_8 : decode cL_ofArea 8 = .ok (.i2l, 1) := by decide +kernel
theorem dL_ofArea_9 : decode cL_ofArea 9 = .ok (.lastore, 1) := by decide +kernel
theorem dL_ofArea_10 : decode cL_ofArea 10 = .ok (.goto 11, 3) := by decide +kernel
theorem dL_ofArea_13 : decode cL_ofArea 13 = .ok (.astore 4, 2) := by decide +kernel
theorem dL_ofArea_15 : decode cL_ofArea 15 = .ok (.iconst 1, 1) := by decide +kernel
theorem dL_ofArea_16 : decode cL_ofArea 16 = .ok (.ireturn, 1) := by decide +kernel
theorem dL_ofArea_17 : decode cL_ofArea 17 = .ok (.astore 4, 2) := by decide +kernel
theorem dL_ofArea_19 : decode cL_ofArea 19 = .ok (.iconst 2, 1) := by decide +kernel
theorem dL_ofArea_20 : decode cL_ofArea 20 = .ok (.ireturn, 1) := by decide +kernel
theorem dL_ofArea_21 : decode cL_ofArea 21 = .ok (.iconst 0, 1) := by decide +kernel
theorem dL_ofArea_22 : decode cL_ofArea 22 = .ok (.ireturn, 1) := by decide +kernel
theorem dL_many_0 : decode cL_many 0 = .ok (.aload_n 2, 1) := by decide +kernel
theorem dL_many_1 : decode cL_many 1 = .ok (.iconst 0, 1) := by decide +kernel
theorem dL_many_2 : decode cL_many 2 = .ok (.aload_n 0, 1) := by decide +kernel
theorem dL_many_3 : decode cL_many 3 = .ok (.iload_n 1, 1) := by decide +kernel
theorem dL_many_4 : decode cL_many 4 = .ok (.invokevirtual 59, 3) := by decide +kernel
theorem dL_many_7 : decode cL_many 7 = .ok (.i2l, 1) := by decide +kernel
theorem dL_many_8 : decode cL_many 8 = .ok (.lastore, 1) := by decide +kernel
theorem dL_many_9 : decode cL_many 9 = .ok (.goto 6, 3) := by decide +kernel
theorem dL_many_12 : decode cL_many 12 = .ok (.astore_n 3, 1) := by decide +kernel
theorem dL_many_13 : decode cL_many 13 = .ok (.iconst 1, 1) := by decide +kernel
theorem dL_many_14 : decode cL_many 14 = .ok (.ireturn, 1) := by decide +kernel
theorem dL_many_15 : decode cL_many 15 = .ok (.iconst 0, 1) := by decide +kernel
theorem dL_many_16 : decode cL_many 16 = .ok (.ireturn, 1) := by decide +kernel
theorem dL_guess_0 : decode cL_guess 0 = .ok (.aload 4, 2) := by decide +kernel
theorem dL_guess_2 : decode cL_guess 2 = .ok (.iconst 0, 1) := by decide +kernel
theorem dL_guess_3 : decode cL_guess 3 = .ok (.aload_n 0, 1) := by decide +kernel
theorem dL_guess_4 : decode cL_guess 4 = .ok (.iload_n 1, 1) := by decide +kernel
theorem dL_guess_5 : decode cL_guess 5 = .ok (.iload_n 2, 1) := by decide +kernel
theorem dL_guess_6 : decode cL_guess 6 = .ok (.iload_n 3, 1) := by decide +kernel
theorem dL_guess_7 : decode cL_guess 7 = .ok (.invokevirtual 62, 3) := by decide +kernel
theorem dL_guess_10 : decode cL_guess 10 = .ok (.dastore, 1) := by decide +kernel
theorem dL_guess_11 : decode cL_guess 11 = .ok (.goto 11, 3) := by decide +kernel
theorem dL_guess_14 : decode cL_guess 14 = .ok (.astore 5, 2) := by decide +kernel
theorem dL_guess_16 : decode cL_guess 16 = .ok (.iconst 1, 1) := by decide +kernel
theorem dL_guess_17 : decode cL_guess 17 = .ok (.ireturn, 1) := by decide +kernel
theorem dL_guess_18 : decode cL_guess 18 = .ok (.astore 5, 2) := by decide +kernel
theorem dL_guess_20 : decode cL_guess 20 = .ok (.iconst 2, 1) := by decide +kernel
theorem dL_guess_21 : decode cL_guess 21 = .ok (.ireturn, 1) := by decide +kernel
theorem dL_guess_22 : decode cL_guess 22 = .ok (.iconst 0, 1) := by decide +kernel
theorem dL_guess_23 : decode cL_guess 23 = .ok (.ireturn, 1) := by decide +kernel
theorem dL_wouldMatch_0 : decode cL_wouldMatch 0 = .ok (.aload_n 2, 1) := by decide +kernel
theorem dL_wouldMatch_1 : decode cL_wouldMatch 1 = .ok (.iconst 0, 1) := by decide +kernel
theorem dL_wouldMatch_2 : decode cL_wouldMatch 2 = .ok (.aload_n 0, 1) := by decide +kernel
theorem dL_wouldMatch_3 : decode cL_wouldMatch 3 = .ok (.iload_n 1, 1) := by decide +kernel
theorem dL_wouldMatch_4 : decode cL_wouldMatch 4 = .ok (.invokevirtual 66, 3) := by decide +kernel
theorem dL_wouldMatch_7 : decode cL_wouldMatch 7 = .ok (.i2l, 1) := by decide +kernel
theorem dL_wouldMatch_8 : decode cL_wouldMatch 8 = .ok (.lastore, 1) := by decide +kernel
theorem dL_wouldMatch_9 : decode cL_wouldMatch 9 = .ok (.goto 6, 3) := by decide +kernel
theorem dL_wouldMatch_12 : decode cL_wouldMatch 12 = .ok (.astore_n 3, 1) := by decide +kernel
theorem dL_wouldMatch_13 : decode cL_wouldMatch 13 = .ok (.iconst 1, 1) := by decide +kernel
theorem dL_wouldMatch_14 : decode cL_wouldMatch 14 = .ok (.ireturn, 1) := by decide +kernel
theorem dL_wouldMatch_15 : decode cL_wouldMatch 15 = .ok (.iconst 0, 1) := by decide +kernel
theorem dL_wouldMatch_16 : decode cL_wouldMatch 16 = .ok (.ireturn, 1) := by decide +kernel
theorem dL_keepBy_0 : decode cL_keepBy 0 = .ok (.aload_n 3, 1) := by decide +kernel
theorem dL_keepBy_1 : decode cL_keepBy 1 = .ok (.iconst 0, 1) := by decide +kernel
theorem dL_keepBy_2 : decode cL_keepBy 2 = .ok (.aload_n 0, 1) := by decide +kernel
theorem dL_keepBy_3 : decode cL_keepBy 3 = .ok (.iload_n 1, 1) := by decide +kernel
theorem dL_keepBy_4 : decode cL_keepBy 4 = .ok (.iload_n 2, 1) := by decide +kernel
theorem dL_keepBy_5 : decode cL_keepBy 5 = .ok (.invokevirtual 69, 3) := by decide +kernel
theorem dL_keepBy_8 : decode cL_keepBy 8 = .ok (.i2l, 1) := by decide +kernel
theorem dL_keepBy_9 : decode cL_keepBy 9 = .ok (.lastore, 1) := by decide +kernel
theorem dL_keepBy_10 : decode cL_keepBy 10 = .ok (.goto 11, 3) := by decide +kernel
theorem dL_keepBy_13 : decode cL_keepBy 13 = .ok (.astore 4, 2) := by decide +kernel
theorem dL_keepBy_15 : decode cL_keepBy 15 = .ok (.iconst 1, 1) := by decide +kernel
theorem dL_keepBy_16 : decode cL_keepBy 16 = .ok (.ireturn, 1) := by decide +kernel
theorem dL_keepBy_17 : decode cL_keepBy 17 = .ok (.astore 4, 2) := by decide +kernel
theorem dL_keepBy_19 : decode cL_keepBy 19 = .ok (.iconst 2, 1) := by decide +kernel
theorem dL_keepBy_20 : decode cL_keepBy 20 = .ok (.ireturn, 1) := by decide +kernel
theorem dL_keepBy_21 : decode cL_keepBy 21 = .ok (.iconst 0, 1) := by decide +kernel
theorem dL_keepBy_22 : decode cL_keepBy 22 = .ok (.ireturn, 1) := by decide +kernel
theorem dL_law_0 : decode cL_law 0 = .ok (.new 8, 3) := by decide +kernel
theorem dL_law_3 : decode cL_law 3 = .ok (.dup, 1) := by decide +kernel
theorem dL_law_4 : decode cL_law 4 = .ok (.invokespecial 72, 3) := by decide +kernel
theorem dL_law_7 : decode cL_law 7 = .ok (.astore_n 1, 1) := by decide +kernel
theorem dL_law_8 : decode cL_law 8 = .ok (.new 73, 3) := by decide +kernel
theorem dL_law_11 : decode cL_law 11 = .ok (.dup, 1) := by decide +kernel
theorem dL_law_12 : decode cL_law 12 = .ok (.invokespecial 75, 3) := by decide +kernel
theorem dL_law_15 : decode cL_law 15 = .ok (.astore_n 2, 1) := by decide +kernel
theorem dL_law_16 : decode cL_law 16 = .ok (.iconst 1, 1) := by decide +kernel
theorem dL_law_17 : decode cL_law 17 = .ok (.newarray .long, 2) := by decide +kernel
theorem dL_law_19 : decode cL_law 19 = .ok (.astore_n 3, 1) := by decide +kernel
theorem dL_law_20 : decode cL_law 20 = .ok (.iconst 1, 1) := by decide +kernel
theorem dL_law_21 : decode cL_law 21 = .ok (.newarray .double, 2) := by decide +kernel
theorem dL_law_23 : decode cL_law 23 = .ok (.astore 4, 2) := by decide +kernel
theorem dL_law_25 : decode cL_law 25 = .ok (.iconst 0, 1) := by decide +kernel
theorem dL_law_26 : decode cL_law 26 = .ok (.istore 5, 2) := by decide +kernel
theorem dL_law_28 : decode cL_law 28 = .ok (.iload 5, 2) := by decide +kernel
theorem dL_law_30 : decode cL_law 30 = .ok (.aload_n 0, 1) := by decide +kernel
theorem dL_law_31 : decode cL_law 31 = .ok (.arraylength, 1) := by decide +kernel
theorem dL_law_32 : decode cL_law 32 = .ok (.iconst 5, 1) := by decide +kernel
theorem dL_law_33 : decode cL_law 33 = .ok (.isub, 1) := by decide +kernel
theorem dL_law_34 : decode cL_law 34 = .ok (.if_icmp .gt 868, 3) := by decide +kernel
theorem dL_law_37 : decode cL_law 37 = .ok (.aload_n 0, 1) := by decide +kernel
theorem dL_law_38 : decode cL_law 38 = .ok (.iload 5, 2) := by decide +kernel
theorem dL_law_40 : decode cL_law 40 = .ok (.iaload, 1) := by decide +kernel
theorem dL_law_41 : decode cL_law 41 = .ok (.bipush 31, 2) := by decide +kernel
theorem dL_law_43 : decode cL_law 43 = .ok (.iand, 1) := by decide +kernel
theorem dL_law_44 : decode cL_law 44 = .ok (.tableswitch 852 0 20 #[100, 164, 192, 220, 248, 300, 340, 353, 366, 418, 458, 498, 539, 580, 620, 660, 688, 757, 785, 798, 838], 100) := by decide +kernel
theorem dL_law_144 : decode cL_law 144 = .ok (.aload_n 1, 1) := by decide +kernel
theorem dL_law_145 : decode cL_law 145 = .ok (.aload_n 0, 1) := by decide +kernel
theorem dL_law_146 : decode cL_law 146 = .ok (.iload 5, 2) := by decide +kernel
theorem dL_law_148 : decode cL_law 148 = .ok (.iconst 1, 1) := by decide +kernel
theorem dL_law_149 : decode cL_law 149 = .ok (.iadd, 1) := by decide +kernel
theorem dL_law_150 : decode cL_law 150 = .ok (.iaload, 1) := by decide +kernel
theorem dL_law_151 : decode cL_law 151 = .ok (.aload_n 0, 1) := by decide +kernel
theorem dL_law_152 : decode cL_law 152 = .ok (.iload 5, 2) := by decide +kernel
theorem dL_law_154 : decode cL_law 154 = .ok (.iconst 2, 1) := by decide +kernel
theorem dL_law_155 : decode cL_law 155 = .ok (.iadd, 1) := by decide +kernel
theorem dL_law_156 : decode cL_law 156 = .ok (.iaload, 1) := by decide +kernel
theorem dL_law_157 : decode cL_law 157 = .ok (.aload_n 0, 1) := by decide +kernel
theorem dL_law_158 : decode cL_law 158 = .ok (.iload 5, 2) := by decide +kernel
theorem dL_law_160 : decode cL_law 160 = .ok (.iconst 3, 1) := by decide +kernel
theorem dL_law_161 : decode cL_law 161 = .ok (.iadd, 1) := by decide +kernel
theorem dL_law_162 : decode cL_law 162 = .ok (.iaload, 1) := by decide +kernel
theorem dL_law_163 : decode cL_law 163 = .ok (.aload_n 0, 1) := by decide +kernel
theorem dL_law_164 : decode cL_law 164 = .ok (.iload 5, 2) := by decide +kernel
theorem dL_law_166 : decode cL_law 166 = .ok (.iconst 4, 1) := by decide +kernel
theorem dL_law_167 : decode cL_law 167 = .ok (.iadd, 1) := by decide +kernel
theorem dL_law_168 : decode cL_law 168 = .ok (.iaload, 1) := by decide +kernel
theorem dL_law_169 : decode cL_law 169 = .ok (.aload_n 3, 1) := by decide +kernel
theorem dL_law_170 : decode cL_law 170 = .ok (.invokestatic 76, 3) := by decide +kernel
theorem dL_law_173 : decode cL_law 173 = .ok (.istore 6, 2) := by decide +kernel
theorem dL_law_175 : decode cL_law 175 = .ok (.aload_n 2, 1) := by decide +kernel
theorem dL_law_176 : decode cL_law 176 = .ok (.aload_n 0, 1) := by decide +kernel
theorem dL_law_177 : decode cL_law 177 = .ok (.iload 5, 2) := by decide +kernel
theorem dL_law_179 : decode cL_law 179 = .ok (.iconst 1, 1) := by decide +kernel
theorem dL_law_180 : decode cL_law 180 = .ok (.iadd, 1) := by decide +kernel
theorem dL_law_181 : decode cL_law 181 = .ok (.iaload, 1) := by decide +kernel
theorem dL_law_182 : decode cL_law 182 = .ok (.aload_n 0, 1) := by decide +kernel
theorem dL_law_183 : decode cL_law 183 = .ok (.iload 5, 2) := by decide +kernel
theorem dL_law_185 : decode cL_law 185 = .ok (.iconst 2, 1) := by decide +kernel
theorem dL_law_186 : decode cL_law 186 = .ok (.iadd, 1) := by decide +kernel
theorem dL_law_187 : decode cL_law 187 = .ok (.iaload, 1) := by decide +kernel
theorem dL_law_188 : decode cL_law 188 = .ok (.aload_n 0, 1) := by decide +kernel
theorem dL_law_189 : decode cL_law 189 = .ok (.iload 5, 2) := by decide +kernel
theorem dL_law_191 : decode cL_law 191 = .ok (.iconst 3, 1) := by decide +kernel
theorem dL_law_192 : decode cL_law 192 = .ok (.iadd, 1) := by decide +kernel
theorem dL_law_193 : decode cL_law 193 = .ok (.iaload, 1) := by decide +kernel
theorem dL_law_194 : decode cL_law 194 = .ok (.aload_n 0, 1) := by decide +kernel
theorem dL_law_195 : decode cL_law 195 = .ok (.iload 5, 2) := by decide +kernel
theorem dL_law_197 : decode cL_law 197 = .ok (.iconst 4, 1) := by decide +kernel
theorem dL_law_198 : decode cL_law 198 = .ok (.iadd, 1) := by decide +kernel
theorem dL_law_199 : decode cL_law 199 = .ok (.iaload, 1) := by decide +kernel
theorem dL_law_200 : decode cL_law 200 = .ok (.invokevirtual 81, 3) := by decide +kernel
theorem dL_law_203 : decode cL_law 203 = .ok (.istore 7, 2) := by decide +kernel
theorem dL_law_205 : decode cL_law 205 = .ok (.goto 691, 3) := by decide +kernel
theorem dL_law_208 : decode cL_law 208 = .ok (.aload_n 1, 1) := by decide +kernel
theorem dL_law_209 : decode cL_law 209 = .ok (.aload_n 0, 1) := by decide +kernel
theorem dL_law_210 : decode cL_law 210 = .ok (.iload 5, 2) := by decide +kernel
theorem dL_law_212 : decode cL_law 212 = .ok (.iconst 1, 1) := by decide +kernel
theorem dL_law_213 : decode cL_law 213 = .ok (.iadd, 1) := by decide +kernel
theorem dL_law_214 : decode cL_law 214 = .ok (.iaload, 1) := by decide +kernel
theorem dL_law_215 : decode cL_law 215 = .ok (.aload_n 3, 1) := by decide +kernel
theorem dL_law_216 : decode cL_law 216 = .ok (.invokestatic 82, 3) := by decide +kernel
theorem dL_law_219 : decode cL_law 219 = .ok (.istore 6, 2) := by decide +kernel
theorem dL_law_221 : decode cL_law 221 = .ok (.aload_n 2, 1) := by decide +kernel
theorem dL_law_222 : decode cL_law 222 = .ok (.aload_n 0, 1) := by decide +kernel
theorem dL_law_223 : decode cL_law 223 = .ok (.iload 5, 2) := by decide +kernel
theorem dL_law_225 : decode cL_law 225 = .ok (.iconst 1, 1) := by decide +kernel
theorem dL_law_226 : decode cL_law 226 = .ok (.iadd, 1) := by decide +kernel
theorem dL_law_227 : decode cL_law 227 = .ok (.iaload, 1) := by decide +kernel
theorem dL_law_228 : decode cL_law 228 = .ok (.invokevirtual 85, 3) := by decide +kernel
theorem dL_law_231 : decode cL_law 231 = .ok (.istore 7, 2) := by decide +kernel
theorem dL_law_233 : decode cL_law 233 = .ok (.goto 663, 3) := by decide +kernel
theorem dL_law_236 : decode cL_law 236 = .ok (.aload_n 1, 1) := by decide +kernel
theorem dL_law_237 : decode cL_law 237 = .ok (.aload_n 0, 1) := by decide +kernel
theorem dL_law_238 : decode cL_law 238 = .ok (.iload 5, 2) := by decide +kernel
theorem dL_law_240 : decode cL_law 240 = .ok (.iconst 1, 1) := by decide +kernel
theorem dL_law_241 : decode cL_law 241 = .ok (.iadd, 1) := by decide +kernel
theorem dL_law_242 : decode cL_law 242 = .ok (.iaload, 1) := by decide +kernel
theorem dL_law_243 : decode cL_law 243 = .ok (.aload_n 3, 1) := by decide +kernel
theorem dL_law_244 : decode cL_law 244 = .ok (.invokestatic 86, 3) := by decide +kernel
theorem dL_law_247 : decode cL_law 247 = .ok (.istore 6, 2) := by decide +kernel
theorem dL_law_249 : decode cL_law 249 = .ok (.aload_n 2, 1) := by decide +kernel
theorem dL_law_250 : decode cL_law 250 = .ok (.aload_n 0, 1) := by decide +kernel
theorem dL_law_251 : decode cL_law 251 = .ok (.iload 5, 2) := by decide +kernel
theorem dL_law_253 : decode cL_law 253 = .ok (.iconst 1, 1) := by decide +kernel
theorem dL_law_254 : decode cL_law 254 = .ok (.iadd, 1) := by decide +kernel
theorem dL_law_255 : decode cL_law 255 = .ok (.iaload, 1) := by decide +kernel
theorem dL_law_256 : decode cL_law 256 = .ok (.invokevirtual 88, 3) := by decide +kernel
theorem dL_law_259 : decode cL_law 259 = .ok (.istore 7, 2) := by decide +kernel
theorem dL_law_261 : decode cL_law 261 = .ok (.goto 635, 3) := by decide +kernel
theorem dL_law_264 : decode cL_law 264 = .ok (.aload_n 1, 1) := by decide +kernel
theorem dL_law_265 : decode cL_law 265 = .ok (.aload_n 0, 1) := by decide +kernel
theorem dL_law_266 : decode cL_law 266 = .ok (.iload 5, 2) := by decide +kernel
theorem dL_law_268 : decode cL_law 268 = .ok (.iconst 1, 1) := by decide +kernel
theorem dL_law_269 : decode cL_law 269 = .ok (.iadd, 1) := by decide +kernel
theorem dL_law_270 : decode cL_law 270 = .ok (.iaload, 1) := by decide +kernel
theorem dL_law_271 : decode cL_law 271 = .ok (.aload_n 3, 1) := by decide +kernel
theorem dL_law_272 : decode cL_law 272 = .ok (.invokestatic 89, 3) := by decide +kernel
theorem dL_law_275 : decode cL_law 275 = .ok (.istore 6, 2) := by decide +kernel
theorem dL_law_277 : decode cL_law 277 = .ok (.aload_n 2, 1) := by decide +kernel
theorem dL_law_278 : decode cL_law 278 = .ok (.aload_n 0, 1) := by decide +kernel
theorem dL_law_279 : decode cL_law 279 = .ok (.iload 5, 2) := by decide +kernel
theorem dL_law_281 : decode cL_law 281 = .ok (.iconst 1, 1) := by decide +kernel
theorem dL_law_282 : decode cL_law 282 = .ok (.iadd, 1) := by decide +kernel
theorem dL_law_283 : decode cL_law 283 = .ok (.iaload, 1) := by decide +kernel
theorem dL_law_284 : decode cL_law 284 = .ok (.invokevirtual 91, 3) := by decide +kernel
theorem dL_law_287 : decode cL_law 287 = .ok (.istore 7, 2) := by decide +kernel
theorem dL_law_289 : decode cL_law 289 = .ok (.goto 607, 3) := by decide +kernel
theorem dL_law_292 : decode cL_law 292 = .ok (.aload_n 1, 1) := by decide +kernel
theorem dL_law_293 : decode cL_law 293 = .ok (.aload_n 0, 1) := by decide +kernel
theorem dL_law_294 : decode cL_law 294 = .ok (.iload 5, 2) := by decide +kernel
theorem dL_law_296 : decode cL_law 296 = .ok (.iconst 1, 1) := by decide +kernel
theorem dL_law_297 : decode cL_law 297 = .ok (.iadd, 1) := by decide +kernel
theorem dL_law_298 : decode cL_law 298 = .ok (.iaload, 1) := by decide +kernel
theorem dL_law_299 : decode cL_law 299 = .ok (.aload_n 0, 1) := by decide +kernel
theorem dL_law_300 : decode cL_law 300 = .ok (.iload 5, 2) := by decide +kernel
theorem dL_law_302 : decode cL_law 302 = .ok (.iconst 2, 1) := by decide +kernel
theorem dL_law_303 : decode cL_law 303 = .ok (.iadd, 1) := by decide +kernel
theorem dL_law_304 : decode cL_law 304 = .ok (.iaload, 1) := by decide +kernel
theorem dL_law_305 : decode cL_law 305 = .ok (.aload_n 0, 1) := by decide +kernel
theorem dL_law_306 : decode cL_law 306 = .ok (.iload 5, 2) := by decide +kernel
theorem dL_law_308 : decode cL_law 308 = .ok (.iconst 3, 1) := by decide +kernel
theorem dL_law_309 : decode cL_law 309 = .ok (.iadd, 1) := by decide +kernel
theorem dL_law_310 : decode cL_law 310 = .ok (.iaload, 1) := by decide +kernel
theorem dL_law_311 : decode cL_law 311 = .ok (.aload_n 3, 1) := by decide +kernel
theorem dL_law_312 : decode cL_law 312 = .ok (.invokestatic 92, 3) := by decide +kernel
theorem dL_law_315 : decode cL_law 315 = .ok (.istore 6, 2) := by decide +kernel
theorem dL_law_317 : decode cL_law 317 = .ok (.aload_n 2, 1) := by decide +kernel
theorem dL_law_318 : decode cL_law 318 = .ok (.aload_n 0, 1) := by decide +kernel
theorem dL_law_319 : decode cL_law 319 = .ok (.iload 5, 2) := by decide +kernel
theorem dL_law_321 : decode cL_law 321 = .ok (.iconst 1, 1) := by decide +kernel
theorem dL_law_322 : decode cL_law 322 = .ok (.iadd, 1) := by decide +kernel
theorem dL_law_323 : decode cL_law 323 = .ok (.iaload, 1) := by decide +kernel
theorem dL_law_324 : decode cL_law 324 = .ok (.aload_n 0, 1) := by decide +kernel
theorem dL_law_325 : decode cL_law 325 = .ok (.iload 5, 2) := by decide +kernel
theorem dL_law_327 : decode cL_law 327 = .ok (.iconst 2, 1) := by decide +kernel
theorem dL_law_328 : decode cL_law 328 = .ok (.iadd, 1) := by decide +kernel
theorem dL_law_329 : decode cL_law 329 = .ok (.iaload, 1) := by decide +kernel
theorem dL_law_330 : decode cL_law 330 = .ok (.aload_n 0, 1) := by decide +kernel
theorem dL_law_331 : decode cL_law 331 = .ok (.iload 5, 2) := by decide +kernel
theorem dL_law_333 : decode cL_law 333 = .ok (.iconst 3, 1) := by decide +kernel
theorem dL_law_334 : decode cL_law 334 = .ok (.iadd, 1) := by decide +kernel
theorem dL_law_335 : decode cL_law 335 = .ok (.iaload, 1) := by decide +kernel
theorem dL_law_336 : decode cL_law 336 = .ok (.invokevirtual 95, 3) := by decide +kernel
theorem dL_law_339 : decode cL_law 339 = .ok (.istore 7, 2) := by decide +kernel
theorem dL_law_341 : decode cL_law 341 = .ok (.goto 555, 3) := by decide +kernel
theorem dL_law_344 : decode cL_law 344 = .ok (.aload_n 1, 1) := by decide +kernel
theorem dL_law_345 : decode cL_law 345 = .ok (.aload_n 0, 1) := by decide +kernel
theorem dL_law_346 : decode cL_law 346 = .ok (.iload 5, 2) := by decide +kernel
theorem dL_law_348 : decode cL_law 348 = .ok (.iconst 1, 1) := by decide +kernel
theorem dL_law_349 : decode cL_law 349 = .ok (.iadd, 1) := by decide +kernel
theorem dL_law_350 : decode cL_law 350 = .ok (.iaload, 1) := by decide +kernel
theorem dL_law_351 : decode cL_law 351 = .ok (.aload_n 0, 1) := by decide +kernel
theorem dL_law_352 : decode cL_law 352 = .ok (.iload 5, 2) := by decide +kernel
theorem dL_law_354 : decode cL_law 354 = .ok (.iconst 2, 1) := by decide +kernel
theorem dL_law_355 : decode cL_law 355 = .ok (.iadd, 1) := by decide +kernel
theorem dL_law_356 : decode cL_law 356 = .ok (.iaload, 1) := by decide +kernel
theorem dL_law_357 : decode cL_law 357 = .ok (.aload_n 3, 1) := by decide +kernel
theorem dL_law_358 : decode cL_law 358 = .ok (.invokestatic 96, 3) := by decide +kernel
theorem dL_law_361 : decode cL_law 361 = .ok (.istore 6, 2) := by decide +kernel
theorem dL_law_363 : decode cL_law 363 = .ok (.aload_n 2, 1) := by decide +kernel
theorem dL_law_364 : decode cL_law 364 = .ok (.aload_n 0, 1) := by decide +kernel
theorem dL_law_365 : decode cL_law 365 = .ok (.iload 5, 2) := by decide +kernel
theorem dL_law_367 : decode cL_law 367 = .ok (.iconst 1, 1) := by decide +kernel
theorem dL_law_368 : decode cL_law 368 = .ok (.iadd, 1) := by decide +kernel
theorem dL_law_369 : decode cL_law 369 = .ok (.iaload, 1) := by decide +kernel
theorem dL_law_370 : decode cL_law 370 = .ok (.aload_n 0, 1) := by decide +kernel
theorem dL_law_371 : decode cL_law 371 = .ok (.iload 5, 2) := by decide +kernel
theorem dL_law_373 : decode cL_law 373 = .ok (.iconst 2, 1) := by decide +kernel
theorem dL_law_374 : decode cL_law 374 = .ok (.iadd, 1) := by decide +kernel
theorem dL_law_375 : decode cL_law 375 = .ok (.iaload, 1) := by decide +kernel
theorem dL_law_376 : decode cL_law 376 = .ok (.invokevirtual 99, 3) := by decide +kernel
theorem dL_law_379 : decode cL_law 379 = .ok (.istore 7, 2) := by decide +kernel
theorem dL_law_381 : decode cL_law 381 = .ok (.goto 515, 3) := by decide +kernel
theorem dL_law_384 : decode cL_law 384 = .ok (.aload_n 1, 1) := by decide +kernel
theorem dL_law_385 : decode cL_law 385 = .ok (.invokevirtual 100, 3) := by decide +kernel
theorem dL_law_388 : decode cL_law 388 = .ok (.pop, 1) := by decide +kernel
theorem dL_law_389 : decode cL_law 389 = .ok (.aload_n 2, 1) := by decide +kernel
theorem dL_law_390 : decode cL_law 390 = .ok (.invokevirtual 104, 3) := by decide +kernel
theorem dL_law_393 : decode cL_law 393 = .ok (.pop, 1) := by decide +kernel
theorem dL_law_394 : decode cL_law 394 = .ok (.goto 502, 3) := by decide +kernel
theorem dL_law_397 : decode cL_law 397 = .ok (.aload_n 1, 1) := by decide +kernel
theorem dL_law_398 : decode cL_law 398 = .ok (.invokevirtual 105, 3) := by decide +kernel
theorem dL_law_401 : decode cL_law 401 = .ok (.pop, 1) := by decide +kernel
theorem dL_law_402 : decode cL_law 402 = .ok (.aload_n 2, 1) := by decide +kernel
theorem dL_law_403 : decode cL_law 403 = .ok (.invokevirtual 108, 3) := by decide +kernel
theorem dL_law_406 : decode cL_law 406 = .ok (.pop, 1) := by decide +kernel
theorem dL_law_407 : decode cL_law 407 = .ok (.goto 489, 3) := by decide +kernel
theorem dL_law_410 : decode cL_law 410 = .ok (.aload_n 1, 1) := by decide +kernel
theorem dL_law_411 : decode cL_law 411 = .ok (.aload_n 0, 1) := by decide +kernel
theorem dL_law_412 : decode cL_law 412 = .ok (.iload 5, 2) := by decide +kernel
theorem dL_law_414 : decode cL_law 414 = .ok (.iconst 1, 1) := by decide +kernel
theorem dL_law_415 : decode cL_law 415 = .ok (.iadd, 1) := by decide +kernel
theorem dL_law_416 : decode cL_law 416 = .ok (.iaload, 1) := by decide +kernel
theorem dL_law_417 : decode cL_law 417 = .ok (.aload_n 0, 1) := by decide +kernel
theorem dL_law_418 : decode cL_law 418 = .ok (.iload 5, 2) := by decide +kernel
theorem dL_law_420 : decode cL_law 420 = .ok (.iconst 2, 1) := by decide +kernel
theorem dL_law_421 : decode cL_law 421 = .ok (.iadd, 1) := by decide +kernel
theorem dL_law_422 : decode cL_law 422 = .ok (.iaload, 1) := by decide +kernel
theorem dL_law_423 : decode cL_law 423 = .ok (.aload_n 0, 1) := by decide +kernel
theorem dL_law_424 : decode cL_law 424 = .ok (.iload 5, 2) := by decide +kernel
theorem dL_law_426 : decode cL_law 426 = .ok (.iconst 3, 1) := by decide +kernel
theorem dL_law_427 : decode cL_law 427 = .ok (.iadd, 1) := by decide +kernel
theorem dL_law_428 : decode cL_law 428 = .ok (.iaload, 1) := by decide +kernel
theorem dL_law_429 : decode cL_law 429 = .ok (.aload_n 3, 1) := by decide +kernel
theorem dL_law_430 : decode cL_law 430 = .ok (.invokestatic 109, 3) := by decide +kernel
theorem dL_law_433 : decode cL_law 433 = .ok (.istore 6, 2) := by decide +kernel
theorem dL_law_435 : decode cL_law 435 = .ok (.aload_n 2, 1) := by decide +kernel
theorem dL_law_436 : decode cL_law 436 = .ok (.aload_n 0, 1) := by decide +kernel
theorem dL_law_437 : decode cL_law 437 = .ok (.iload 5, 2) := by decide +kernel
theorem dL_law_439 : decode cL_law 439 = .ok (.iconst 1, 1) := by decide +kernel
theorem dL_law_440 : decode cL_law 440 = .ok (.iadd, 1) := by decide +kernel
theorem dL_law_441 : decode cL_law 441 = .ok (.iaload, 1) := by decide +kernel
theorem dL_law_442 : decode cL_law 442 = .ok (.aload_n 0, 1) := by decide +kernel
theorem dL_law_443 : decode cL_law 443 = .ok (.iload 5, 2) := by decide +kernel
theorem dL_law_445 : decode cL_law 445 = .ok (.iconst 2, 1) := by decide +kernel
theorem dL_law_446 : decode cL_law 446 = .ok (.iadd, 1) := by decide +kernel
theorem dL_law_447 : decode cL_law 447 = .ok (.iaload, 1) := by decide +kernel
theorem dL_law_448 : decode cL_law 448 = .ok (.aload_n 0, 1) := by decide +kernel
theorem dL_law_449 : decode cL_law 449 = .ok (.iload 5, 2) := by decide +kernel
theorem dL_law_451 : decode cL_law 451 = .ok (.iconst 3, 1) := by decide +kernel
theorem dL_law_452 : decode cL_law 452 = .ok (.iadd, 1) := by decide +kernel
theorem dL_law_453 : decode cL_law 453 = .ok (.iaload, 1) := by decide +kernel
theorem dL_law_454 : decode cL_law 454 = .ok (.invokevirtual 111, 3) := by decide +kernel
theorem dL_law_457 : decode cL_law 457 = .ok (.istore 7, 2) := by decide +kernel
theorem dL_law_459 : decode cL_law 459 = .ok (.goto 437, 3) := by decide +kernel
theorem dL_law_462 : decode cL_law 462 = .ok (.aload_n 1, 1) := by decide +kernel
theorem dL_law_463 : decode cL_law 463 = .ok (.aload_n 0, 1) := by decide +kernel
theorem dL_law_464 : decode cL_law 464 = .ok (.iload 5, 2) := by decide +kernel
theorem dL_law_466 : decode cL_law 466 = .ok (.iconst 1, 1) := by decide +kernel
theorem dL_law_467 : decode cL_law 467 = .ok (.iadd, 1) := by decide +kernel
theorem dL_law_468 : decode cL_law 468 = .ok (.iaload, 1) := by decide +kernel
theorem dL_law_469 : decode cL_law 469 = .ok (.aload_n 0, 1) := by decide +kernel
theorem dL_law_470 : decode cL_law 470 = .ok (.iload 5, 2) := by decide +kernel
theorem dL_law_472 : decode cL_law 472 = .ok (.iconst 2, 1) := by decide +kernel
theorem dL_law_473 : decode cL_law 473 = .ok (.iadd, 1) := by decide +kernel
theorem dL_law_474 : decode cL_law 474 = .ok (.iaload, 1) := by decide +kernel
theorem dL_law_475 : decode cL_law 475 = .ok (.aload_n 3, 1) := by decide +kernel
theorem dL_law_476 : decode cL_law 476 = .ok (.invokestatic 112, 3) := by decide +kernel
theorem dL_law_479 : decode cL_law 479 = .ok (.istore 6, 2) := by decide +kernel
theorem dL_law_481 : decode cL_law 481 = .ok (.aload_n 2, 1) := by decide +kernel
theorem dL_law_482 : decode cL_law 482 = .ok (.aload_n 0, 1) := by decide +kernel
theorem dL_law_483 : decode cL_law 483 = .ok (.iload 5, 2) := by decide +kernel
theorem dL_law_485 : decode cL_law 485 = .ok (.iconst 1, 1) := by decide +kernel
theorem dL_law_486 : decode cL_law 486 = .ok (.iadd, 1) := by decide +kernel
theorem dL_law_487 : decode cL_law 487 = .ok (.iaload, 1) := by decide +kernel
theorem dL_law_488 : decode cL_law 488 = .ok (.aload_n 0, 1) := by decide +kernel
theorem dL_law_489 : decode cL_law 489 = .ok (.iload 5, 2) := by decide +kernel
theorem dL_law_491 : decode cL_law 491 = .ok (.iconst 2, 1) := by decide +kernel
theorem dL_law_492 : decode cL_law 492 = .ok (.iadd, 1) := by decide +kernel
theorem dL_law_493 : decode cL_law 493 = .ok (.iaload, 1) := by decide +kernel
theorem dL_law_494 : decode cL_law 494 = .ok (.invokevirtual 114, 3) := by decide +kernel
theorem dL_law_497 : decode cL_law 497 = .ok (.istore 7, 2) := by decide +kernel
theorem dL_law_499 : decode cL_law 499 = .ok (.goto 397, 3) := by decide +kernel
theorem dL_law_502 : decode cL_law 502 = .ok (.aload_n 1, 1) := by decide +kernel
theorem dL_law_503 : decode cL_law 503 = .ok (.aload_n 0, 1) := by decide +kernel
theorem dL_law_504 : decode cL_law 504 = .ok (.iload 5, 2) := by decide +kernel
theorem dL_law_506 : decode cL_law 506 = .ok (.iconst 1, 1) := by decide +kernel
theorem dL_law_507 : decode cL_law 507 = .ok (.iadd, 1) := by decide +kernel
theorem dL_law_508 : decode cL_law 508 = .ok (.iaload, 1) := by decide +kernel
theorem dL_law_509 : decode cL_law 509 = .ok (.aload_n 0, 1) := by decide +kernel
theorem dL_law_510 : decode cL_law 510 = .ok (.iload 5, 2) := by decide +kernel
theorem dL_law_512 : decode cL_law 512 = .ok (.iconst 2, 1) := by decide +kernel
theorem dL_law_513 : decode cL_law 513 = .ok (.iadd, 1) := by decide +kernel
theorem dL_law_514 : decode cL_law 514 = .ok (.iaload, 1) := by decide +kernel
theorem dL_law_515 : decode cL_law 515 = .ok (.aload_n 3, 1) := by decide +kernel
theorem dL_law_516 : decode cL_law 516 = .ok (.invokestatic 115, 3) := by decide +kernel
theorem dL_law_519 : decode cL_law 519 = .ok (.istore 6, 2) := by decide +kernel
theorem dL_law_521 : decode cL_law 521 = .ok (.aload_n 2, 1) := by decide +kernel
theorem dL_law_522 : decode cL_law 522 = .ok (.aload_n 0, 1) := by decide +kernel
theorem dL_law_523 : decode cL_law 523 = .ok (.iload 5, 2) := by decide +kernel
theorem dL_law_525 : decode cL_law 525 = .ok (.iconst 1, 1) := by decide +kernel
theorem dL_law_526 : decode cL_law 526 = .ok (.iadd, 1) := by decide +kernel
theorem dL_law_527 : decode cL_law 527 = .ok (.iaload, 1) := by decide +kernel
theorem dL_law_528 : decode cL_law 528 = .ok (.aload_n 0, 1) := by decide +kernel
theorem dL_law_529 : decode cL_law 529 = .ok (.iload 5, 2) := by decide +kernel
theorem dL_law_531 : decode cL_law 531 = .ok (.iconst 2, 1) := by decide +kernel
theorem dL_law_532 : decode cL_law 532 = .ok (.iadd, 1) := by decide +kernel
theorem dL_law_533 : decode cL_law 533 = .ok (.iaload, 1) := by decide +kernel
theorem dL_law_534 : decode cL_law 534 = .ok (.invokevirtual 117, 3) := by decide +kernel
theorem dL_law_537 : decode cL_law 537 = .ok (.istore 7, 2) := by decide +kernel
theorem dL_law_539 : decode cL_law 539 = .ok (.goto 357, 3) := by decide +kernel
theorem dL_law_542 : decode cL_law 542 = .ok (.aload_n 1, 1) := by decide +kernel
theorem dL_law_543 : decode cL_law 543 = .ok (.aload_n 0, 1) := by decide +kernel
theorem dL_law_544 : decode cL_law 544 = .ok (.iload 5, 2) := by decide +kernel
theorem dL_law_546 : decode cL_law 546 = .ok (.iconst 1, 1) := by decide +kernel
theorem dL_law_547 : decode cL_law 547 = .ok (.iadd, 1) := by decide +kernel
theorem dL_law_548 : decode cL_law 548 = .ok (.iaload, 1) := by decide +kernel
theorem dL_law_549 : decode cL_law 549 = .ok (.aload_n 0, 1) := by decide +kernel
theorem dL_law_550 : decode cL_law 550 = .ok (.iload 5, 2) := by decide +kernel
theorem dL_law_552 : decode cL_law 552 = .ok (.iconst 2, 1) := by decide +kernel
theorem dL_law_553 : decode cL_law 553 = .ok (.iadd, 1) := by decide +kernel
theorem dL_law_554 : decode cL_law 554 = .ok (.iaload, 1) := by decide +kernel
theorem dL_law_555 : decode cL_law 555 = .ok (.aload 4, 2) := by decide +kernel
theorem dL_law_557 : decode cL_law 557 = .ok (.invokestatic 118, 3) := by decide +kernel
theorem dL_law_560 : decode cL_law 560 = .ok (.istore 6, 2) := by decide +kernel
theorem dL_law_562 : decode cL_law 562 = .ok (.aload_n 2, 1) := by decide +kernel
theorem dL_law_563 : decode cL_law 563 = .ok (.aload_n 0, 1) := by decide +kernel
theorem dL_law_564 : decode cL_law 564 = .ok (.iload 5, 2) := by decide +kernel
theorem dL_law_566 : decode cL_law 566 = .ok (.iconst 1, 1) := by decide +kernel
theorem dL_law_567 : decode cL_law 567 = .ok (.iadd, 1) := by decide +kernel
theorem dL_law_568 : decode cL_law 568 = .ok (.iaload, 1) := by decide +kernel
theorem dL_law_569 : decode cL_law 569 = .ok (.aload_n 0, 1) := by decide +kernel
theorem dL_law_570 : decode cL_law 570 = .ok (.iload 5, 2) := by decide +kernel
theorem dL_law_572 : decode cL_law 572 = .ok (.iconst 2, 1) := by decide +kernel
theorem dL_law_573 : decode cL_law 573 = .ok (.iadd, 1) := by decide +kernel
theorem dL_law_574 : decode cL_law 574 = .ok (.iaload, 1) := by decide +kernel
theorem dL_law_575 : decode cL_law 575 = .ok (.invokevirtual 121, 3) := by decide +kernel
theorem dL_law_578 : decode cL_law 578 = .ok (.dstore 7, 2) := by decide +kernel
theorem dL_law_580 : decode cL_law 580 = .ok (.goto 316, 3) := by decide +kernel
theorem dL_law_583 : decode cL_law 583 = .ok (.aload_n 1, 1) := by decide +kernel
theorem dL_law_584 : decode cL_law 584 = .ok (.aload_n 0, 1) := by decide +kernel
theorem dL_law_585 : decode cL_law 585 = .ok (.iload 5, 2) := by decide +kernel
theorem dL_law_587 : decode cL_law 587 = .ok (.iconst 1, 1) := by decide +kernel
theorem dL_law_588 : decode cL_law 588 = .ok (.iadd, 1) := by decide +kernel
theorem dL_law_589 : decode cL_law 589 = .ok (.iaload, 1) := by decide +kernel
theorem dL_law_590 : decode cL_law 590 = .ok (.aload_n 0, 1) := by decide +kernel
theorem dL_law_591 : decode cL_law 591 = .ok (.iload 5, 2) := by decide +kernel
theorem dL_law_593 : decode cL_law 593 = .ok (.iconst 2, 1) := by decide +kernel
theorem dL_law_594 : decode cL_law 594 = .ok (.iadd, 1) := by decide +kernel
theorem dL_law_595 : decode cL_law 595 = .ok (.iaload, 1) := by decide +kernel
theorem dL_law_596 : decode cL_law 596 = .ok (.aload 4, 2) := by decide +kernel
theorem dL_law_598 : decode cL_law 598 = .ok (.invokestatic 122, 3) := by decide +kernel
theorem dL_law_601 : decode cL_law 601 = .ok (.istore 6, 2) := by decide +kernel
theorem dL_law_603 : decode cL_law 603 = .ok (.aload_n 2, 1) := by decide +kernel
theorem dL_law_604 : decode cL_law 604 = .ok (.aload_n 0, 1) := by decide +kernel
theorem dL_law_605 : decode cL_law 605 = .ok (.iload 5, 2) := by decide +kernel
theorem dL_law_607 : decode cL_law 607 = .ok (.iconst 1, 1) := by decide +kernel
theorem dL_law_608 : decode cL_law 608 = .ok (.iadd, 1) := by decide +kernel
theorem dL_law_609 : decode cL_law 609 = .ok (.iaload, 1) := by decide +kernel
theorem dL_law_610 : decode cL_law 610 = .ok (.aload_n 0, 1) := by decide +kernel
theorem dL_law_611 : decode cL_law 611 = .ok (.iload 5, 2) := by decide +kernel
theorem dL_law_613 : decode cL_law 613 = .ok (.iconst 2, 1) := by decide +kernel
theorem dL_law_614 : decode cL_law 614 = .ok (.iadd, 1) := by decide +kernel
theorem dL_law_615 : decode cL_law 615 = .ok (.iaload, 1) := by decide +kernel
theorem dL_law_616 : decode cL_law 616 = .ok (.invokevirtual 124, 3) := by decide +kernel
theorem dL_law_619 : decode cL_law 619 = .ok (.dstore 7, 2) := by decide +kernel
theorem dL_law_621 : decode cL_law 621 = .ok (.goto 275, 3) := by decide +kernel
theorem dL_law_624 : decode cL_law 624 = .ok (.aload_n 1, 1) := by decide +kernel
theorem dL_law_625 : decode cL_law 625 = .ok (.aload_n 0, 1) := by decide +kernel
theorem dL_law_626 : decode cL_law 626 = .ok (.iload 5, 2) := by decide +kernel
theorem dL_law_628 : decode cL_law 628 = .ok (.iconst 1, 1) := by decide +kernel
theorem dL_law_629 : decode cL_law 629 = .ok (.iadd, 1) := by decide +kernel
theorem dL_law_630 : decode cL_law 630 = .ok (.iaload, 1) := by decide +kernel
theorem dL_law_631 : decode cL_law 631 = .ok (.aload_n 0, 1) := by decide +kernel
theorem dL_law_632 : decode cL_law 632 = .ok (.iload 5, 2) := by decide +kernel
theorem dL_law_634 : decode cL_law 634 = .ok (.iconst 2, 1) := by decide +kernel
theorem dL_law_635 : decode cL_law 635 = .ok (.iadd, 1) := by decide +kernel
theorem dL_law_636 : decode cL_law 636 = .ok (.iaload, 1) := by decide +kernel
theorem dL_law_637 : decode cL_law 637 = .ok (.aload_n 3, 1) := by decide +kernel
theorem dL_law_638 : decode cL_law 638 = .ok (.invokestatic 125, 3) := by decide +kernel
theorem dL_law_641 : decode cL_law 641 = .ok (.istore 6, 2) := by decide +kernel
theorem dL_law_643 : decode cL_law 643 = .ok (.aload_n 2, 1) := by decide +kernel
theorem dL_law_644 : decode cL_law 644 = .ok (.aload_n 0, 1) := by decide +kernel
theorem dL_law_645 : decode cL_law 645 = .ok (.iload 5, 2) := by decide +kernel
theorem dL_law_647 : decode cL_law 647 = .ok (.iconst 1, 1) := by decide +kernel
theorem dL_law_648 : decode cL_law 648 = .ok (.iadd, 1) := by decide +kernel
theorem dL_law_649 : decode cL_law 649 = .ok (.iaload, 1) := by decide +kernel
theorem dL_law_650 : decode cL_law 650 = .ok (.aload_n 0, 1) := by decide +kernel
theorem dL_law_651 : decode cL_law 651 = .ok (.iload 5, 2) := by decide +kernel
theorem dL_law_653 : decode cL_law 653 = .ok (.iconst 2, 1) := by decide +kernel
theorem dL_law_654 : decode cL_law 654 = .ok (.iadd, 1) := by decide +kernel
theorem dL_law_655 : decode cL_law 655 = .ok (.iaload, 1) := by decide +kernel
theorem dL_law_656 : decode cL_law 656 = .ok (.invokevirtual 127, 3) := by decide +kernel
theorem dL_law_659 : decode cL_law 659 = .ok (.istore 7, 2) := by decide +kernel
theorem dL_law_661 : decode cL_law 661 = .ok (.goto 235, 3) := by decide +kernel
theorem dL_law_664 : decode cL_law 664 = .ok (.aload_n 1, 1) := by decide +kernel
theorem dL_law_665 : decode cL_law 665 = .ok (.aload_n 0, 1) := by decide +kernel
theorem dL_law_666 : decode cL_law 666 = .ok (.iload 5, 2) := by decide +kernel
theorem dL_law_668 : decode cL_law 668 = .ok (.iconst 1, 1) := by decide +kernel
theorem dL_law_669 : decode cL_law 669 = .ok (.iadd, 1) := by decide +kernel
theorem dL_law_670 : decode cL_law 670 = .ok (.iaload, 1) := by decide +kernel
theorem dL_law_671 : decode cL_law 671 = .ok (.aload_n 0, 1) := by decide +kernel
theorem dL_law_672 : decode cL_law 672 = .ok (.iload 5, 2) := by decide +kernel
theorem dL_law_674 : decode cL_law 674 = .ok (.iconst 2, 1) := by decide +kernel
theorem dL_law_675 : decode cL_law 675 = .ok (.iadd, 1) := by decide +kernel
theorem dL_law_676 : decode cL_law 676 = .ok (.iaload, 1) := by decide +kernel
theorem dL_law_677 : decode cL_law 677 = .ok (.aload_n 3, 1) := by decide +kernel
theorem dL_law_678 : decode cL_law 678 = .ok (.invokestatic 128, 3) := by decide +kernel
theorem dL_law_681 : decode cL_law 681 = .ok (.istore 6, 2) := by decide +kernel
theorem dL_law_683 : decode cL_law 683 = .ok (.aload_n 2, 1) := by decide +kernel
theorem dL_law_684 : decode cL_law 684 = .ok (.aload_n 0, 1) := by decide +kernel
theorem dL_law_685 : decode cL_law 685 = .ok (.iload 5, 2) := by decide +kernel
theorem dL_law_687 : decode cL_law 687 = .ok (.iconst 1, 1) := by decide +kernel
theorem dL_law_688 : decode cL_law 688 = .ok (.iadd, 1) := by decide +kernel
theorem dL_law_689 : decode cL_law 689 = .ok (.iaload, 1) := by decide +kernel
theorem dL_law_690 : decode cL_law 690 = .ok (.aload_n 0, 1) := by decide +kernel
theorem dL_law_691 : decode cL_law 691 = .ok (.iload 5, 2) := by decide +kernel
theorem dL_law_693 : decode cL_law 693 = .ok (.iconst 2, 1) := by decide +kernel
theorem dL_law_694 : decode cL_law 694 = .ok (.iadd, 1) := by decide +kernel
theorem dL_law_695 : decode cL_law 695 = .ok (.iaload, 1) := by decide +kernel
theorem dL_law_696 : decode cL_law 696 = .ok (.invokevirtual 130, 3) := by decide +kernel
theorem dL_law_699 : decode cL_law 699 = .ok (.istore 7, 2) := by decide +kernel
theorem dL_law_701 : decode cL_law 701 = .ok (.goto 195, 3) := by decide +kernel
theorem dL_law_704 : decode cL_law 704 = .ok (.aload_n 1, 1) := by decide +kernel
theorem dL_law_705 : decode cL_law 705 = .ok (.aload_n 0, 1) := by decide +kernel
theorem dL_law_706 : decode cL_law 706 = .ok (.iload 5, 2) := by decide +kernel
theorem dL_law_708 : decode cL_law 708 = .ok (.iconst 1, 1) := by decide +kernel
theorem dL_law_709 : decode cL_law 709 = .ok (.iadd, 1) := by decide +kernel
theorem dL_law_710 : decode cL_law 710 = .ok (.iaload, 1) := by decide +kernel
theorem dL_law_711 : decode cL_law 711 = .ok (.aload_n 3, 1) := by decide +kernel
theorem dL_law_712 : decode cL_law 712 = .ok (.invokestatic 131, 3) := by decide +kernel
theorem dL_law_715 : decode cL_law 715 = .ok (.istore 6, 2) := by decide +kernel
theorem dL_law_717 : decode cL_law 717 = .ok (.aload_n 2, 1) := by decide +kernel
theorem dL_law_718 : decode cL_law 718 = .ok (.aload_n 0, 1) := by decide +kernel
theorem dL_law_719 : decode cL_law 719 = .ok (.iload 5, 2) := by decide +kernel
theorem dL_law_721 : decode cL_law 721 = .ok (.iconst 1, 1) := by decide +kernel
theorem dL_law_722 : decode cL_law 722 = .ok (.iadd, 1) := by decide +kernel
theorem dL_law_723 : decode cL_law 723 = .ok (.iaload, 1) := by decide +kernel
theorem dL_law_724 : decode cL_law 724 = .ok (.invokevirtual 133, 3) := by decide +kernel
theorem dL_law_727 : decode cL_law 727 = .ok (.istore 7, 2) := by decide +kernel
theorem dL_law_729 : decode cL_law 729 = .ok (.goto 167, 3) := by decide +kernel
theorem dL_law_732 : decode cL_law 732 = .ok (.aload_n 1, 1) := by decide +kernel
theorem dL_law_733 : decode cL_law 733 = .ok (.aload_n 0, 1) := by decide +kernel
theorem dL_law_734 : decode cL_law 734 = .ok (.iload 5, 2) := by decide +kernel
theorem dL_law_736 : decode cL_law 736 = .ok (.iconst 1, 1) := by decide +kernel
theorem dL_law_737 : decode cL_law 737 = .ok (.iadd, 1) := by decide +kernel
theorem dL_law_738 : decode cL_law 738 = .ok (.iaload, 1) := by decide +kernel
theorem dL_law_739 : decode cL_law 739 = .ok (.aload_n 0, 1) := by decide +kernel
theorem dL_law_740 : decode cL_law 740 = .ok (.iload 5, 2) := by decide +kernel
theorem dL_law_742 : decode cL_law 742 = .ok (.iconst 2, 1) := by decide +kernel
theorem dL_law_743 : decode cL_law 743 = .ok (.iadd, 1) := by decide +kernel
theorem dL_law_744 : decode cL_law 744 = .ok (.iaload, 1) := by decide +kernel
theorem dL_law_745 : decode cL_law 745 = .ok (.aload_n 0, 1) := by decide +kernel
theorem dL_law_746 : decode cL_law 746 = .ok (.iload 5, 2) := by decide +kernel
theorem dL_law_748 : decode cL_law 748 = .ok (.iconst 3, 1) := by decide +kernel
theorem dL_law_749 : decode cL_law 749 = .ok (.iadd, 1) := by decide +kernel
theorem dL_law_750 : decode cL_law 750 = .ok (.iaload, 1) := by decide +kernel
theorem dL_law_751 : decode cL_law 751 = .ok (.ifCond .eq 7, 3) := by decide +kernel
theorem dL_law_754 : decode cL_law 754 = .ok (.iconst 1, 1) := by decide +kernel
theorem dL_law_755 : decode cL_law 755 = .ok (.goto 4, 3) := by decide +kernel
theorem dL_law_758 : decode cL_law 758 = .ok (.iconst 0, 1) := by decide +kernel
theorem dL_law_759 : decode cL_law 759 = .ok (.aload 4, 2) := by decide +kernel
theorem dL_law_761 : decode cL_law 761 = .ok (.invokestatic 134, 3) := by decide +kernel
theorem dL_law_764 : decode cL_law 764 = .ok (.istore 6, 2) := by decide +kernel
theorem dL_law_766 : decode cL_law 766 = .ok (.aload_n 2, 1) := by decide +kernel
theorem dL_law_767 : decode cL_law 767 = .ok (.aload_n 0, 1) := by decide +kernel
theorem dL_law_768 : decode cL_law 768 = .ok (.iload 5, 2) := by decide +kernel
theorem dL_law_770 : decode cL_law 770 = .ok (.iconst 1, 1) := by decide +kernel
theorem dL_law_771 : decode cL_law 771 = .ok (.iadd, 1) := by decide +kernel
theorem dL_law_772 : decode cL_law 772 = .ok (.iaload, 1) := by decide +kernel
theorem dL_law_773 : decode cL_law 773 = .ok (.aload_n 0, 1) := by decide +kernel
theorem dL_law_774 : decode cL_law 774 = .ok (.iload 5, 2) := by decide +kernel
theorem dL_law_776 : decode cL_law 776 = .ok (.iconst 2, 1) := by decide +kernel
theorem dL_law_777 : decode cL_law 777 = .ok (.iadd, 1) := by decide +kernel
theorem dL_law_778 : decode cL_law 778 = .ok (.iaload, 1) := by decide +kernel
theorem dL_law_779 : decode cL_law 779 = .ok (.aload_n 0, 1) := by decide +kernel
theorem dL_law_780 : decode cL_law 780 = .ok (.iload 5, 2) := by decide +kernel
theorem dL_law_782 : decode cL_law 782 = .ok (.iconst 3, 1) := by decide +kernel
theorem dL_law_783 : decode cL_law 783 = .ok (.iadd, 1) := by decide +kernel
theorem dL_law_784 : decode cL_law 784 = .ok (.iaload, 1) := by decide +kernel
theorem dL_law_785 : decode cL_law 785 = .ok (.ifCond .eq 7, 3) := by decide +kernel
theorem dL_law_788 : decode cL_law 788 = .ok (.iconst 1, 1) := by decide +kernel
theorem dL_law_789 : decode cL_law 789 = .ok (.goto 4, 3) := by decide +kernel
theorem dL_law_792 : decode cL_law 792 = .ok (.iconst 0, 1) := by decide +kernel
theorem dL_law_793 : decode cL_law 793 = .ok (.invokevirtual 137, 3) := by decide +kernel
theorem dL_law_796 : decode cL_law 796 = .ok (.dstore 7, 2) := by decide +kernel
theorem dL_law_798 : decode cL_law 798 = .ok (.goto 98, 3) := by decide +kernel
theorem dL_law_801 : decode cL_law 801 = .ok (.aload_n 1, 1) := by decide +kernel
theorem dL_law_802 : decode cL_law 802 = .ok (.aload_n 0, 1) := by decide +kernel
theorem dL_law_803 : decode cL_law 803 = .ok (.iload 5, 2) := by decide +kernel
theorem dL_law_805 : decode cL_law 805 = .ok (.iconst 1, 1) := by decide +kernel
theorem dL_law_806 : decode cL_law 806 = .ok (.iadd, 1) := by decide +kernel
theorem dL_law_807 : decode cL_law 807 = .ok (.iaload, 1) := by decide +kernel
theorem dL_law_808 : decode cL_law 808 = .ok (.aload_n 3, 1) := by decide +kernel
theorem dL_law_809 : decode cL_law 809 = .ok (.invokestatic 138, 3) := by decide +kernel
theorem dL_law_812 : decode cL_law 812 = .ok (.istore 6, 2) := by decide +kernel
theorem dL_law_814 : decode cL_law 814 = .ok (.aload_n 2, 1) := by decide +kernel
theorem dL_law_815 : decode cL_law 815 = .ok (.aload_n 0, 1) := by decide +kernel
theorem dL_law_816 : decode cL_law 816 = .ok (.iload 5, 2) := by decide +kernel
theorem dL_law_818 : decode cL_law 818 = .ok (.iconst 1, 1) := by decide +kernel
theorem dL_law_819 : decode cL_law 819 = .ok (.iadd, 1) := by decide +kernel
theorem dL_law_820 : decode cL_law 820 = .ok (.iaload, 1) := by decide +kernel
theorem dL_law_821 : decode cL_law 821 = .ok (.invokevirtual 140, 3) := by decide +kernel
theorem dL_law_824 : decode cL_law 824 = .ok (.istore 7, 2) := by decide +kernel
theorem dL_law_826 : decode cL_law 826 = .ok (.goto 70, 3) := by decide +kernel
theorem dL_law_829 : decode cL_law 829 = .ok (.aload_n 1, 1) := by decide +kernel
theorem dL_law_830 : decode cL_law 830 = .ok (.invokevirtual 141, 3) := by decide +kernel
theorem dL_law_833 : decode cL_law 833 = .ok (.pop, 1) := by decide +kernel
theorem dL_law_834 : decode cL_law 834 = .ok (.aload_n 2, 1) := by decide +kernel
theorem dL_law_835 : decode cL_law 835 = .ok (.invokevirtual 144, 3) := by decide +kernel
theorem dL_law_838 : decode cL_law 838 = .ok (.pop, 1) := by decide +kernel
theorem dL_law_839 : decode cL_law 839 = .ok (.goto 57, 3) := by decide +kernel
theorem dL_law_842 : decode cL_law 842 = .ok (.aload_n 1, 1) := by decide +kernel
theorem dL_law_843 : decode cL_law 843 = .ok (.aload_n 0, 1) := by decide +kernel
theorem dL_law_844 : decode cL_law 844 = .ok (.iload 5, 2) := by decide +kernel
theorem dL_law_846 : decode cL_law 846 = .ok (.iconst 1, 1) := by decide +kernel
theorem dL_law_847 : decode cL_law 847 = .ok (.iadd, 1) := by decide +kernel
theorem dL_law_848 : decode cL_law 848 = .ok (.iaload, 1) := by decide +kernel
theorem dL_law_849 : decode cL_law 849 = .ok (.aload_n 0, 1) := by decide +kernel
theorem dL_law_850 : decode cL_law 850 = .ok (.iload 5, 2) := by decide +kernel
theorem dL_law_852 : decode cL_law 852 = .ok (.iconst 2, 1) := by decide +kernel
theorem dL_law_853 : decode cL_law 853 = .ok (.iadd, 1) := by decide +kernel
theorem dL_law_854 : decode cL_law 854 = .ok (.iaload, 1) := by decide +kernel
theorem dL_law_855 : decode cL_law 855 = .ok (.aload_n 3, 1) := by decide +kernel
theorem dL_law_856 : decode cL_law 856 = .ok (.invokestatic 145, 3) := by decide +kernel
theorem dL_law_859 : decode cL_law 859 = .ok (.istore 6, 2) := by decide +kernel
theorem dL_law_861 : decode cL_law 861 = .ok (.aload_n 2, 1) := by decide +kernel
theorem dL_law_862 : decode cL_law 862 = .ok (.aload_n 0, 1) := by decide +kernel
theorem dL_law_863 : decode cL_law 863 = .ok (.iload 5, 2) := by decide +kernel
theorem dL_law_865 : decode cL_law 865 = .ok (.iconst 1, 1) := by decide +kernel
theorem dL_law_866 : decode cL_law 866 = .ok (.iadd, 1) := by decide +kernel
theorem dL_law_867 : decode cL_law 867 = .ok (.iaload, 1) := by decide +kernel
theorem dL_law_868 : decode cL_law 868 = .ok (.aload_n 0, 1) := by decide +kernel
theorem dL_law_869 : decode cL_law 869 = .ok (.iload 5, 2) := by decide +kernel
theorem dL_law_871 : decode cL_law 871 = .ok (.iconst 2, 1) := by decide +kernel
theorem dL_law_872 : decode cL_law 872 = .ok (.iadd, 1) := by decide +kernel
theorem dL_law_873 : decode cL_law 873 = .ok (.iaload, 1) := by decide +kernel
theorem dL_law_874 : decode cL_law 874 = .ok (.invokevirtual 147, 3) := by decide +kernel
theorem dL_law_877 : decode cL_law 877 = .ok (.istore 7, 2) := by decide +kernel
theorem dL_law_879 : decode cL_law 879 = .ok (.goto 17, 3) := by decide +kernel
theorem dL_law_882 : decode cL_law 882 = .ok (.aload_n 1, 1) := by decide +kernel
theorem dL_law_883 : decode cL_law 883 = .ok (.invokevirtual 148, 3) := by decide +kernel
theorem dL_law_886 : decode cL_law 886 = .ok (.aload_n 2, 1) := by decide +kernel
theorem dL_law_887 : decode cL_law 887 = .ok (.invokevirtual 152, 3) := by decide +kernel
theorem dL_law_890 : decode cL_law 890 = .ok (.lcmp, 1) := by decide +kernel
theorem dL_law_891 : decode cL_law 891 = .ok (.ifCond .eq 5, 3) := by decide +kernel
theorem dL_law_894 : decode cL_law 894 = .ok (.iconst 0, 1) := by decide +kernel
theorem dL_law_895 : decode cL_law 895 = .ok (.ireturn, 1) := by decide +kernel
theorem dL_law_896 : decode cL_law 896 = .ok (.iinc 5 5, 3) := by decide +kernel
theorem dL_law_899 : decode cL_law 899 = .ok (.goto (-871), 3) := by decide +kernel
theorem dL_law_902 : decode cL_law 902 = .ok (.iconst 1, 1) := by decide +kernel
theorem dL_law_903 : decode cL_law 903 = .ok (.ireturn, 1) := by decide +kernel
