/-! ===== the law: facts of its own body ===== -/
abbrev mL_law : am_M := (yL_law, code, 16, (some .boolean), [], 12, 444)
theorem cL_95 : Cond.classLink "PalmwardLaw" 95 "java/lang/IndexOutOfBoundsException" ∈ am_W := am_t3 211 rfl rfl
theorem lL_11 : am_cI "PalmwardLaw" 11 mX7_init 0 := ⟨gX7_init, am_t1 19 rfl rfl, am_t1 20 rfl rfl, rfl, rfl⟩
theorem lL_12 : am_cS "PalmwardLaw" 12 mL_cell 2 := ⟨gL_cell, am_t3 201 rfl rfl, am_t3 202 rfl rfl⟩
theorem lL_18 : am_cS "PalmwardLaw" 18 mL_below 2 := ⟨gL_below, am_t3 197 rfl rfl, am_t3 198 rfl rfl⟩
theorem lL_26 : am_cV "PalmwardLaw" 26 mX7_area 4 7 := ⟨gX7_area, am_t2 48 rfl rfl, am_t2 49 rfl rfl, am_t2 50 rfl rfl, _, rfl, rfl⟩
theorem lL_30 : am_cV "PalmwardLaw" 30 mX7_dial 1 7 := ⟨gX7_dial, am_t2 140 rfl rfl, am_t2 141 rfl rfl, am_t2 142 rfl rfl, _, rfl, rfl⟩
theorem lL_33 : am_cV "PalmwardLaw" 33 mX7_limit 1 7 := ⟨gX7_limit, am_t2 145 rfl rfl, am_t2 146 rfl rfl, am_t2 147 rfl rfl, _, rfl, rfl⟩
theorem lL_36 : am_cV "PalmwardLaw" 36 mX7_heat 1 7 := ⟨gX7_heat, am_t2 150 rfl rfl, am_t2 151 rfl rfl, am_t2 152 rfl rfl, _, rfl, rfl⟩
theorem lL_44 : am_cV "PalmwardLaw" 44 mX7_noise 2 7 := ⟨gX7_noise, am_t3 3 rfl rfl, am_t3 4 rfl rfl, am_t3 5 rfl rfl, _, rfl, rfl⟩
theorem lL_47 : am_cV "PalmwardLaw" 47 mX7_wipe 0 7 := ⟨gX7_wipe, am_t3 12 rfl rfl, am_t3 13 rfl rfl, am_t3 14 rfl rfl, _, rfl, rfl⟩
theorem lL_51 : am_cV "PalmwardLaw" 51 mX7_calmIn 0 7 := ⟨gX7_calmIn, am_t3 74 rfl rfl, am_t3 75 rfl rfl, am_t3 76 rfl rfl, _, rfl, rfl⟩
theorem jL_54 : am_cJ "PalmwardLaw" 54 Lib.Math.min.name Lib.Math.min.code 2 (some .int) := ⟨am_t4 110 rfl rfl, am_t2 191 rfl rfl, am_t1 14 rfl rfl, am_t2 192 rfl rfl⟩
theorem jL_57 : am_cJ "PalmwardLaw" 57 Lib.Math.max.name Lib.Math.max.code 2 (some .int) := ⟨am_t4 109 rfl rfl, am_t2 188 rfl rfl, am_t1 14 rfl rfl, am_t2 189 rfl rfl⟩
theorem lL_64 : am_cV "PalmwardLaw" 64 mX7_press 3 7 := ⟨gX7_press, am_t2 206 rfl rfl, am_t2 207 rfl rfl, am_t2 208 rfl rfl, _, rfl, rfl⟩
theorem lL_67 : am_cS "PalmwardLaw" 67 mL_isFrame 2 := ⟨gL_isFrame, am_t3 205 rfl rfl, am_t3 206 rfl rfl⟩
theorem lL_71 : am_cS "PalmwardLaw" 71 mL_areWell 1 := ⟨gL_areWell, am_t4 79 rfl rfl, am_t4 80 rfl rfl⟩
theorem lL_75 : am_cV "PalmwardLaw" 75 mX7_digest 0 7 := ⟨gX7_digest, am_t3 97 rfl rfl, am_t3 98 rfl rfl, am_t3 99 rfl rfl, _, rfl, rfl⟩
theorem dL_below_0 : decode cL_below 0 = .ok (.iload_n 0, 1) := by decide +kernel
theorem dL_below_1 : decode cL_below 1 = .ok (.ldc 7, 2) := by decide +kernel
theorem dL_below_3 : decode cL_below 3 = .ok (.iand, 1) := by decide +kernel
theorem dL_below_4 : decode cL_below 4 = .ok (.iload_n 1, 1) := by decide +kernel
theorem dL_below_5 : decode cL_below 5 = .ok (.irem, 1) := by decide +kernel
theorem dL_below_6 : decode cL_below 6 = .ok (.ireturn, 1) := by decide +kernel
theorem dL_cell_0 : decode cL_cell 0 = .ok (.iload_n 1, 1) := by decide +kernel
theorem dL_cell_1 : decode cL_cell 1 = .ok (.aload_n 0, 1) := by decide +kernel
theorem dL_cell_2 : decode cL_cell 2 = .ok (.arraylength, 1) := by decide +kernel
theorem dL_cell_3 : decode cL_cell 3 = .ok (.if_icmp .ge 9, 3) := by decide +kernel
theorem dL_cell_6 : decode cL_cell 6 = .ok (.aload_n 0, 1) := by decide +kernel
theorem dL_cell_7 : decode cL_cell 7 = .ok (.iload_n 1, 1) := by decide +kernel
theorem dL_cell_8 : decode cL_cell 8 = .ok (.iaload, 1) := by decide +kernel
theorem dL_cell_9 : decode cL_cell 9 = .ok (.goto 9, 3) := by decide +kernel
theorem dL_cell_12 : decode cL_cell 12 = .ok (.ldc 8, 2) := by decide +kernel
theorem dL_cell_14 : decode cL_cell 14 = .ok (.iload_n 1, 1) := by decide +kernel
theorem dL_cell_15 : decode cL_cell 15 = .ok (.iconst 3, 1) := by decide +kernel
theorem dL_cell_16 : decode cL_cell 16 = .ok (.iadd, 1) := by decide +kernel
theorem dL_cell_17 : decode cL_cell 17 = .ok (.imul, 1) := by decide +kernel
theorem dL_cell_18 : decode cL_cell 18 = .ok (.ireturn, 1) := by decide +kernel
theorem dL_law_0 : decode cL_law 0 = .ok (.new 9, 3) := by decide +kernel
theorem dL_law_3 : decode cL_law 3 = .ok (.dup, 1) := by decide +kernel
theorem dL_law_4 : decode cL_law 4 = .ok (.invokespecial 11, 3) := by decide +kernel
theorem dL_law_7 : decode cL_law 7 = .ok (.astore_n 1, 1) := by decide +kernel
theorem dL_law_8 : decode cL_law 8 = .ok (.iconst 4, 1) := by decide +kernel
theorem dL_law_9 : decode cL_law 9 = .ok (.newarray .int, 2) := by decide +kernel
theorem dL_law_11 : decode cL_law 11 = .ok (.dup, 1) := by decide +kernel
theorem dL_law_12 : decode cL_law 12 = .ok (.iconst 0, 1) := by decide +kernel
theorem dL_law_13 : decode cL_law 13 = .ok (.aload_n 0, 1) := by decide +kernel
theorem dL_law_14 : decode cL_law 14 = .ok (.iconst 0, 1) := by decide +kernel
theorem dL_law_15 : decode cL_law 15 = .ok (.invokestatic 12, 3) := by decide +kernel
theorem dL_law_18 : decode cL_law 18 = .ok (.bipush 48, 2) := by decide +kernel
theorem dL_law_20 : decode cL_law 20 = .ok (.invokestatic 18, 3) := by decide +kernel
theorem dL_law_23 : decode cL_law 23 = .ok (.iastore, 1) := by decide +kernel
theorem dL_law_24 : decode cL_law 24 = .ok (.dup, 1) := by decide +kernel
theorem dL_law_25 : decode cL_law 25 = .ok (.iconst 1, 1) := by decide +kernel
theorem dL_law_26 : decode cL_law 26 = .ok (.aload_n 0, 1) := by decide +kernel
theorem dL_law_27 : decode cL_law 27 = .ok (.iconst 1, 1) := by decide +kernel
theorem dL_law_28 : decode cL_law 28 = .ok (.invokestatic 12, 3) := by decide +kernel
theorem dL_law_31 : decode cL_law 31 = .ok (.bipush 48, 2) := by decide +kernel
theorem dL_law_33 : decode cL_law 33 = .ok (.invokestatic 18, 3) := by decide +kernel
theorem dL_law_36 : decode cL_law 36 = .ok (.iastore, 1) := by decide +kernel
theorem dL_law_37 : decode cL_law 37 = .ok (.dup, 1) := by decide +kernel
theorem dL_law_38 : decode cL_law 38 = .ok (.iconst 2, 1) := by decide +kernel
theorem dL_law_39 : decode cL_law 39 = .ok (.aload_n 0, 1) := by decide +kernel
theorem dL_law_40 : decode cL_law 40 = .ok (.iconst 2, 1) := by decide +kernel
theorem dL_law_41 : decode cL_law 41 = .ok (.invokestatic 12, 3) := by decide +kernel
theorem dL_law_44 : decode cL_law 44 = .ok (.bipush 48, 2) := by decide +kernel
theorem dL_law_46 : decode cL_law 46 = .ok (.invokestatic 18, 3) := by decide +kernel
theorem dL_law_49 : decode cL_law 49 = .ok (.iastore, 1) := by decide +kernel
theorem dL_law_50 : decode cL_law 50 = .ok (.dup, 1) := by decide +kernel
theorem dL_law_51 : decode cL_law 51 = .ok (.iconst 3, 1) := by decide +kernel
theorem dL_law_52 : decode cL_law 52 = .ok (.aload_n 0, 1) := by decide +kernel
theorem dL_law_53 : decode cL_law 53 = .ok (.iconst 3, 1) := by decide +kernel
theorem dL_law_54 : decode cL_law 54 = .ok (.invokestatic 12, 3) := by decide +kernel
theorem dL_law_57 : decode cL_law 57 = .ok (.bipush 48, 2) := by decide +kernel
theorem dL_law_59 : decode cL_law 59 = .ok (.invokestatic 18, 3) := by decide +kernel
theorem dL_law_62 : decode cL_law 62 = .ok (.iastore, 1) := by decide +kernel
theorem dL_law_63 : decode cL_law 63 = .ok (.astore_n 2, 1) := by decide +kernel
theorem dL_law_64 : decode cL_law 64 = .ok (.bipush 12, 2) := by decide +kernel
theorem dL_law_66 : decode cL_law 66 = .ok (.istore_n 3, 1) := by decide +kernel
theorem dL_law_67 : decode cL_law 67 = .ok (.iconst 0, 1) := by decide +kernel
theorem dL_law_68 : decode cL_law 68 = .ok (.istore 4, 2) := by decide +kernel
theorem dL_law_70 : decode cL_law 70 = .ok (.iload 4, 2) := by decide +kernel
theorem dL_law_72 : decode cL_law 72 = .ok (.bipush 44, 2) := by decide +kernel
theorem dL_law_74 : decode cL_law 74 = .ok (.if_icmp .ge 496, 3) := by decide +kernel
theorem dL_law_77 : decode cL_law 77 = .ok (.aload_n 0, 1) := by decide +kernel
theorem dL_law_78 : decode cL_law 78 = .ok (.iload 4, 2) := by decide +kernel
theorem dL_law_80 : decode cL_law 80 = .ok (.bipush 16, 2) := by decide +kernel
theorem dL_law_82 : decode cL_law 82 = .ok (.irem, 1) := by decide +kernel
theorem dL_law_83 : decode cL_law 83 = .ok (.invokestatic 12, 3) := by decide +kernel
theorem dL_law_86 : decode cL_law 86 = .ok (.bipush 31, 2) := by decide +kernel
theorem dL_law_88 : decode cL_law 88 = .ok (.iload 4, 2) := by decide +kernel
theorem dL_law_90 : decode cL_law 90 = .ok (.imul, 1) := by decide +kernel
theorem dL_law_91 : decode cL_law 91 = .ok (.iadd, 1) := by decide +kernel
theorem dL_law_92 : decode cL_law 92 = .ok (.istore 5, 2) := by decide +kernel
theorem dL_law_94 : decode cL_law 94 = .ok (.aload_n 0, 1) := by decide +kernel
theorem dL_law_95 : decode cL_law 95 = .ok (.bipush 7, 2) := by decide +kernel
theorem dL_law_97 : decode cL_law 97 = .ok (.iload 4, 2) := by decide +kernel
theorem dL_law_99 : decode cL_law 99 = .ok (.imul, 1) := by decide +kernel
theorem dL_law_100 : decode cL_law 100 = .ok (.iconst 3, 1) := by decide +kernel
theorem dL_law_101 : decode cL_law 101 = .ok (.iadd, 1) := by decide +kernel
theorem dL_law_102 : decode cL_law 102 = .ok (.bipush 16, 2) := by decide +kernel
theorem dL_law_104 : decode cL_law 104 = .ok (.irem, 1) := by decide +kernel
theorem dL_law_105 : decode cL_law 105 = .ok (.invokestatic 12, 3) := by decide +kernel
theorem dL_law_108 : decode cL_law 108 = .ok (.iconst 5, 1) := by decide +kernel
theorem dL_law_109 : decode cL_law 109 = .ok (.iload 4, 2) := by decide +kernel
theorem dL_law_111 : decode cL_law 111 = .ok (.imul, 1) := by decide +kernel
theorem dL_law_112 : decode cL_law 112 = .ok (.iadd, 1) := by decide +kernel
theorem dL_law_113 : decode cL_law 113 = .ok (.istore 6, 2) := by decide +kernel
theorem dL_law_115 : decode cL_law 115 = .ok (.iload 5, 2) := by decide +kernel
theorem dL_law_117 : decode cL_law 117 = .ok (.bipush 13, 2) := by decide +kernel
theorem dL_law_119 : decode cL_law 119 = .ok (.invokestatic 18, 3) := by decide +kernel
theorem dL_law_122 : decode cL_law 122 = .ok (.tableswitch 241 0 5 #[38, 92, 110, 139, 174, 208], 38) := by decide +kernel
theorem dL_law_160 : decode cL_law 160 = .ok (.iload 5, 2) := by decide +kernel
theorem dL_law_162 : decode cL_law 162 = .ok (.iconst 3, 1) := by decide +kernel
theorem dL_law_163 : decode cL_law 163 = .ok (.idiv, 1) := by decide +kernel
theorem dL_law_164 : decode cL_law 164 = .ok (.bipush 8, 2) := by decide +kernel
theorem dL_law_166 : decode cL_law 166 = .ok (.invokestatic 18, 3) := by decide +kernel
theorem dL_law_169 : decode cL_law 169 = .ok (.istore 7, 2) := by decide +kernel
theorem dL_law_171 : decode cL_law 171 = .ok (.iload 6, 2) := by decide +kernel
theorem dL_law_173 : decode cL_law 173 = .ok (.bipush 6, 2) := by decide +kernel
theorem dL_law_175 : decode cL_law 175 = .ok (.invokestatic 18, 3) := by decide +kernel
theorem dL_law_178 : decode cL_law 178 = .ok (.istore 8, 2) := by decide +kernel
theorem dL_law_180 : decode cL_law 180 = .ok (.aload_n 1, 1) := by decide +kernel
theorem dL_law_181 : decode cL_law 181 = .ok (.bipush 6, 2) := by decide +kernel
theorem dL_law_183 : decode cL_law 183 = .ok (.invokevirtual 22, 3) := by decide +kernel
theorem dL_law_186 : decode cL_law 186 = .ok (.iconst 4, 1) := by decide +kernel
theorem dL_law_187 : decode cL_law 187 = .ok (.if_icmp .ge 368, 3) := by decide +kernel
theorem dL_law_190 : decode cL_law 190 = .ok (.aload_n 1, 1) := by decide +kernel
theorem dL_law_191 : decode cL_law 191 = .ok (.iload 7, 2) := by decide +kernel
theorem dL_law_193 : decode cL_law 193 = .ok (.bipush 7, 2) := by decide +kernel
theorem dL_law_195 : decode cL_law 195 = .ok (.iload 8, 2) := by decide +kernel
theorem dL_law_197 : decode cL_law 197 = .ok (.iconst 5, 1) := by decide +kernel
theorem dL_law_198 : decode cL_law 198 = .ok (.invokevirtual 26, 3) := by decide +kernel
theorem dL_law_201 : decode cL_law 201 = .ok (.aload_n 1, 1) := by decide +kernel
theorem dL_law_202 : decode cL_law 202 = .ok (.bipush 6, 2) := by decide +kernel
theorem dL_law_204 : decode cL_law 204 = .ok (.invokevirtual 22, 3) := by decide +kernel
theorem dL_law_207 : decode cL_law 207 = .ok (.iconst 1, 1) := by decide +kernel
theorem dL_law_208 : decode cL_law 208 = .ok (.isub, 1) := by decide +kernel
theorem dL_law_209 : decode cL_law 209 = .ok (.if_icmp .eq 346, 3) := by decide +kernel
theorem dL_law_212 : decode cL_law 212 = .ok (.iconst 0, 1) := by decide +kernel
theorem dL_law_213 : decode cL_law 213 = .ok (.ireturn, 1) := by decide +kernel
theorem dL_law_214 : decode cL_law 214 = .ok (.aload_n 1, 1) := by decide +kernel
theorem dL_law_215 : decode cL_law 215 = .ok (.iconst 1, 1) := by decide +kernel
theorem dL_law_216 : decode cL_law 216 = .ok (.iload 6, 2) := by decide +kernel
theorem dL_law_218 : decode cL_law 218 = .ok (.iconst 4, 1) := by decide +kernel
theorem dL_law_219 : decode cL_law 219 = .ok (.invokestatic 18, 3) := by decide +kernel
theorem dL_law_222 : decode cL_law 222 = .ok (.iadd, 1) := by decide +kernel
theorem dL_law_223 : decode cL_law 223 = .ok (.invokevirtual 30, 3) := by decide +kernel
theorem dL_law_226 : decode cL_law 226 = .ok (.iconst 1, 1) := by decide +kernel
theorem dL_law_227 : decode cL_law 227 = .ok (.if_icmp .ge 328, 3) := by decide +kernel
theorem dL_law_230 : decode cL_law 230 = .ok (.iconst 0, 1) := by decide +kernel
theorem dL_law_231 : decode cL_law 231 = .ok (.ireturn, 1) := by decide +kernel
theorem dL_law_232 : decode cL_law 232 = .ok (.iconst 4, 1) := by decide +kernel
theorem dL_law_233 : decode cL_law 233 = .ok (.iload 6, 2) := by decide +kernel
theorem dL_law_235 : decode cL_law 235 = .ok (.bipush 27, 2) := by decide +kernel
theorem dL_law_237 : decode cL_law 237 = .ok (.invokestatic 18, 3) := by decide +kernel
theorem dL_law_240 : decode cL_law 240 = .ok (.iadd, 1) := by decide +kernel
theorem dL_law_241 : decode cL_law 241 = .ok (.istore 9, 2) := by decide +kernel
theorem dL_law_243 : decode cL_law 243 = .ok (.aload_n 1, 1) := by decide +kernel
theorem dL_law_244 : decode cL_law 244 = .ok (.iload 9, 2) := by decide +kernel
theorem dL_law_246 : decode cL_law 246 = .ok (.invokevirtual 33, 3) := by decide +kernel
theorem dL_law_249 : decode cL_law 249 = .ok (.iload_n 3, 1) := by decide +kernel
theorem dL_law_250 : decode cL_law 250 = .ok (.if_icmp .eq 5, 3) := by decide +kernel
theorem dL_law_253 : decode cL_law 253 = .ok (.iconst 0, 1) := by decide +kernel
theorem dL_law_254 : decode cL_law 254 = .ok (.ireturn, 1) := by decide +kernel
theorem dL_law_255 : decode cL_law 255 = .ok (.iload 9, 2) := by decide +kernel
theorem dL_law_257 : decode cL_law 257 = .ok (.istore_n 3, 1) := by decide +kernel
theorem dL_law_258 : decode cL_law 258 = .ok (.goto 297, 3) := by decide +kernel
theorem dL_law_261 : decode cL_law 261 = .ok (.iload 6, 2) := by decide +kernel
theorem dL_law_263 : decode cL_law 263 = .ok (.iconst 3, 1) := by decide +kernel
theorem dL_law_264 : decode cL_law 264 = .ok (.invokestatic 18, 3) := by decide +kernel
theorem dL_law_267 : decode cL_law 267 = .ok (.ifCond .ne 288, 3) := by decide +kernel
theorem dL_law_270 : decode cL_law 270 = .ok (.aload_n 1, 1) := by decide +kernel
theorem dL_law_271 : decode cL_law 271 = .ok (.iload 5, 2) := by decide +kernel
theorem dL_law_273 : decode cL_law 273 = .ok (.iconst 3, 1) := by decide +kernel
theorem dL_law_274 : decode cL_law 274 = .ok (.idiv, 1) := by decide +kernel
theorem dL_law_275 : decode cL_law 275 = .ok (.bipush 61, 2) := by decide +kernel
theorem dL_law_277 : decode cL_law 277 = .ok (.invokestatic 18, 3) := by decide +kernel
theorem dL_law_280 : decode cL_law 280 = .ok (.bipush 30, 2) := by decide +kernel
theorem dL_law_282 : decode cL_law 282 = .ok (.isub, 1) := by decide +kernel
theorem dL_law_283 : decode cL_law 283 = .ok (.invokevirtual 36, 3) := by decide +kernel
theorem dL_law_286 : decode cL_law 286 = .ok (.invokestatic 39, 3) := by decide +kernel
theorem dL_law_289 : decode cL_law 289 = .ok (.bipush 30, 2) := by decide +kernel
theorem dL_law_291 : decode cL_law 291 = .ok (.if_icmp .le 264, 3) := by decide +kernel
theorem dL_law_294 : decode cL_law 294 = .ok (.iconst 0, 1) := by decide +kernel
theorem dL_law_295 : decode cL_law 295 = .ok (.ireturn, 1) := by decide +kernel
theorem dL_law_296 : decode cL_law 296 = .ok (.aload_n 1, 1) := by decide +kernel
theorem dL_law_297 : decode cL_law 297 = .ok (.iload 5, 2) := by decide +kernel
theorem dL_law_299 : decode cL_law 299 = .ok (.iconst 3, 1) := by decide +kernel
theorem dL_law_300 : decode cL_law 300 = .ok (.idiv, 1) := by decide +kernel
theorem dL_law_301 : decode cL_law 301 = .ok (.bipush 6, 2) := by decide +kernel
theorem dL_law_303 : decode cL_law 303 = .ok (.invokestatic 18, 3) := by decide +kernel
theorem dL_law_306 : decode cL_law 306 = .ok (.iload 6, 2) := by decide +kernel
theorem dL_law_308 : decode cL_law 308 = .ok (.bipush 81, 2) := by decide +kernel
theorem dL_law_310 : decode cL_law 310 = .ok (.invokestatic 18, 3) := by decide +kernel
theorem dL_law_313 : decode cL_law 313 = .ok (.bipush 40, 2) := by decide +kernel
theorem dL_law_315 : decode cL_law 315 = .ok (.isub, 1) := by decide +kernel
theorem dL_law_316 : decode cL_law 316 = .ok (.invokevirtual 44, 3) := by decide +kernel
theorem dL_law_319 : decode cL_law 319 = .ok (.aload_n 1, 1) := by decide +kernel
theorem dL_law_320 : decode cL_law 320 = .ok (.bipush 7, 2) := by decide +kernel
theorem dL_law_322 : decode cL_law 322 = .ok (.invokevirtual 22, 3) := by decide +kernel
theorem dL_law_325 : decode cL_law 325 = .ok (.if_icmp .eq 230, 3) := by decide +kernel
theorem dL_law_328 : decode cL_law 328 = .ok (.iconst 0, 1) := by decide +kernel
theorem dL_law_329 : decode cL_law 329 = .ok (.ireturn, 1) := by decide +kernel
theorem dL_law_330 : decode cL_law 330 = .ok (.iload 6, 2) := by decide +kernel
theorem dL_law_332 : decode cL_law 332 = .ok (.iconst 5, 1) := by decide +kernel
theorem dL_law_333 : decode cL_law 333 = .ok (.invokestatic 18, 3) := by decide +kernel
theorem dL_law_336 : decode cL_law 336 = .ok (.ifCond .ne 219, 3) := by decide +kernel
theorem dL_law_339 : decode cL_law 339 = .ok (.aload_n 1, 1) := by decide +kernel
theorem dL_law_340 : decode cL_law 340 = .ok (.invokevirtual 47, 3) := by decide +kernel
theorem dL_law_343 : decode cL_law 343 = .ok (.ifCond .lt 18, 3) := by decide +kernel
theorem dL_law_346 : decode cL_law 346 = .ok (.aload_n 1, 1) := by decide +kernel
theorem dL_law_347 : decode cL_law 347 = .ok (.iconst 2, 1) := by decide +kernel
theorem dL_law_348 : decode cL_law 348 = .ok (.invokevirtual 22, 3) := by decide +kernel
theorem dL_law_351 : decode cL_law 351 = .ok (.ifCond .ne 10, 3) := by decide +kernel
theorem dL_law_354 : decode cL_law 354 = .ok (.aload_n 1, 1) := by decide +kernel
theorem dL_law_355 : decode cL_law 355 = .ok (.invokevirtual 51, 3) := by decide +kernel
theorem dL_law_358 : decode cL_law 358 = .ok (.ifCond .eq 197, 3) := by decide +kernel
theorem dL_law_361 : decode cL_law 361 = .ok (.iconst 0, 1) := by decide +kernel
theorem dL_law_362 : decode cL_law 362 = .ok (.ireturn, 1) := by decide +kernel
theorem dL_law_363 : decode cL_law 363 = .ok (.iconst 0, 1) := by decide +kernel
theorem dL_law_364 : decode cL_law 364 = .ok (.istore 10, 2) := by decide +kernel
theorem dL_law_366 : decode cL_law 366 = .ok (.iload 10, 2) := by decide +kernel
theorem dL_law_368 : decode cL_law 368 = .ok (.iconst 4, 1) := by decide +kernel
theorem dL_law_369 : decode cL_law 369 = .ok (.if_icmp .ge 176, 3) := by decide +kernel
theorem dL_law_372 : decode cL_law 372 = .ok (.iload 5, 2) := by decide +kernel
theorem dL_law_374 : decode cL_law 374 = .ok (.iconst 2, 1) := by decide +kernel
theorem dL_law_375 : decode cL_law 375 = .ok (.iload 10, 2) := by decide +kernel
theorem dL_law_377 : decode cL_law 377 = .ok (.imul, 1) := by decide +kernel
theorem dL_law_378 : decode cL_law 378 = .ok (.iconst 3, 1) := by decide +kernel
theorem dL_law_379 : decode cL_law 379 = .ok (.iadd, 1) := by decide +kernel
theorem dL_law_380 : decode cL_law 380 = .ok (.idiv, 1) := by decide +kernel
theorem dL_law_381 : decode cL_law 381 = .ok (.bipush 7, 2) := by decide +kernel
theorem dL_law_383 : decode cL_law 383 = .ok (.invokestatic 18, 3) := by decide +kernel
theorem dL_law_386 : decode cL_law 386 = .ok (.istore 11, 2) := by decide +kernel
theorem dL_law_388 : decode cL_law 388 = .ok (.iconst 0, 1) := by decide +kernel
theorem dL_law_389 : decode cL_law 389 = .ok (.bipush 7, 2) := by decide +kernel
theorem dL_law_391 : decode cL_law 391 = .ok (.aload_n 2, 1) := by decide +kernel
theorem dL_law_392 : decode cL_law 392 = .ok (.iload 10, 2) := by decide +kernel
theorem dL_law_394 : decode cL_law 394 = .ok (.iaload, 1) := by decide +kernel
theorem dL_law_395 : decode cL_law 395 = .ok (.bipush 8, 2) := by decide +kernel
theorem dL_law_397 : decode cL_law 397 = .ok (.irem, 1) := by decide +kernel
theorem dL_law_398 : decode cL_law 398 = .ok (.iload 11, 2) := by decide +kernel
theorem dL_law_400 : decode cL_law 400 = .ok (.ifCond .ne 7, 3) := by decide +kernel
theorem dL_law_403 : decode cL_law 403 = .ok (.iconst 1, 1) := by decide +kernel
theorem dL_law_404 : decode cL_law 404 = .ok (.goto 14, 3) := by decide +kernel
theorem dL_law_407 : decode cL_law 407 = .ok (.iload 11, 2) := by decide +kernel
theorem dL_law_409 : decode cL_law 409 = .ok (.iconst 1, 1) := by decide +kernel
theorem dL_law_410 : decode cL_law 410 = .ok (.if_icmp .ne 7, 3) := by decide +kernel
theorem dL_law_413 : decode cL_law 413 = .ok (.iconst (-1), 1) := by decide +kernel
theorem dL_law_414 : decode cL_law 414 = .ok (.goto 4, 3) := by decide +kernel
theorem dL_law_417 : decode cL_law 417 = .ok (.iconst 0, 1) := by decide +kernel
theorem dL_law_418 : decode cL_law 418 = .ok (.iadd, 1) := by decide +kernel
theorem dL_law_419 : decode cL_law 419 = .ok (.invokestatic 54, 3) := by decide +kernel
theorem dL_law_422 : decode cL_law 422 = .ok (.invokestatic 57, 3) := by decide +kernel
theorem dL_law_425 : decode cL_law 425 = .ok (.istore 12, 2) := by decide +kernel
theorem dL_law_427 : decode cL_law 427 = .ok (.iconst 0, 1) := by decide +kernel
theorem dL_law_428 : decode cL_law 428 = .ok (.iconst 5, 1) := by decide +kernel
theorem dL_law_429 : decode cL_law 429 = .ok (.aload_n 2, 1) := by decide +kernel
theorem dL_law_430 : decode cL_law 430 = .ok (.iload 10, 2) := by decide +kernel
theorem dL_law_432 : decode cL_law 432 = .ok (.iaload, 1) := by decide +kernel
theorem dL_law_433 : decode cL_law 433 = .ok (.bipush 8, 2) := by decide +kernel
theorem dL_law_435 : decode cL_law 435 = .ok (.idiv, 1) := by decide +kernel
theorem dL_law_436 : decode cL_law 436 = .ok (.iload 11, 2) := by decide +kernel
theorem dL_law_438 : decode cL_law 438 = .ok (.iconst 2, 1) := by decide +kernel
theorem dL_law_439 : decode cL_law 439 = .ok (.if_icmp .ne 7, 3) := by decide +kernel
theorem dL_law_442 : decode cL_law 442 = .ok (.iconst 1, 1) := by decide +kernel
theorem dL_law_443 : decode cL_law 443 = .ok (.goto 14, 3) := by decide +kernel
theorem dL_law_446 : decode cL_law 446 = .ok (.iload 11, 2) := by decide +kernel
theorem dL_law_448 : decode cL_law 448 = .ok (.iconst 3, 1) := by decide +kernel
theorem dL_law_449 : decode cL_law 449 = .ok (.if_icmp .ne 7, 3) := by decide +kernel
theorem dL_law_452 : decode cL_law 452 = .ok (.iconst (-1), 1) := by decide +kernel
theorem dL_law_453 : decode cL_law 453 = .ok (.goto 4, 3) := by decide +kernel
theorem dL_law_456 : decode cL_law 456 = .ok (.iconst 0, 1) := by decide +kernel
theorem dL_law_457 : decode cL_law 457 = .ok (.iadd, 1) := by decide +kernel
theorem dL_law_458 : decode cL_law 458 = .ok (.invokestatic 54, 3) := by decide +kernel
theorem dL_law_461 : decode cL_law 461 = .ok (.invokestatic 57, 3) := by decide +kernel
theorem dL_law_464 : decode cL_law 464 = .ok (.istore 13, 2) := by decide +kernel
theorem dL_law_466 : decode cL_law 466 = .ok (.aload_n 2, 1) := by decide +kernel
theorem dL_law_467 : decode cL_law 467 = .ok (.iload 10, 2) := by decide +kernel
theorem dL_law_469 : decode cL_law 469 = .ok (.bipush 8, 2) := by decide +kernel
theorem dL_law_471 : decode cL_law 471 = .ok (.iload 13, 2) := by decide +kernel
theorem dL_law_473 : decode cL_law 473 = .ok (.imul, 1) := by decide +kernel
theorem dL_law_474 : decode cL_law 474 = .ok (.iload 12, 2) := by decide +kernel
theorem dL_law_476 : decode cL_law 476 = .ok (.iadd, 1) := by decide +kernel
theorem dL_law_477 : decode cL_law 477 = .ok (.iastore, 1) := by decide +kernel
theorem dL_law_478 : decode cL_law 478 = .ok (.aload_n 1, 1) := by decide +kernel
theorem dL_law_479 : decode cL_law 479 = .ok (.iload 12, 2) := by decide +kernel
theorem dL_law_481 : decode cL_law 481 = .ok (.iload 13, 2) := by decide +kernel
theorem dL_law_483 : decode cL_law 483 = .ok (.iconst 2, 1) := by decide +kernel
theorem dL_law_484 : decode cL_law 484 = .ok (.invokevirtual 60, 3) := by decide +kernel
theorem dL_law_487 : decode cL_law 487 = .ok (.istore 14, 2) := by decide +kernel
theorem dL_law_489 : decode cL_law 489 = .ok (.bipush 30, 2) := by decide +kernel
theorem dL_law_491 : decode cL_law 491 = .ok (.iload 6, 2) := by decide +kernel
theorem dL_law_493 : decode cL_law 493 = .ok (.iconst 5, 1) := by decide +kernel
theorem dL_law_494 : decode cL_law 494 = .ok (.idiv, 1) := by decide +kernel
theorem dL_law_495 : decode cL_law 495 = .ok (.bipush 60, 2) := by decide +kernel
theorem dL_law_497 : decode cL_law 497 = .ok (.invokestatic 18, 3) := by decide +kernel
theorem dL_law_500 : decode cL_law 500 = .ok (.iadd, 1) := by decide +kernel
theorem dL_law_501 : decode cL_law 501 = .ok (.istore 15, 2) := by decide +kernel
theorem dL_law_503 : decode cL_law 503 = .ok (.iload 6, 2) := by decide +kernel
theorem dL_law_505 : decode cL_law 505 = .ok (.iconst 3, 1) := by decide +kernel
theorem dL_law_506 : decode cL_law 506 = .ok (.iload 10, 2) := by decide +kernel
theorem dL_law_508 : decode cL_law 508 = .ok (.imul, 1) := by decide +kernel
theorem dL_law_509 : decode cL_law 509 = .ok (.iconst 5, 1) := by decide +kernel
theorem dL_law_510 : decode cL_law 510 = .ok (.iadd, 1) := by decide +kernel
theorem dL_law_511 : decode cL_law 511 = .ok (.idiv, 1) := by decide +kernel
theorem dL_law_512 : decode cL_law 512 = .ok (.iconst 5, 1) := by decide +kernel
theorem dL_law_513 : decode cL_law 513 = .ok (.invokestatic 18, 3) := by decide +kernel
theorem dL_law_516 : decode cL_law 516 = .ok (.ifCond .le 23, 3) := by decide +kernel
theorem dL_law_519 : decode cL_law 519 = .ok (.aload_n 1, 1) := by decide +kernel
theorem dL_law_520 : decode cL_law 520 = .ok (.iload 12, 2) := by decide +kernel
theorem dL_law_522 : decode cL_law 522 = .ok (.iload 13, 2) := by decide +kernel
theorem dL_law_524 : decode cL_law 524 = .ok (.iload 15, 2) := by decide +kernel
theorem dL_law_526 : decode cL_law 526 = .ok (.invokevirtual 64, 3) := by decide +kernel
theorem dL_law_529 : decode cL_law 529 = .ok (.iload 14, 2) := by decide +kernel
theorem dL_law_531 : decode cL_law 531 = .ok (.iload 15, 2) := by decide +kernel
theorem dL_law_533 : decode cL_law 533 = .ok (.iadd, 1) := by decide +kernel
theorem dL_law_534 : decode cL_law 534 = .ok (.if_icmp .eq 5, 3) := by decide +kernel
theorem dL_law_537 : decode cL_law 537 = .ok (.iconst 0, 1) := by decide +kernel
theorem dL_law_538 : decode cL_law 538 = .ok (.ireturn, 1) := by decide +kernel
theorem dL_law_539 : decode cL_law 539 = .ok (.iinc 10 1, 3) := by decide +kernel
theorem dL_law_542 : decode cL_law 542 = .ok (.goto (-176), 3) := by decide +kernel
theorem dL_law_545 : decode cL_law 545 = .ok (.aload_n 1, 1) := by decide +kernel
theorem dL_law_546 : decode cL_law 546 = .ok (.iload_n 3, 1) := by decide +kernel
theorem dL_law_547 : decode cL_law 547 = .ok (.invokestatic 67, 3) := by decide +kernel
theorem dL_law_550 : decode cL_law 550 = .ok (.ifCond .ne 5, 3) := by decide +kernel
theorem dL_law_553 : decode cL_law 553 = .ok (.iconst 0, 1) := by decide +kernel
theorem dL_law_554 : decode cL_law 554 = .ok (.ireturn, 1) := by decide +kernel
theorem dL_law_555 : decode cL_law 555 = .ok (.aload_n 1, 1) := by decide +kernel
theorem dL_law_556 : decode cL_law 556 = .ok (.invokestatic 71, 3) := by decide +kernel
theorem dL_law_559 : decode cL_law 559 = .ok (.ifCond .ne 5, 3) := by decide +kernel
theorem dL_law_562 : decode cL_law 562 = .ok (.iconst 0, 1) := by decide +kernel
theorem dL_law_563 : decode cL_law 563 = .ok (.ireturn, 1) := by decide +kernel
theorem dL_law_564 : decode cL_law 564 = .ok (.iinc 4 1, 3) := by decide +kernel
theorem dL_law_567 : decode cL_law 567 = .ok (.goto (-497), 3) := by decide +kernel
theorem dL_law_570 : decode cL_law 570 = .ok (.aload_n 1, 1) := by decide +kernel
theorem dL_law_571 : decode cL_law 571 = .ok (.invokevirtual 75, 3) := by decide +kernel
theorem dL_law_574 : decode cL_law 574 = .ok (.lstore 4, 2) := by decide +kernel
theorem dL_law_576 : decode cL_law 576 = .ok (.aload_n 1, 1) := by decide +kernel
theorem dL_law_577 : decode cL_law 577 = .ok (.invokevirtual 51, 3) := by decide +kernel
theorem dL_law_580 : decode cL_law 580 = .ok (.istore 6, 2) := by decide +kernel
theorem dL_law_582 : decode cL_law 582 = .ok (.iload 6, 2) := by decide +kernel
theorem dL_law_584 : decode cL_law 584 = .ok (.iconst (-1), 1) := by decide +kernel
theorem dL_law_585 : decode cL_law 585 = .ok (.if_icmp .lt 24, 3) := by decide +kernel
theorem dL_law_588 : decode cL_law 588 = .ok (.iload 6, 2) := by decide +kernel
theorem dL_law_590 : decode cL_law 590 = .ok (.bipush 60, 2) := by decide +kernel
theorem dL_law_592 : decode cL_law 592 = .ok (.if_icmp .gt 17, 3) := by decide +kernel
theorem dL_law_595 : decode cL_law 595 = .ok (.aload_n 1, 1) := by decide +kernel
theorem dL_law_596 : decode cL_law 596 = .ok (.invokevirtual 75, 3) := by decide +kernel
theorem dL_law_599 : decode cL_law 599 = .ok (.lload 4, 2) := by decide +kernel
theorem dL_law_601 : decode cL_law 601 = .ok (.lcmp, 1) := by decide +kernel
theorem dL_law_602 : decode cL_law 602 = .ok (.ifCond .ne 7, 3) := by decide +kernel
theorem dL_law_605 : decode cL_law 605 = .ok (.iconst 1, 1) := by decide +kernel
theorem dL_law_606 : decode cL_law 606 = .ok (.goto 4, 3) := by decide +kernel
theorem dL_law_609 : decode cL_law 609 = .ok (.iconst 0, 1) := by decide +kernel
theorem dL_law_610 : decode cL_law 610 = .ok (.ireturn, 1) := by decide +kernel
theorem dL_isFrame_0 : decode cL_isFrame 0 = .ok (.aload_n 0, 1) := by decide +kernel
theorem dL_isFrame_1 : decode cL_isFrame 1 = .ok (.bipush 7, 2) := by decide +kernel
theorem dL_isFrame_3 : decode cL_isFrame 3 = .ok (.invokevirtual 22, 3) := by decide +kernel
theorem dL_isFrame_6 : decode cL_isFrame 6 = .ok (.iload_n 1, 1) := by decide +kernel
theorem dL_isFrame_7 : decode cL_isFrame 7 = .ok (.if_icmp .le 7, 3) := by decide +kernel
theorem dL_isFrame_10 : decode cL_isFrame 10 = .ok (.iconst 1, 1) := by decide +kernel
theorem dL_isFrame_11 : decode cL_isFrame 11 = .ok (.goto 4, 3) := by decide +kernel
theorem dL_isFrame_14 : decode cL_isFrame 14 = .ok (.iconst 0, 1) := by decide +kernel
theorem dL_isFrame_15 : decode cL_isFrame 15 = .ok (.istore_n 2, 1) := by decide +kernel
theorem dL_isFrame_16 : decode cL_isFrame 16 = .ok (.iconst 5, 1) := by decide +kernel
theorem dL_isFrame_17 : decode cL_isFrame 17 = .ok (.newarray .int, 2) := by decide +kernel
theorem dL_isFrame_19 : decode cL_isFrame 19 = .ok (.astore_n 3, 1) := by decide +kernel
theorem dL_isFrame_20 : decode cL_isFrame 20 = .ok (.iconst 5, 1) := by decide +kernel
theorem dL_isFrame_21 : decode cL_isFrame 21 = .ok (.newarray .int, 2) := by decide +kernel
theorem dL_isFrame_23 : decode cL_isFrame 23 = .ok (.astore 4, 2) := by decide +kernel
theorem dL_isFrame_25 : decode cL_isFrame 25 = .ok (.iconst 5, 1) := by decide +kernel
theorem dL_isFrame_26 : decode cL_isFrame 26 = .ok (.newarray .boolean, 2) := by decide +kernel
theorem dL_isFrame_28 : decode cL_isFrame 28 = .ok (.astore 5, 2) := by decide +kernel
theorem dL_isFrame_30 : decode cL_isFrame 30 = .ok (.iconst 0, 1) := by decide +kernel
theorem dL_isFrame_31 : decode cL_isFrame 31 = .ok (.istore 6, 2) := by decide +kernel
theorem dL_isFrame_33 : decode cL_isFrame 33 = .ok (.iload 6, 2) := by decide +kernel
theorem dL_isFrame_35 : decode cL_isFrame 35 = .ok (.iconst 5, 1) := by decide +kernel
theorem dL_isFrame_36 : decode cL_isFrame 36 = .ok (.if_icmp .ge 72, 3) := by decide +kernel
theorem dL_isFrame_39 : decode cL_isFrame 39 = .ok (.aload 4, 2) := by decide +kernel
theorem dL_isFrame_41 : decode cL_isFrame 41 = .ok (.iload 6, 2) := by decide +kernel
theorem dL_isFrame_43 : decode cL_isFrame 43 = .ok (.aload_n 0, 1) := by decide +kernel
theorem dL_isFrame_44 : decode cL_isFrame 44 = .ok (.iload 6, 2) := by decide +kernel
theorem dL_isFrame_46 : decode cL_isFrame 46 = .ok (.invokestatic 79, 3) := by decide +kernel
theorem dL_isFrame_49 : decode cL_isFrame 49 = .ok (.iastore, 1) := by decide +kernel
theorem dL_isFrame_50 : decode cL_isFrame 50 = .ok (.aload_n 3, 1) := by decide +kernel
theorem dL_isFrame_51 : decode cL_isFrame 51 = .ok (.iload 6, 2) := by decide +kernel
theorem dL_isFrame_53 : decode cL_isFrame 53 = .ok (.aload 4, 2) := by decide +kernel
theorem dL_isFrame_55 : decode cL_isFrame 55 = .ok (.iload 6, 2) := by decide +kernel
theorem dL_isFrame_57 : decode cL_isFrame 57 = .ok (.iaload, 1) := by decide +kernel
theorem dL_isFrame_58 : decode cL_isFrame 58 = .ok (.ifCond .le 12, 3) := by decide +kernel
theorem dL_isFrame_61 : decode cL_isFrame 61 = .ok (.aload_n 0, 1) := by decide +kernel
theorem dL_isFrame_62 : decode cL_isFrame 62 = .ok (.iload 6, 2) := by decide +kernel
theorem dL_isFrame_64 : decode cL_isFrame 64 = .ok (.invokevirtual 83, 3) := by decide +kernel
theorem dL_isFrame_67 : decode cL_isFrame 67 = .ok (.goto 4, 3) := by decide +kernel
theorem dL_isFrame_70 : decode cL_isFrame 70 = .ok (.iconst (-1), 1) := by decide +kernel
theorem dL_isFrame_71 : decode cL_isFrame 71 = .ok (.iastore, 1) := by decide +kernel
theorem dL_isFrame_72 : decode cL_isFrame 72 = .ok (.aload 5, 2) := by decide +kernel
theorem dL_isFrame_74 : decode cL_isFrame 74 = .ok (.iload 6, 2) := by decide +kernel
theorem dL_isFrame_76 : decode cL_isFrame 76 = .ok (.aload_n 3, 1) := by decide +kernel
theorem dL_isFrame_77 : decode cL_isFrame 77 = .ok (.iload 6, 2) := by decide +kernel
theorem dL_isFrame_79 : decode cL_isFrame 79 = .ok (.iaload, 1) := by decide +kernel
theorem dL_isFrame_80 : decode cL_isFrame 80 = .ok (.ifCond .lt 20, 3) := by decide +kernel
theorem dL_isFrame_83 : decode cL_isFrame 83 = .ok (.aload_n 0, 1) := by decide +kernel
theorem dL_isFrame_84 : decode cL_isFrame 84 = .ok (.aload_n 3, 1) := by decide +kernel
theorem dL_isFrame_85 : decode cL_isFrame 85 = .ok (.iload 6, 2) := by decide +kernel
theorem dL_isFrame_87 : decode cL_isFrame 87 = .ok (.iaload, 1) := by decide +kernel
theorem dL_isFrame_88 : decode cL_isFrame 88 = .ok (.iconst 4, 1) := by decide +kernel
theorem dL_isFrame_89 : decode cL_isFrame 89 = .ok (.invokevirtual 86, 3) := by decide +kernel
theorem dL_isFrame_92 : decode cL_isFrame 92 = .ok (.iconst 1, 1) := by decide +kernel
theorem dL_isFrame_93 : decode cL_isFrame 93 = .ok (.if_icmp .ne 7, 3) := by decide +kernel
theorem dL_isFrame_96 : decode cL_isFrame 96 = .ok (.iconst 1, 1) := by decide +kernel
theorem dL_isFrame_97 : decode cL_isFrame 97 = .ok (.goto 4, 3) := by decide +kernel
theorem dL_isFrame_100 : decode cL_isFrame 100 = .ok (.iconst 0, 1) := by decide +kernel
theorem dL_isFrame_101 : decode cL_isFrame 101 = .ok (.bastore, 1) := by decide +kernel
theorem dL_isFrame_102 : decode cL_isFrame 102 = .ok (.iinc 6 1, 3) := by decide +kernel
theorem dL_isFrame_105 : decode cL_isFrame 105 = .ok (.goto (-72), 3) := by decide +kernel
theorem dL_isFrame_108 : decode cL_isFrame 108 = .ok (.aload_n 0, 1) := by decide +kernel
theorem dL_isFrame_109 : decode cL_isFrame 109 = .ok (.iconst 2, 1) := by decide +kernel
theorem dL_isFrame_110 : decode cL_isFrame 110 = .ok (.invokevirtual 22, 3) := by decide +kernel
theorem dL_isFrame_113 : decode cL_isFrame 113 = .ok (.istore 6, 2) := by decide +kernel
theorem dL_isFrame_115 : decode cL_isFrame 115 = .ok (.aload_n 0, 1) := by decide +kernel
theorem dL_isFrame_116 : decode cL_isFrame 116 = .ok (.iconst 3, 1) := by decide +kernel
theorem dL_isFrame_117 : decode cL_isFrame 117 = .ok (.invokevirtual 22, 3) := by decide +kernel
theorem dL_isFrame_120 : decode cL_isFrame 120 = .ok (.istore 7, 2) := by decide +kernel
theorem dL_isFrame_122 : decode cL_isFrame 122 = .ok (.aload_n 0, 1) := by decide +kernel
theorem dL_isFrame_123 : decode cL_isFrame 123 = .ok (.iconst 5, 1) := by decide +kernel
theorem dL_isFrame_124 : decode cL_isFrame 124 = .ok (.invokevirtual 22, 3) := by decide +kernel
theorem dL_isFrame_127 : decode cL_isFrame 127 = .ok (.istore 8, 2) := by decide +kernel
theorem dL_isFrame_129 : decode cL_isFrame 129 = .ok (.aload_n 0, 1) := by decide +kernel
theorem dL_isFrame_130 : decode cL_isFrame 130 = .ok (.iconst 0, 1) := by decide +kernel
theorem dL_isFrame_131 : decode cL_isFrame 131 = .ok (.invokevirtual 22, 3) := by decide +kernel
theorem dL_isFrame_134 : decode cL_isFrame 134 = .ok (.aload_n 0, 1) := by decide +kernel
theorem dL_isFrame_135 : decode cL_isFrame 135 = .ok (.iconst 1, 1) := by decide +kernel
theorem dL_isFrame_136 : decode cL_isFrame 136 = .ok (.invokevirtual 22, 3) := by decide +kernel
theorem dL_isFrame_139 : decode cL_isFrame 139 = .ok (.iadd, 1) := by decide +kernel
theorem dL_isFrame_140 : decode cL_isFrame 140 = .ok (.istore 9, 2) := by decide +kernel
theorem dL_isFrame_142 : decode cL_isFrame 142 = .ok (.aload_n 0, 1) := by decide +kernel
theorem dL_isFrame_143 : decode cL_isFrame 143 = .ok (.invokevirtual 89, 3) := by decide +kernel
theorem dL_isFrame_146 : decode cL_isFrame 146 = .ok (.istore 10, 2) := by decide +kernel
theorem dL_isFrame_148 : decode cL_isFrame 148 = .ok (.iload 10, 2) := by decide +kernel
theorem dL_isFrame_150 : decode cL_isFrame 150 = .ok (.iload_n 2, 1) := by decide +kernel
theorem dL_isFrame_151 : decode cL_isFrame 151 = .ok (.ifCond .eq 8, 3) := by decide +kernel
theorem dL_isFrame_154 : decode cL_isFrame 154 = .ok (.bipush (-2), 2) := by decide +kernel
theorem dL_isFrame_156 : decode cL_isFrame 156 = .ok (.goto 8, 3) := by decide +kernel
theorem dL_isFrame_159 : decode cL_isFrame 159 = .ok (.aload_n 0, 1) := by decide +kernel
theorem dL_isFrame_160 : decode cL_isFrame 160 = .ok (.iconst 2, 1) := by decide +kernel
theorem dL_isFrame_161 : decode cL_isFrame 161 = .ok (.invokevirtual 22, 3) := by decide +kernel
theorem dL_isFrame_164 : decode cL_isFrame 164 = .ok (.if_icmp .ne 21, 3) := by decide +kernel
theorem dL_isFrame_167 : decode cL_isFrame 167 = .ok (.aload_n 0, 1) := by decide +kernel
theorem dL_isFrame_168 : decode cL_isFrame 168 = .ok (.iconst 0, 1) := by decide +kernel
theorem dL_isFrame_169 : decode cL_isFrame 169 = .ok (.invokevirtual 22, 3) := by decide +kernel
theorem dL_isFrame_172 : decode cL_isFrame 172 = .ok (.aload_n 0, 1) := by decide +kernel
theorem dL_isFrame_173 : decode cL_isFrame 173 = .ok (.iconst 1, 1) := by decide +kernel
theorem dL_isFrame_174 : decode cL_isFrame 174 = .ok (.invokevirtual 22, 3) := by decide +kernel
theorem dL_isFrame_177 : decode cL_isFrame 177 = .ok (.iadd, 1) := by decide +kernel
theorem dL_isFrame_178 : decode cL_isFrame 178 = .ok (.iload 9, 2) := by decide +kernel
theorem dL_isFrame_180 : decode cL_isFrame 180 = .ok (.iconst 1, 1) := by decide +kernel
theorem dL_isFrame_181 : decode cL_isFrame 181 = .ok (.iadd, 1) := by decide +kernel
theorem dL_isFrame_182 : decode cL_isFrame 182 = .ok (.if_icmp .eq 5, 3) := by decide +kernel
theorem dL_isFrame_185 : decode cL_isFrame 185 = .ok (.iconst 0, 1) := by decide +kernel
theorem dL_isFrame_186 : decode cL_isFrame 186 = .ok (.ireturn, 1) := by decide +kernel
theorem dL_isFrame_187 : decode cL_isFrame 187 = .ok (.iconst 0, 1) := by decide +kernel
theorem dL_isFrame_188 : decode cL_isFrame 188 = .ok (.istore 11, 2) := by decide +kernel
theorem dL_isFrame_190 : decode cL_isFrame 190 = .ok (.iconst 0, 1) := by decide +kernel
theorem dL_isFrame_191 : decode cL_isFrame 191 = .ok (.istore 12, 2) := by decide +kernel
theorem dL_isFrame_193 : decode cL_isFrame 193 = .ok (.iload 12, 2) := by decide +kernel
theorem dL_isFrame_195 : decode cL_isFrame 195 = .ok (.iconst 5, 1) := by decide +kernel
theorem dL_isFrame_196 : decode cL_isFrame 196 = .ok (.if_icmp .ge 102, 3) := by decide +kernel
theorem dL_isFrame_199 : decode cL_isFrame 199 = .ok (.iload 11, 2) := by decide +kernel
theorem dL_isFrame_201 : decode cL_isFrame 201 = .ok (.aload 5, 2) := by decide +kernel
theorem dL_isFrame_203 : decode cL_isFrame 203 = .ok (.iload 12, 2) := by decide +kernel
theorem dL_isFrame_205 : decode cL_isFrame 205 = .ok (.baload, 1) := by decide +kernel
theorem dL_isFrame_206 : decode cL_isFrame 206 = .ok (.ifCond .eq 7, 3) := by decide +kernel
theorem dL_isFrame_209 : decode cL_isFrame 209 = .ok (.iconst 1, 1) := by decide +kernel
theorem dL_isFrame_210 : decode cL_isFrame 210 = .ok (.goto 4, 3) := by decide +kernel
theorem dL_isFrame_213 : decode cL_isFrame 213 = .ok (.iconst 0, 1) := by decide +kernel
theorem dL_isFrame_214 : decode cL_isFrame 214 = .ok (.iadd, 1) := by decide +kernel
theorem dL_isFrame_215 : decode cL_isFrame 215 = .ok (.istore 11, 2) := by decide +kernel
theorem dL_isFrame_217 : decode cL_isFrame 217 = .ok (.aload 4, 2) := by decide +kernel
theorem dL_isFrame_219 : decode cL_isFrame 219 = .ok (.iload 12, 2) := by decide +kernel
theorem dL_isFrame_221 : decode cL_isFrame 221 = .ok (.iaload, 1) := by decide +kernel
theorem dL_isFrame_222 : decode cL_isFrame 222 = .ok (.ifCond .ne 6, 3) := by decide +kernel
theorem dL_isFrame_225 : decode cL_isFrame 225 = .ok (.goto 67, 3) := by decide +kernel
theorem dL_isFrame_228 : decode cL_isFrame 228 = .ok (.iload_n 2, 1) := by decide +kernel
theorem dL_isFrame_229 : decode cL_isFrame 229 = .ok (.ifCond .eq 20, 3) := by decide +kernel
theorem dL_isFrame_232 : decode cL_isFrame 232 = .ok (.aload_n 0, 1) := by decide +kernel
theorem dL_isFrame_233 : decode cL_isFrame 233 = .ok (.iload 12, 2) := by decide +kernel
theorem dL_isFrame_235 : decode cL_isFrame 235 = .ok (.invokestatic 79, 3) := by decide +kernel
theorem dL_isFrame_238 : decode cL_isFrame 238 = .ok (.aload 4, 2) := by decide +kernel
theorem dL_isFrame_240 : decode cL_isFrame 240 = .ok (.iload 12, 2) := by decide +kernel
theorem dL_isFrame_242 : decode cL_isFrame 242 = .ok (.iaload, 1) := by decide +kernel
theorem dL_isFrame_243 : decode cL_isFrame 243 = .ok (.if_icmp .eq 49, 3) := by decide +kernel
theorem dL_isFrame_246 : decode cL_isFrame 246 = .ok (.goto 44, 3) := by decide +kernel
theorem dL_isFrame_249 : decode cL_isFrame 249 = .ok (.aload_n 3, 1) := by decide +kernel
theorem dL_isFrame_250 : decode cL_isFrame 250 = .ok (.iload 12, 2) := by decide +kernel
theorem dL_isFrame_252 : decode cL_isFrame 252 = .ok (.iaload, 1) := by decide +kernel
theorem dL_isFrame_253 : decode cL_isFrame 253 = .ok (.ifCond .lt 39, 3) := by decide +kernel
theorem dL_isFrame_256 : decode cL_isFrame 256 = .ok (.aload 5, 2) := by decide +kernel
theorem dL_isFrame_258 : decode cL_isFrame 258 = .ok (.iload 12, 2) := by decide +kernel
theorem dL_isFrame_260 : decode cL_isFrame 260 = .ok (.baload, 1) := by decide +kernel
theorem dL_isFrame_261 : decode cL_isFrame 261 = .ok (.ifCond .ne 31, 3) := by decide +kernel
theorem dL_isFrame_264 : decode cL_isFrame 264 = .ok (.aload_n 0, 1) := by decide +kernel
theorem dL_isFrame_265 : decode cL_isFrame 265 = .ok (.iload 12, 2) := by decide +kernel
theorem dL_isFrame_267 : decode cL_isFrame 267 = .ok (.invokestatic 79, 3) := by decide +kernel
theorem dL_isFrame_270 : decode cL_isFrame 270 = .ok (.aload 4, 2) := by decide +kernel
theorem dL_isFrame_272 : decode cL_isFrame 272 = .ok (.iload 12, 2) := by decide +kernel
theorem dL_isFrame_274 : decode cL_isFrame 274 = .ok (.iaload, 1) := by decide +kernel
theorem dL_isFrame_275 : decode cL_isFrame 275 = .ok (.iconst 1, 1) := by decide +kernel
theorem dL_isFrame_276 : decode cL_isFrame 276 = .ok (.iadd, 1) := by decide +kernel
theorem dL_isFrame_277 : decode cL_isFrame 277 = .ok (.if_icmp .ne 13, 3) := by decide +kernel
theorem dL_isFrame_280 : decode cL_isFrame 280 = .ok (.aload_n 0, 1) := by decide +kernel
theorem dL_isFrame_281 : decode cL_isFrame 281 = .ok (.iload 12, 2) := by decide +kernel
theorem dL_isFrame_283 : decode cL_isFrame 283 = .ok (.iconst 3, 1) := by decide +kernel
theorem dL_isFrame_284 : decode cL_isFrame 284 = .ok (.invokevirtual 92, 3) := by decide +kernel
theorem dL_isFrame_287 : decode cL_isFrame 287 = .ok (.ifCond .eq 5, 3) := by decide +kernel
theorem dL_isFrame_290 : decode cL_isFrame 290 = .ok (.iconst 0, 1) := by decide +kernel
theorem dL_isFrame_291 : decode cL_isFrame 291 = .ok (.ireturn, 1) := by decide +kernel
theorem dL_isFrame_292 : decode cL_isFrame 292 = .ok (.iinc 12 1, 3) := by decide +kernel
theorem dL_isFrame_295 : decode cL_isFrame 295 = .ok (.goto (-102), 3) := by decide +kernel
theorem dL_isFrame_298 : decode cL_isFrame 298 = .ok (.aload_n 0, 1) := by decide +kernel
theorem dL_isFrame_299 : decode cL_isFrame 299 = .ok (.iconst 5, 1) := by decide +kernel
theorem dL_isFrame_300 : decode cL_isFrame 300 = .ok (.invokevirtual 22, 3) := by decide +kernel
theorem dL_isFrame_303 : decode cL_isFrame 303 = .ok (.iload 8, 2) := by decide +kernel
theorem dL_isFrame_305 : decode cL_isFrame 305 = .ok (.iload 11, 2) := by decide +kernel
theorem dL_isFrame_307 : decode cL_isFrame 307 = .ok (.iadd, 1) := by decide +kernel
theorem dL_isFrame_308 : decode cL_isFrame 308 = .ok (.if_icmp .ne 31, 3) := by decide +kernel
theorem dL_isFrame_311 : decode cL_isFrame 311 = .ok (.iload_n 2, 1) := by decide +kernel
theorem dL_isFrame_312 : decode cL_isFrame 312 = .ok (.ifCond .eq 23, 3) := by decide +kernel
theorem dL_isFrame_315 : decode cL_isFrame 315 = .ok (.aload_n 0, 1) := by decide +kernel
theorem dL_isFrame_316 : decode cL_isFrame 316 = .ok (.iconst 2, 1) := by decide +kernel
theorem dL_isFrame_317 : decode cL_isFrame 317 = .ok (.invokevirtual 22, 3) := by decide +kernel
theorem dL_isFrame_320 : decode cL_isFrame 320 = .ok (.iload 6, 2) := by decide +kernel
theorem dL_isFrame_322 : decode cL_isFrame 322 = .ok (.if_icmp .ne 17, 3) := by decide +kernel
theorem dL_isFrame_325 : decode cL_isFrame 325 = .ok (.aload_n 0, 1) := by decide +kernel
theorem dL_isFrame_326 : decode cL_isFrame 326 = .ok (.iconst 3, 1) := by decide +kernel
theorem dL_isFrame_327 : decode cL_isFrame 327 = .ok (.invokevirtual 22, 3) := by decide +kernel
theorem dL_isFrame_330 : decode cL_isFrame 330 = .ok (.iload 7, 2) := by decide +kernel
theorem dL_isFrame_332 : decode cL_isFrame 332 = .ok (.if_icmp .ne 7, 3) := by decide +kernel
theorem dL_isFrame_335 : decode cL_isFrame 335 = .ok (.iconst 1, 1) := by decide +kernel
theorem dL_isFrame_336 : decode cL_isFrame 336 = .ok (.goto 4, 3) := by decide +kernel
theorem dL_isFrame_339 : decode cL_isFrame 339 = .ok (.iconst 0, 1) := by decide +kernel
theorem dL_isFrame_340 : decode cL_isFrame 340 = .ok (.ireturn, 1) := by decide +kernel
theorem dL_frames_0 : decode cL_frames 0 = .ok (.aload_n 0, 1) := by decide +kernel
theorem dL_frames_1 : decode cL_frames 1 = .ok (.iload_n 1, 1) := by decide +kernel
theorem dL_frames_2 : decode cL_frames 2 = .ok (.iconst 2, 1) := by decide +kernel
theorem dL_frames_3 : decode cL_frames 3 = .ok (.invokevirtual 92, 3) := by decide +kernel
theorem dL_frames_6 : decode cL_frames 6 = .ok (.ireturn, 1) := by decide +kernel
theorem dL_frames_7 : decode cL_frames 7 = .ok (.astore_n 2, 1) := by decide +kernel
theorem dL_frames_8 : decode cL_frames 8 = .ok (.iconst 0, 1) := by decide +kernel
theorem dL_frames_9 : decode cL_frames 9 = .ok (.ireturn, 1) := by decide +kernel
theorem dL_areWell_0 : decode cL_areWell 0 = .ok (.iconst 0, 1) := by decide +kernel
theorem dL_areWell_1 : decode cL_areWell 1 = .ok (.istore_n 1, 1) := by decide +kernel
theorem dL_areWell_2 : decode cL_areWell 2 = .ok (.iconst 0, 1) := by decide +kernel
theorem dL_areWell_3 : decode cL_areWell 3 = .ok (.istore_n 2, 1) := by decide +kernel
theorem dL_areWell_4 : decode cL_areWell 4 = .ok (.iload_n 2, 1) := by decide +kernel
theorem dL_areWell_5 : decode cL_areWell 5 = .ok (.iconst 5, 1) := by decide +kernel
theorem dL_areWell_6 : decode cL_areWell 6 = .ok (.if_icmp .ge 145, 3) := by decide +kernel
theorem dL_areWell_9 : decode cL_areWell 9 = .ok (.aload_n 0, 1) := by decide +kernel
theorem dL_areWell_10 : decode cL_areWell 10 = .ok (.iload_n 2, 1) := by decide +kernel
theorem dL_areWell_11 : decode cL_areWell 11 = .ok (.invokestatic 79, 3) := by decide +kernel
theorem dL_areWell_14 : decode cL_areWell 14 = .ok (.ifCond .ne 6, 3) := by decide +kernel
theorem dL_areWell_17 : decode cL_areWell 17 = .ok (.goto 128, 3) := by decide +kernel
theorem dL_areWell_20 : decode cL_areWell 20 = .ok (.iinc 1 1, 3) := by decide +kernel
theorem dL_areWell_23 : decode cL_areWell 23 = .ok (.aload_n 0, 1) := by decide +kernel
theorem dL_areWell_24 : decode cL_areWell 24 = .ok (.iload_n 2, 1) := by decide +kernel
theorem dL_areWell_25 : decode cL_areWell 25 = .ok (.iconst 3, 1) := by decide +kernel
theorem dL_areWell_26 : decode cL_areWell 26 = .ok (.invokevirtual 92, 3) := by decide +kernel
theorem dL_areWell_29 : decode cL_areWell 29 = .ok (.iconst 1, 1) := by decide +kernel
theorem dL_areWell_30 : decode cL_areWell 30 = .ok (.if_icmp .gt 83, 3) := by decide +kernel
theorem dL_areWell_33 : decode cL_areWell 33 = .ok (.aload_n 0, 1) := by decide +kernel
theorem dL_areWell_34 : decode cL_areWell 34 = .ok (.iload_n 2, 1) := by decide +kernel
theorem dL_areWell_35 : decode cL_areWell 35 = .ok (.iconst 5, 1) := by decide +kernel
theorem dL_areWell_36 : decode cL_areWell 36 = .ok (.invokevirtual 92, 3) := by decide +kernel
theorem dL_areWell_39 : decode cL_areWell 39 = .ok (.aload_n 0, 1) := by decide +kernel
theorem dL_areWell_40 : decode cL_areWell 40 = .ok (.bipush 6, 2) := by decide +kernel
theorem dL_areWell_42 : decode cL_areWell 42 = .ok (.invokevirtual 22, 3) := by decide +kernel
theorem dL_areWell_45 : decode cL_areWell 45 = .ok (.if_icmp .ge 68, 3) := by decide +kernel
theorem dL_areWell_48 : decode cL_areWell 48 = .ok (.aload_n 0, 1) := by decide +kernel
theorem dL_areWell_49 : decode cL_areWell 49 = .ok (.iload_n 2, 1) := by decide +kernel
theorem dL_areWell_50 : decode cL_areWell 50 = .ok (.iconst 4, 1) := by decide +kernel
theorem dL_areWell_51 : decode cL_areWell 51 = .ok (.invokevirtual 97, 3) := by decide +kernel
theorem dL_areWell_54 : decode cL_areWell 54 = .ok (.dconst 0, 1) := by decide +kernel
theorem dL_areWell_55 : decode cL_areWell 55 = .ok (.dcmp .g, 1) := by decide +kernel
theorem dL_areWell_56 : decode cL_areWell 56 = .ok (.ifCond .lt 57, 3) := by decide +kernel
theorem dL_areWell_59 : decode cL_areWell 59 = .ok (.aload_n 0, 1) := by decide +kernel
theorem dL_areWell_60 : decode cL_areWell 60 = .ok (.iload_n 2, 1) := by decide +kernel
theorem dL_areWell_61 : decode cL_areWell 61 = .ok (.iload_n 2, 1) := by decide +kernel
theorem dL_areWell_62 : decode cL_areWell 62 = .ok (.invokevirtual 101, 3) := by decide +kernel
theorem dL_areWell_65 : decode cL_areWell 65 = .ok (.dconst 0, 1) := by decide +kernel
theorem dL_areWell_66 : decode cL_areWell 66 = .ok (.dcmp .l, 1) := by decide +kernel
theorem dL_areWell_67 : decode cL_areWell 67 = .ok (.ifCond .ne 46, 3) := by decide +kernel
theorem dL_areWell_70 : decode cL_areWell 70 = .ok (.aload_n 0, 1) := by decide +kernel
theorem dL_areWell_71 : decode cL_areWell 71 = .ok (.iload_n 2, 1) := by decide +kernel
theorem dL_areWell_72 : decode cL_areWell 72 = .ok (.bipush 9, 2) := by decide +kernel
theorem dL_areWell_74 : decode cL_areWell 74 = .ok (.iconst 0, 1) := by decide +kernel
theorem dL_areWell_75 : decode cL_areWell 75 = .ok (.invokevirtual 104, 3) := by decide +kernel
theorem dL_areWell_78 : decode cL_areWell 78 = .ok (.dconst 0, 1) := by decide +kernel
theorem dL_areWell_79 : decode cL_areWell 79 = .ok (.dcmp .g, 1) := by decide +kernel
theorem dL_areWell_80 : decode cL_areWell 80 = .ok (.ifCond .lt 33, 3) := by decide +kernel
theorem dL_areWell_83 : decode cL_areWell 83 = .ok (.aload_n 0, 1) := by decide +kernel
theorem dL_areWell_84 : decode cL_areWell 84 = .ok (.iload_n 2, 1) := by decide +kernel
theorem dL_areWell_85 : decode cL_areWell 85 = .ok (.bipush 9, 2) := by decide +kernel
theorem dL_areWell_87 : decode cL_areWell 87 = .ok (.iconst 0, 1) := by decide +kernel
theorem dL_areWell_88 : decode cL_areWell 88 = .ok (.invokevirtual 104, 3) := by decide +kernel
theorem dL_areWell_91 : decode cL_areWell 91 = .ok (.ldc2_w 108, 3) := by decide +kernel
theorem dL_areWell_94 : decode cL_areWell 94 = .ok (.dcmp .l, 1) := by decide +kernel
theorem dL_areWell_95 : decode cL_areWell 95 = .ok (.ifCond .gt 18, 3) := by decide +kernel
theorem dL_areWell_98 : decode cL_areWell 98 = .ok (.aload_n 0, 1) := by decide +kernel
theorem dL_areWell_99 : decode cL_areWell 99 = .ok (.iload_n 2, 1) := by decide +kernel
theorem dL_areWell_100 : decode cL_areWell 100 = .ok (.bipush 9, 2) := by decide +kernel
theorem dL_areWell_102 : decode cL_areWell 102 = .ok (.iconst 1, 1) := by decide +kernel
theorem dL_areWell_103 : decode cL_areWell 103 = .ok (.invokevirtual 104, 3) := by decide +kernel
theorem dL_areWell_106 : decode cL_areWell 106 = .ok (.ldc2_w 110, 3) := by decide +kernel
theorem dL_areWell_109 : decode cL_areWell 109 = .ok (.dcmp .l, 1) := by decide +kernel
theorem dL_areWell_110 : decode cL_areWell 110 = .ok (.ifCond .le 5, 3) := by decide +kernel
theorem dL_areWell_113 : decode cL_areWell 113 = .ok (.iconst 0, 1) := by decide +kernel
theorem dL_areWell_114 : decode cL_areWell 114 = .ok (.ireturn, 1) := by decide +kernel
theorem dL_areWell_115 : decode cL_areWell 115 = .ok (.aload_n 0, 1) := by decide +kernel
theorem dL_areWell_116 : decode cL_areWell 116 = .ok (.iload_n 2, 1) := by decide +kernel
theorem dL_areWell_117 : decode cL_areWell 117 = .ok (.iconst 2, 1) := by decide +kernel
theorem dL_areWell_118 : decode cL_areWell 118 = .ok (.invokevirtual 97, 3) := by decide +kernel
theorem dL_areWell_121 : decode cL_areWell 121 = .ok (.dconst 0, 1) := by decide +kernel
theorem dL_areWell_122 : decode cL_areWell 122 = .ok (.dcmp .l, 1) := by decide +kernel
theorem dL_areWell_123 : decode cL_areWell 123 = .ok (.ifCond .ne 22, 3) := by decide +kernel
theorem dL_areWell_126 : decode cL_areWell 126 = .ok (.aload_n 0, 1) := by decide +kernel
theorem dL_areWell_127 : decode cL_areWell 127 = .ok (.iload_n 2, 1) := by decide +kernel
theorem dL_areWell_128 : decode cL_areWell 128 = .ok (.iconst 5, 1) := by decide +kernel
theorem dL_areWell_129 : decode cL_areWell 129 = .ok (.iconst 0, 1) := by decide +kernel
theorem dL_areWell_130 : decode cL_areWell 130 = .ok (.invokevirtual 104, 3) := by decide +kernel
theorem dL_areWell_133 : decode cL_areWell 133 = .ok (.aload_n 0, 1) := by decide +kernel
theorem dL_areWell_134 : decode cL_areWell 134 = .ok (.iload_n 2, 1) := by decide +kernel
theorem dL_areWell_135 : decode cL_areWell 135 = .ok (.iconst 0, 1) := by decide +kernel
theorem dL_areWell_136 : decode cL_areWell 136 = .ok (.invokevirtual 97, 3) := by decide +kernel
theorem dL_areWell_139 : decode cL_areWell 139 = .ok (.dcmp .l, 1) := by decide +kernel
theorem dL_areWell_140 : decode cL_areWell 140 = .ok (.ifCond .eq 5, 3) := by decide +kernel
theorem dL_areWell_143 : decode cL_areWell 143 = .ok (.iconst 0, 1) := by decide +kernel
theorem dL_areWell_144 : decode cL_areWell 144 = .ok (.ireturn, 1) := by decide +kernel
theorem dL_areWell_145 : decode cL_areWell 145 = .ok (.iinc 2 1, 3) := by decide +kernel
theorem dL_areWell_148 : decode cL_areWell 148 = .ok (.goto (-144), 3) := by decide +kernel
theorem dL_areWell_151 : decode cL_areWell 151 = .ok (.iconst 0, 1) := by decide +kernel
theorem dL_areWell_152 : decode cL_areWell 152 = .ok (.istore_n 2, 1) := by decide +kernel
theorem dL_areWell_153 : decode cL_areWell 153 = .ok (.iconst 0, 1) := by decide +kernel
theorem dL_areWell_154 : decode cL_areWell 154 = .ok (.istore_n 3, 1) := by decide +kernel
theorem dL_areWell_155 : decode cL_areWell 155 = .ok (.iconst (-1), 1) := by decide +kernel
theorem dL_areWell_156 : decode cL_areWell 156 = .ok (.istore 4, 2) := by decide +kernel
theorem dL_areWell_158 : decode cL_areWell 158 = .ok (.iconst 0, 1) := by decide +kernel
theorem dL_areWell_159 : decode cL_areWell 159 = .ok (.istore 5, 2) := by decide +kernel
theorem dL_areWell_161 : decode cL_areWell 161 = .ok (.iload 5, 2) := by decide +kernel
theorem dL_areWell_163 : decode cL_areWell 163 = .ok (.bipush 6, 2) := by decide +kernel
theorem dL_areWell_165 : decode cL_areWell 165 = .ok (.if_icmp .ge 187, 3) := by decide +kernel
theorem dL_areWell_168 : decode cL_areWell 168 = .ok (.iconst 0, 1) := by decide +kernel
theorem dL_areWell_169 : decode cL_areWell 169 = .ok (.istore 6, 2) := by decide +kernel
theorem dL_areWell_171 : decode cL_areWell 171 = .ok (.iconst 0, 1) := by decide +kernel
theorem dL_areWell_172 : decode cL_areWell 172 = .ok (.istore 7, 2) := by decide +kernel
theorem dL_areWell_174 : decode cL_areWell 174 = .ok (.iload 7, 2) := by decide +kernel
theorem dL_areWell_176 : decode cL_areWell 176 = .ok (.bipush 8, 2) := by decide +kernel
theorem dL_areWell_178 : decode cL_areWell 178 = .ok (.if_icmp .ge 144, 3) := by decide +kernel
theorem dL_areWell_181 : decode cL_areWell 181 = .ok (.aload_n 0, 1) := by decide +kernel
theorem dL_areWell_182 : decode cL_areWell 182 = .ok (.iload 7, 2) := by decide +kernel
theorem dL_areWell_184 : decode cL_areWell 184 = .ok (.iload 5, 2) := by decide +kernel
theorem dL_areWell_186 : decode cL_areWell 186 = .ok (.iconst 2, 1) := by decide +kernel
theorem dL_areWell_187 : decode cL_areWell 187 = .ok (.invokevirtual 60, 3) := by decide +kernel
theorem dL_areWell_190 : decode cL_areWell 190 = .ok (.istore 8, 2) := by decide +kernel
theorem dL_areWell_192 : decode cL_areWell 192 = .ok (.iload 6, 2) := by decide +kernel
theorem dL_areWell_194 : decode cL_areWell 194 = .ok (.iload 8, 2) := by decide +kernel
theorem dL_areWell_196 : decode cL_areWell 196 = .ok (.iadd, 1) := by decide +kernel
theorem dL_areWell_197 : decode cL_areWell 197 = .ok (.istore 6, 2) := by decide +kernel
theorem dL_areWell_199 : decode cL_areWell 199 = .ok (.iload_n 3, 1) := by decide +kernel
theorem dL_areWell_200 : decode cL_areWell 200 = .ok (.aload_n 0, 1) := by decide +kernel
theorem dL_areWell_201 : decode cL_areWell 201 = .ok (.iload 7, 2) := by decide +kernel
theorem dL_areWell_203 : decode cL_areWell 203 = .ok (.iload 5, 2) := by decide +kernel
theorem dL_areWell_205 : decode cL_areWell 205 = .ok (.iconst 3, 1) := by decide +kernel
theorem dL_areWell_206 : decode cL_areWell 206 = .ok (.invokevirtual 60, 3) := by decide +kernel
theorem dL_areWell_209 : decode cL_areWell 209 = .ok (.iadd, 1) := by decide +kernel
theorem dL_areWell_210 : decode cL_areWell 210 = .ok (.istore_n 3, 1) := by decide +kernel
theorem dL_areWell_211 : decode cL_areWell 211 = .ok (.iload 8, 2) := by decide +kernel
theorem dL_areWell_213 : decode cL_areWell 213 = .ok (.aload_n 0, 1) := by decide +kernel
theorem dL_areWell_214 : decode cL_areWell 214 = .ok (.iload 7, 2) := by decide +kernel
theorem dL_areWell_216 : decode cL_areWell 216 = .ok (.iload 5, 2) := by decide +kernel
theorem dL_areWell_218 : decode cL_areWell 218 = .ok (.iconst 0, 1) := by decide +kernel
theorem dL_areWell_219 : decode cL_areWell 219 = .ok (.invokevirtual 60, 3) := by decide +kernel
theorem dL_areWell_222 : decode cL_areWell 222 = .ok (.aload_n 0, 1) := by decide +kernel
theorem dL_areWell_223 : decode cL_areWell 223 = .ok (.iload 7, 2) := by decide +kernel
theorem dL_areWell_225 : decode cL_areWell 225 = .ok (.iload 5, 2) := by decide +kernel
theorem dL_areWell_227 : decode cL_areWell 227 = .ok (.iconst 1, 1) := by decide +kernel
theorem dL_areWell_228 : decode cL_areWell 228 = .ok (.invokevirtual 60, 3) := by decide +kernel
theorem dL_areWell_231 : decode cL_areWell 231 = .ok (.isub, 1) := by decide +kernel
theorem dL_areWell_232 : decode cL_areWell 232 = .ok (.if_icmp .ne 82, 3) := by decide +kernel
theorem dL_areWell_235 : decode cL_areWell 235 = .ok (.iload 8, 2) := by decide +kernel
theorem dL_areWell_237 : decode cL_areWell 237 = .ok (.bipush 20, 2) := by decide +kernel
theorem dL_areWell_239 : decode cL_areWell 239 = .ok (.if_icmp .lt 7, 3) := by decide +kernel
theorem dL_areWell_242 : decode cL_areWell 242 = .ok (.iconst 1, 1) := by decide +kernel
theorem dL_areWell_243 : decode cL_areWell 243 = .ok (.goto 4, 3) := by decide +kernel
theorem dL_areWell_246 : decode cL_areWell 246 = .ok (.iconst 0, 1) := by decide +kernel
theorem dL_areWell_247 : decode cL_areWell 247 = .ok (.aload_n 0, 1) := by decide +kernel
theorem dL_areWell_248 : decode cL_areWell 248 = .ok (.iload 7, 2) := by decide +kernel
theorem dL_areWell_250 : decode cL_areWell 250 = .ok (.iload 5, 2) := by decide +kernel
theorem dL_areWell_252 : decode cL_areWell 252 = .ok (.iconst 3, 1) := by decide +kernel
theorem dL_areWell_253 : decode cL_areWell 253 = .ok (.invokevirtual 60, 3) := by decide +kernel
theorem dL_areWell_256 : decode cL_areWell 256 = .ok (.iconst 1, 1) := by decide +kernel
theorem dL_areWell_257 : decode cL_areWell 257 = .ok (.if_icmp .ne 7, 3) := by decide +kernel
theorem dL_areWell_260 : decode cL_areWell 260 = .ok (.iconst 1, 1) := by decide +kernel
theorem dL_areWell_261 : decode cL_areWell 261 = .ok (.goto 4, 3) := by decide +kernel
theorem dL_areWell_264 : decode cL_areWell 264 = .ok (.iconst 0, 1) := by decide +kernel
theorem dL_areWell_265 : decode cL_areWell 265 = .ok (.if_icmp .ne 49, 3) := by decide +kernel
theorem dL_areWell_268 : decode cL_areWell 268 = .ok (.aload_n 0, 1) := by decide +kernel
theorem dL_areWell_269 : decode cL_areWell 269 = .ok (.iload 7, 2) := by decide +kernel
theorem dL_areWell_271 : decode cL_areWell 271 = .ok (.iload 5, 2) := by decide +kernel
theorem dL_areWell_273 : decode cL_areWell 273 = .ok (.iconst 4, 1) := by decide +kernel
theorem dL_areWell_274 : decode cL_areWell 274 = .ok (.invokevirtual 60, 3) := by decide +kernel
theorem dL_areWell_277 : decode cL_areWell 277 = .ok (.bipush 48, 2) := by decide +kernel
theorem dL_areWell_279 : decode cL_areWell 279 = .ok (.if_icmp .gt 35, 3) := by decide +kernel
theorem dL_areWell_282 : decode cL_areWell 282 = .ok (.aload_n 0, 1) := by decide +kernel
theorem dL_areWell_283 : decode cL_areWell 283 = .ok (.iload 7, 2) := by decide +kernel
theorem dL_areWell_285 : decode cL_areWell 285 = .ok (.iload 5, 2) := by decide +kernel
theorem dL_areWell_287 : decode cL_areWell 287 = .ok (.iconst 4, 1) := by decide +kernel
theorem dL_areWell_288 : decode cL_areWell 288 = .ok (.invokevirtual 60, 3) := by decide +kernel
theorem dL_areWell_291 : decode cL_areWell 291 = .ok (.ifCond .le 7, 3) := by decide +kernel
theorem dL_areWell_294 : decode cL_areWell 294 = .ok (.iconst 1, 1) := by decide +kernel
theorem dL_areWell_295 : decode cL_areWell 295 = .ok (.goto 4, 3) := by decide +kernel
theorem dL_areWell_298 : decode cL_areWell 298 = .ok (.iconst 0, 1) := by decide +kernel
theorem dL_areWell_299 : decode cL_areWell 299 = .ok (.iload 8, 2) := by decide +kernel
theorem dL_areWell_301 : decode cL_areWell 301 = .ok (.bipush 20, 2) := by decide +kernel
theorem dL_areWell_303 : decode cL_areWell 303 = .ok (.if_icmp .lt 7, 3) := by decide +kernel
theorem dL_areWell_306 : decode cL_areWell 306 = .ok (.iconst 1, 1) := by decide +kernel
theorem dL_areWell_307 : decode cL_areWell 307 = .ok (.goto 4, 3) := by decide +kernel
theorem dL_areWell_310 : decode cL_areWell 310 = .ok (.iconst 0, 1) := by decide +kernel
theorem dL_areWell_311 : decode cL_areWell 311 = .ok (.if_icmp .eq 5, 3) := by decide +kernel
theorem dL_areWell_314 : decode cL_areWell 314 = .ok (.iconst 0, 1) := by decide +kernel
theorem dL_areWell_315 : decode cL_areWell 315 = .ok (.ireturn, 1) := by decide +kernel
theorem dL_areWell_316 : decode cL_areWell 316 = .ok (.iinc 7 1, 3) := by decide +kernel
theorem dL_areWell_319 : decode cL_areWell 319 = .ok (.goto (-145), 3) := by decide +kernel
theorem dL_areWell_322 : decode cL_areWell 322 = .ok (.aload_n 0, 1) := by decide +kernel
theorem dL_areWell_323 : decode cL_areWell 323 = .ok (.iload 5, 2) := by decide +kernel
theorem dL_areWell_325 : decode cL_areWell 325 = .ok (.iconst 0, 1) := by decide +kernel
theorem dL_areWell_326 : decode cL_areWell 326 = .ok (.invokevirtual 112, 3) := by decide +kernel
theorem dL_areWell_329 : decode cL_areWell 329 = .ok (.iload 6, 2) := by decide +kernel
theorem dL_areWell_331 : decode cL_areWell 331 = .ok (.if_icmp .eq 5, 3) := by decide +kernel
theorem dL_areWell_334 : decode cL_areWell 334 = .ok (.iconst 0, 1) := by decide +kernel
theorem dL_areWell_335 : decode cL_areWell 335 = .ok (.ireturn, 1) := by decide +kernel
theorem dL_areWell_336 : decode cL_areWell 336 = .ok (.iload_n 2, 1) := by decide +kernel
theorem dL_areWell_337 : decode cL_areWell 337 = .ok (.aload_n 0, 1) := by decide +kernel
theorem dL_areWell_338 : decode cL_areWell 338 = .ok (.iload 5, 2) := by decide +kernel
theorem dL_areWell_340 : decode cL_areWell 340 = .ok (.iconst 2, 1) := by decide +kernel
theorem dL_areWell_341 : decode cL_areWell 341 = .ok (.invokevirtual 112, 3) := by decide +kernel
theorem dL_areWell_344 : decode cL_areWell 344 = .ok (.iadd, 1) := by decide +kernel
theorem dL_areWell_345 : decode cL_areWell 345 = .ok (.istore_n 2, 1) := by decide +kernel
theorem dL_areWell_346 : decode cL_areWell 346 = .ok (.iinc 5 1, 3) := by decide +kernel
theorem dL_areWell_349 : decode cL_areWell 349 = .ok (.goto (-188), 3) := by decide +kernel
theorem dL_areWell_352 : decode cL_areWell 352 = .ok (.iconst 0, 1) := by decide +kernel
theorem dL_areWell_353 : decode cL_areWell 353 = .ok (.istore 5, 2) := by decide +kernel
theorem dL_areWell_355 : decode cL_areWell 355 = .ok (.iload 5, 2) := by decide +kernel
theorem dL_areWell_357 : decode cL_areWell 357 = .ok (.aload_n 0, 1) := by decide +kernel
theorem dL_areWell_358 : decode cL_areWell 358 = .ok (.bipush 8, 2) := by decide +kernel
theorem dL_areWell_360 : decode cL_areWell 360 = .ok (.invokevirtual 22, 3) := by decide +kernel
theorem dL_areWell_363 : decode cL_areWell 363 = .ok (.if_icmp .ge 146, 3) := by decide +kernel
theorem dL_areWell_366 : decode cL_areWell 366 = .ok (.aload_n 0, 1) := by decide +kernel
theorem dL_areWell_367 : decode cL_areWell 367 = .ok (.iload 5, 2) := by decide +kernel
theorem dL_areWell_369 : decode cL_areWell 369 = .ok (.iconst 0, 1) := by decide +kernel
theorem dL_areWell_370 : decode cL_areWell 370 = .ok (.invokevirtual 86, 3) := by decide +kernel
theorem dL_areWell_373 : decode cL_areWell 373 = .ok (.istore 6, 2) := by decide +kernel
theorem dL_areWell_375 : decode cL_areWell 375 = .ok (.iload 6, 2) := by decide +kernel
theorem dL_areWell_377 : decode cL_areWell 377 = .ok (.bipush 8, 2) := by decide +kernel
theorem dL_areWell_379 : decode cL_areWell 379 = .ok (.irem, 1) := by decide +kernel
theorem dL_areWell_380 : decode cL_areWell 380 = .ok (.istore 7, 2) := by decide +kernel
theorem dL_areWell_382 : decode cL_areWell 382 = .ok (.iload 6, 2) := by decide +kernel
theorem dL_areWell_384 : decode cL_areWell 384 = .ok (.bipush 8, 2) := by decide +kernel
theorem dL_areWell_386 : decode cL_areWell 386 = .ok (.idiv, 1) := by decide +kernel
theorem dL_areWell_387 : decode cL_areWell 387 = .ok (.istore 8, 2) := by decide +kernel
theorem dL_areWell_389 : decode cL_areWell 389 = .ok (.iload 6, 2) := by decide +kernel
theorem dL_areWell_391 : decode cL_areWell 391 = .ok (.iload 4, 2) := by decide +kernel
theorem dL_areWell_393 : decode cL_areWell 393 = .ok (.if_icmp .le 104, 3) := by decide +kernel
theorem dL_areWell_396 : decode cL_areWell 396 = .ok (.aload_n 0, 1) := by decide +kernel
theorem dL_areWell_397 : decode cL_areWell 397 = .ok (.iload 7, 2) := by decide +kernel
theorem dL_areWell_399 : decode cL_areWell 399 = .ok (.iload 8, 2) := by decide +kernel
theorem dL_areWell_401 : decode cL_areWell 401 = .ok (.iconst 3, 1) := by decide +kernel
theorem dL_areWell_402 : decode cL_areWell 402 = .ok (.invokevirtual 60, 3) := by decide +kernel
theorem dL_areWell_405 : decode cL_areWell 405 = .ok (.iconst 1, 1) := by decide +kernel
theorem dL_areWell_406 : decode cL_areWell 406 = .ok (.if_icmp .ne 91, 3) := by decide +kernel
theorem dL_areWell_409 : decode cL_areWell 409 = .ok (.aload_n 0, 1) := by decide +kernel
theorem dL_areWell_410 : decode cL_areWell 410 = .ok (.iload 5, 2) := by decide +kernel
theorem dL_areWell_412 : decode cL_areWell 412 = .ok (.iconst 3, 1) := by decide +kernel
theorem dL_areWell_413 : decode cL_areWell 413 = .ok (.invokevirtual 86, 3) := by decide +kernel
theorem dL_areWell_416 : decode cL_areWell 416 = .ok (.aload_n 0, 1) := by decide +kernel
theorem dL_areWell_417 : decode cL_areWell 417 = .ok (.iload 7, 2) := by decide +kernel
theorem dL_areWell_419 : decode cL_areWell 419 = .ok (.iload 8, 2) := by decide +kernel
theorem dL_areWell_421 : decode cL_areWell 421 = .ok (.iconst 4, 1) := by decide +kernel
theorem dL_areWell_422 : decode cL_areWell 422 = .ok (.invokevirtual 60, 3) := by decide +kernel
theorem dL_areWell_425 : decode cL_areWell 425 = .ok (.if_icmp .ne 72, 3) := by decide +kernel
theorem dL_areWell_428 : decode cL_areWell 428 = .ok (.aload_n 0, 1) := by decide +kernel
theorem dL_areWell_429 : decode cL_areWell 429 = .ok (.iload 5, 2) := by decide +kernel
theorem dL_areWell_431 : decode cL_areWell 431 = .ok (.iconst 4, 1) := by decide +kernel
theorem dL_areWell_432 : decode cL_areWell 432 = .ok (.invokevirtual 86, 3) := by decide +kernel
theorem dL_areWell_435 : decode cL_areWell 435 = .ok (.aload_n 0, 1) := by decide +kernel
theorem dL_areWell_436 : decode cL_areWell 436 = .ok (.iload 5, 2) := by decide +kernel
theorem dL_areWell_438 : decode cL_areWell 438 = .ok (.iconst 3, 1) := by decide +kernel
theorem dL_areWell_439 : decode cL_areWell 439 = .ok (.invokevirtual 86, 3) := by decide +kernel
theorem dL_areWell_442 : decode cL_areWell 442 = .ok (.bipush 14, 2) := by decide +kernel
theorem dL_areWell_444 : decode cL_areWell 444 = .ok (.if_icmp .le 7, 3) := by decide +kernel
theorem dL_areWell_447 : decode cL_areWell 447 = .ok (.iconst 1, 1) := by decide +kernel
theorem dL_areWell_448 : decode cL_areWell 448 = .ok (.goto 4, 3) := by decide +kernel
theorem dL_areWell_451 : decode cL_areWell 451 = .ok (.iconst 0, 1) := by decide +kernel
theorem dL_areWell_452 : decode cL_areWell 452 = .ok (.if_icmp .ne 45, 3) := by decide +kernel
theorem dL_areWell_455 : decode cL_areWell 455 = .ok (.aload_n 0, 1) := by decide +kernel
theorem dL_areWell_456 : decode cL_areWell 456 = .ok (.iload 5, 2) := by decide +kernel
theorem dL_areWell_458 : decode cL_areWell 458 = .ok (.iconst 1, 1) := by decide +kernel
theorem dL_areWell_459 : decode cL_areWell 459 = .ok (.invokevirtual 86, 3) := by decide +kernel
theorem dL_areWell_462 : decode cL_areWell 462 = .ok (.bipush 8, 2) := by decide +kernel
theorem dL_areWell_464 : decode cL_areWell 464 = .ok (.iload 7, 2) := by decide +kernel
theorem dL_areWell_466 : decode cL_areWell 466 = .ok (.imul, 1) := by decide +kernel
theorem dL_areWell_467 : decode cL_areWell 467 = .ok (.isub, 1) := by decide +kernel
theorem dL_areWell_468 : decode cL_areWell 468 = .ok (.invokestatic 39, 3) := by decide +kernel
theorem dL_areWell_471 : decode cL_areWell 471 = .ok (.bipush 8, 2) := by decide +kernel
theorem dL_areWell_473 : decode cL_areWell 473 = .ok (.if_icmp .gt 24, 3) := by decide +kernel
theorem dL_areWell_476 : decode cL_areWell 476 = .ok (.aload_n 0, 1) := by decide +kernel
theorem dL_areWell_477 : decode cL_areWell 477 = .ok (.iload 5, 2) := by decide +kernel
theorem dL_areWell_479 : decode cL_areWell 479 = .ok (.iconst 2, 1) := by decide +kernel
theorem dL_areWell_480 : decode cL_areWell 480 = .ok (.invokevirtual 86, 3) := by decide +kernel
theorem dL_areWell_483 : decode cL_areWell 483 = .ok (.bipush 8, 2) := by decide +kernel
theorem dL_areWell_485 : decode cL_areWell 485 = .ok (.iload 8, 2) := by decide +kernel
theorem dL_areWell_487 : decode cL_areWell 487 = .ok (.imul, 1) := by decide +kernel
theorem dL_areWell_488 : decode cL_areWell 488 = .ok (.isub, 1) := by decide +kernel
theorem dL_areWell_489 : decode cL_areWell 489 = .ok (.invokestatic 39, 3) := by decide +kernel
theorem dL_areWell_492 : decode cL_areWell 492 = .ok (.bipush 8, 2) := by decide +kernel
theorem dL_areWell_494 : decode cL_areWell 494 = .ok (.if_icmp .le 5, 3) := by decide +kernel
theorem dL_areWell_497 : decode cL_areWell 497 = .ok (.iconst 0, 1) := by decide +kernel
theorem dL_areWell_498 : decode cL_areWell 498 = .ok (.ireturn, 1) := by decide +kernel
theorem dL_areWell_499 : decode cL_areWell 499 = .ok (.iload 6, 2) := by decide +kernel
theorem dL_areWell_501 : decode cL_areWell 501 = .ok (.istore 4, 2) := by decide +kernel
theorem dL_areWell_503 : decode cL_areWell 503 = .ok (.iinc 5 1, 3) := by decide +kernel
theorem dL_areWell_506 : decode cL_areWell 506 = .ok (.goto (-151), 3) := by decide +kernel
theorem dL_areWell_509 : decode cL_areWell 509 = .ok (.iconst 0, 1) := by decide +kernel
theorem dL_areWell_510 : decode cL_areWell 510 = .ok (.istore 5, 2) := by decide +kernel
theorem dL_areWell_512 : decode cL_areWell 512 = .ok (.iconst 0, 1) := by decide +kernel
theorem dL_areWell_513 : decode cL_areWell 513 = .ok (.istore 6, 2) := by decide +kernel
theorem dL_areWell_515 : decode cL_areWell 515 = .ok (.iload 6, 2) := by decide +kernel
theorem dL_areWell_517 : decode cL_areWell 517 = .ok (.aload_n 0, 1) := by decide +kernel
theorem dL_areWell_518 : decode cL_areWell 518 = .ok (.bipush 6, 2) := by decide +kernel
theorem dL_areWell_520 : decode cL_areWell 520 = .ok (.invokevirtual 22, 3) := by decide +kernel
theorem dL_areWell_523 : decode cL_areWell 523 = .ok (.if_icmp .ge 65, 3) := by decide +kernel
theorem dL_areWell_526 : decode cL_areWell 526 = .ok (.iconst 0, 1) := by decide +kernel
theorem dL_areWell_527 : decode cL_areWell 527 = .ok (.istore 7, 2) := by decide +kernel
theorem dL_areWell_529 : decode cL_areWell 529 = .ok (.iload 7, 2) := by decide +kernel
theorem dL_areWell_531 : decode cL_areWell 531 = .ok (.iconst 4, 1) := by decide +kernel
theorem dL_areWell_532 : decode cL_areWell 532 = .ok (.if_icmp .ge 38, 3) := by decide +kernel
theorem dL_areWell_535 : decode cL_areWell 535 = .ok (.aload_n 0, 1) := by decide +kernel
theorem dL_areWell_536 : decode cL_areWell 536 = .ok (.iload 6, 2) := by decide +kernel
theorem dL_areWell_538 : decode cL_areWell 538 = .ok (.iload 7, 2) := by decide +kernel
theorem dL_areWell_540 : decode cL_areWell 540 = .ok (.invokevirtual 115, 3) := by decide +kernel
theorem dL_areWell_543 : decode cL_areWell 543 = .ok (.ifCond .lt 19, 3) := by decide +kernel
theorem dL_areWell_546 : decode cL_areWell 546 = .ok (.aload_n 0, 1) := by decide +kernel
theorem dL_areWell_547 : decode cL_areWell 547 = .ok (.iload 6, 2) := by decide +kernel
theorem dL_areWell_549 : decode cL_areWell 549 = .ok (.iload 7, 2) := by decide +kernel
theorem dL_areWell_551 : decode cL_areWell 551 = .ok (.invokevirtual 115, 3) := by decide +kernel
theorem dL_areWell_554 : decode cL_areWell 554 = .ok (.aload_n 0, 1) := by decide +kernel
theorem dL_areWell_555 : decode cL_areWell 555 = .ok (.iconst 3, 1) := by decide +kernel
theorem dL_areWell_556 : decode cL_areWell 556 = .ok (.invokevirtual 22, 3) := by decide +kernel
theorem dL_areWell_559 : decode cL_areWell 559 = .ok (.if_icmp .le 5, 3) := by decide +kernel
theorem dL_areWell_562 : decode cL_areWell 562 = .ok (.iconst 0, 1) := by decide +kernel
theorem dL_areWell_563 : decode cL_areWell 563 = .ok (.ireturn, 1) := by decide +kernel
theorem dL_areWell_564 : decode cL_areWell 564 = .ok (.iinc 7 1, 3) := by decide +kernel
theorem dL_areWell_567 : decode cL_areWell 567 = .ok (.goto (-38), 3) := by decide +kernel
theorem dL_areWell_570 : decode cL_areWell 570 = .ok (.iload 5, 2) := by decide +kernel
theorem dL_areWell_572 : decode cL_areWell 572 = .ok (.aload_n 0, 1) := by decide +kernel
theorem dL_areWell_573 : decode cL_areWell 573 = .ok (.iload 6, 2) := by decide +kernel
theorem dL_areWell_575 : decode cL_areWell 575 = .ok (.iconst 4, 1) := by decide +kernel
theorem dL_areWell_576 : decode cL_areWell 576 = .ok (.invokevirtual 115, 3) := by decide +kernel
theorem dL_areWell_579 : decode cL_areWell 579 = .ok (.iadd, 1) := by decide +kernel
theorem dL_areWell_580 : decode cL_areWell 580 = .ok (.istore 5, 2) := by decide +kernel
theorem dL_areWell_582 : decode cL_areWell 582 = .ok (.iinc 6 1, 3) := by decide +kernel
theorem dL_areWell_585 : decode cL_areWell 585 = .ok (.goto (-70), 3) := by decide +kernel
theorem dL_areWell_588 : decode cL_areWell 588 = .ok (.iload_n 2, 1) := by decide +kernel
theorem dL_areWell_589 : decode cL_areWell 589 = .ok (.aload_n 0, 1) := by decide +kernel
theorem dL_areWell_590 : decode cL_areWell 590 = .ok (.bipush 8, 2) := by decide +kernel
theorem dL_areWell_592 : decode cL_areWell 592 = .ok (.invokevirtual 22, 3) := by decide +kernel
theorem dL_areWell_595 : decode cL_areWell 595 = .ok (.if_icmp .ne 68, 3) := by decide +kernel
theorem dL_areWell_598 : decode cL_areWell 598 = .ok (.iload_n 1, 1) := by decide +kernel
theorem dL_areWell_599 : decode cL_areWell 599 = .ok (.aload_n 0, 1) := by decide +kernel
theorem dL_areWell_600 : decode cL_areWell 600 = .ok (.iconst 2, 1) := by decide +kernel
theorem dL_areWell_601 : decode cL_areWell 601 = .ok (.invokevirtual 22, 3) := by decide +kernel
theorem dL_areWell_604 : decode cL_areWell 604 = .ok (.if_icmp .ne 59, 3) := by decide +kernel
theorem dL_areWell_607 : decode cL_areWell 607 = .ok (.iload 5, 2) := by decide +kernel
theorem dL_areWell_609 : decode cL_areWell 609 = .ok (.iload_n 1, 1) := by decide +kernel
theorem dL_areWell_610 : decode cL_areWell 610 = .ok (.if_icmp .gt 53, 3) := by decide +kernel
theorem dL_areWell_613 : decode cL_areWell 613 = .ok (.aload_n 0, 1) := by decide +kernel
theorem dL_areWell_614 : decode cL_areWell 614 = .ok (.iconst 3, 1) := by decide +kernel
theorem dL_areWell_615 : decode cL_areWell 615 = .ok (.invokevirtual 22, 3) := by decide +kernel
theorem dL_areWell_618 : decode cL_areWell 618 = .ok (.aload_n 0, 1) := by decide +kernel
theorem dL_areWell_619 : decode cL_areWell 619 = .ok (.iconst 2, 1) := by decide +kernel
theorem dL_areWell_620 : decode cL_areWell 620 = .ok (.invokevirtual 22, 3) := by decide +kernel
theorem dL_areWell_623 : decode cL_areWell 623 = .ok (.aload_n 0, 1) := by decide +kernel
theorem dL_areWell_624 : decode cL_areWell 624 = .ok (.iconst 4, 1) := by decide +kernel
theorem dL_areWell_625 : decode cL_areWell 625 = .ok (.invokevirtual 22, 3) := by decide +kernel
theorem dL_areWell_628 : decode cL_areWell 628 = .ok (.iadd, 1) := by decide +kernel
theorem dL_areWell_629 : decode cL_areWell 629 = .ok (.aload_n 0, 1) := by decide +kernel
theorem dL_areWell_630 : decode cL_areWell 630 = .ok (.iconst 5, 1) := by decide +kernel
theorem dL_areWell_631 : decode cL_areWell 631 = .ok (.invokevirtual 22, 3) := by decide +kernel
theorem dL_areWell_634 : decode cL_areWell 634 = .ok (.iadd, 1) := by decide +kernel
theorem dL_areWell_635 : decode cL_areWell 635 = .ok (.if_icmp .ne 28, 3) := by decide +kernel
theorem dL_areWell_638 : decode cL_areWell 638 = .ok (.iload_n 2, 1) := by decide +kernel
theorem dL_areWell_639 : decode cL_areWell 639 = .ok (.ifCond .le 7, 3) := by decide +kernel
theorem dL_areWell_642 : decode cL_areWell 642 = .ok (.iconst 1, 1) := by decide +kernel
theorem dL_areWell_643 : decode cL_areWell 643 = .ok (.goto 4, 3) := by decide +kernel
theorem dL_areWell_646 : decode cL_areWell 646 = .ok (.iconst 0, 1) := by decide +kernel
theorem dL_areWell_647 : decode cL_areWell 647 = .ok (.iload_n 3, 1) := by decide +kernel
theorem dL_areWell_648 : decode cL_areWell 648 = .ok (.ifCond .le 7, 3) := by decide +kernel
theorem dL_areWell_651 : decode cL_areWell 651 = .ok (.iconst 1, 1) := by decide +kernel
theorem dL_areWell_652 : decode cL_areWell 652 = .ok (.goto 4, 3) := by decide +kernel
theorem dL_areWell_655 : decode cL_areWell 655 = .ok (.iconst 0, 1) := by decide +kernel
theorem dL_areWell_656 : decode cL_areWell 656 = .ok (.if_icmp .ne 7, 3) := by decide +kernel
theorem dL_areWell_659 : decode cL_areWell 659 = .ok (.iconst 1, 1) := by decide +kernel
theorem dL_areWell_660 : decode cL_areWell 660 = .ok (.goto 4, 3) := by decide +kernel
theorem dL_areWell_663 : decode cL_areWell 663 = .ok (.iconst 0, 1) := by decide +kernel
theorem dL_areWell_664 : decode cL_areWell 664 = .ok (.ireturn, 1) := by decide +kernel
