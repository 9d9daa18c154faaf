theorem sJx4a65c_63 : am_FS RJx4a65c 63 13 0 .int := ⟨RJx4a65c, "java/util/ArrayList", TJx4a65c, 3, tyJx4a65c, rfl, by decide, am_t4 191 rfl rfl, am_t4 192 rfl rfl, uJx4a65c, tyJx4a65c_ok, nmJx4a65c, rfl, by decide +kernel⟩
theorem cJx4a65c_7 : Cond.classLink RJx4a65c 7 "java/lang/Object" ∈ am_W := am_t5 106 rfl rfl
