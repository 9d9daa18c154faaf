/-! ===== this claim's tables: array types, nest mates' links, texts, classes that aren't castable, arrays over classes ===== -/
abbrev am_tyl : List FieldType := [.int, .long, .float, .boolean, .object "Palmward$Area", .object "Palmward$Contact"]
def am_nst : List (String × Nat × MethodName × String) := [("Palmward", 9, yX6_init, "Palmward"), ("Palmward", 18, yX5_init, "Palmward"), ("Palmward", 31, yX4_init, "Palmward"), ("Palmward$Areas", 17, yX0_init, "Palmward"), ("Palmward$Hand", 21, yX2_init, "Palmward"), ("Palmward$Contact", 64, yX7_withoutSign, "Palmward"), ("Palmward$Hand", 147, yX7_withoutSign, "Palmward")]
def am_str : List (String × Nat × String) := []
def am_ncs : List (String × String) := []
def am_aov : List String := ["Palmward$Area", "Palmward$Contact"]
