section
-- ===== PART A: goes FIRST, ahead of the names: the tables' words, and 'selects' of the private methods out of them =====
/-- a private method of a class that the tables say can be made, by its rows of tables_1 -/
def lw_okq (q : MethodName × Nat) : Prop := (q.1.cls ≠ "java/lang/invoke/MethodHandle" ∧ q.1.cls ≠ "java/lang/invoke/VarHandle") ∧ Cond.instantiable q.1.cls q.2 ∈ tables_1 ∧ Cond.privateMethod q.1 ∈ tables_1 ∧ Cond.instanceMethod q.1 ∈ tables_1
theorem lw_p0 : lw_okq (⟨"Palmward$Pairing", "offerPeak", "()V"⟩, 3) := ⟨⟨by decide +kernel, by decide +kernel⟩, List.mem_of_getElem? (i := 107) (by decide +kernel), List.mem_of_getElem? (i := 320) (by decide +kernel), List.mem_of_getElem? (i := 321) (by decide +kernel)⟩
theorem lw_p1 : lw_okq (⟨"Palmward$Hand", "followMatched", "(LPalmward$Picture;LPalmward$Pairing;I)V"⟩, 5) := ⟨⟨by decide +kernel, by decide +kernel⟩, List.mem_of_getElem? (i := 166) (by decide +kernel), List.mem_of_getElem? (i := 336) (by decide +kernel), List.mem_of_getElem? (i := 337) (by decide +kernel)⟩
theorem lw_p2 : lw_okq (⟨"Palmward$Hand", "cancel", "(LPalmward$Contact;)V"⟩, 5) := ⟨⟨by decide +kernel, by decide +kernel⟩, List.mem_of_getElem? (i := 166) (by decide +kernel), List.mem_of_getElem? (i := 352) (by decide +kernel), List.mem_of_getElem? (i := 353) (by decide +kernel)⟩
theorem lw_p3 : lw_okq (⟨"Palmward$Hand", "missUnmatched", "(LPalmward$Pairing;)V"⟩, 5) := ⟨⟨by decide +kernel, by decide +kernel⟩, List.mem_of_getElem? (i := 166) (by decide +kernel), List.mem_of_getElem? (i := 368) (by decide +kernel), List.mem_of_getElem? (i := 369) (by decide +kernel)⟩
theorem lw_p4 : lw_okq (⟨"Palmward$Hand", "lift", "(LPalmward$Contact;)V"⟩, 5) := ⟨⟨by decide +kernel, by decide +kernel⟩, List.mem_of_getElem? (i := 166) (by decide +kernel), List.mem_of_getElem? (i := 376) (by decide +kernel), List.mem_of_getElem? (i := 377) (by decide +kernel)⟩
theorem lw_p5 : lw_okq (⟨"Palmward$Hand", "beginUnmatched", "(LPalmward$Picture;LPalmward$Pairing;)V"⟩, 5) := ⟨⟨by decide +kernel, by decide +kernel⟩, List.mem_of_getElem? (i := 166) (by decide +kernel), List.mem_of_getElem? (i := 380) (by decide +kernel), List.mem_of_getElem? (i := 381) (by decide +kernel)⟩
theorem lw_p6 : lw_okq (⟨"Palmward$Hand", "freeName", "()I"⟩, 5) := ⟨⟨by decide +kernel, by decide +kernel⟩, List.mem_of_getElem? (i := 166) (by decide +kernel), List.mem_of_getElem? (i := 384) (by decide +kernel), List.mem_of_getElem? (i := 385) (by decide +kernel)⟩
theorem lw_p7 : lw_okq (⟨"Palmward$Hand", "rememberApart", "(I)V"⟩, 5) := ⟨⟨by decide +kernel, by decide +kernel⟩, List.mem_of_getElem? (i := 166) (by decide +kernel), List.mem_of_getElem? (i := 403) (by decide +kernel), List.mem_of_getElem? (i := 404) (by decide +kernel)⟩
theorem lw_p8 : lw_okq (⟨"Palmward$Hand", "claimPinches", "()V"⟩, 5) := ⟨⟨by decide +kernel, by decide +kernel⟩, List.mem_of_getElem? (i := 166) (by decide +kernel), List.mem_of_getElem? (i := 411) (by decide +kernel), List.mem_of_getElem? (i := 412) (by decide +kernel)⟩
theorem lw_p9 : lw_okq (⟨"Palmward$Hand", "isPinch", "(II)Z"⟩, 5) := ⟨⟨by decide +kernel, by decide +kernel⟩, List.mem_of_getElem? (i := 166) (by decide +kernel), List.mem_of_getElem? (i := 419) (by decide +kernel), List.mem_of_getElem? (i := 420) (by decide +kernel)⟩
theorem lw_p10 : lw_okq (⟨"Palmward$Hand", "claim", "(LPalmward$Contact;I)V"⟩, 5) := ⟨⟨by decide +kernel, by decide +kernel⟩, List.mem_of_getElem? (i := 166) (by decide +kernel), List.mem_of_getElem? (i := 425) (by decide +kernel), List.mem_of_getElem? (i := 426) (by decide +kernel)⟩
theorem lw_p11 : lw_okq (⟨"Palmward$Hand", "claimAlone", "()V"⟩, 5) := ⟨⟨by decide +kernel, by decide +kernel⟩, List.mem_of_getElem? (i := 166) (by decide +kernel), List.mem_of_getElem? (i := 429) (by decide +kernel), List.mem_of_getElem? (i := 430) (by decide +kernel)⟩
theorem lw_p12 : lw_okq (⟨"Palmward$Picture", "measureRegion", "(I)V"⟩, 8) := ⟨⟨by decide +kernel, by decide +kernel⟩, List.mem_of_getElem? (i := 60) (by decide +kernel), List.mem_of_getElem? (i := 465) (by decide +kernel), List.mem_of_getElem? (i := 466) (by decide +kernel)⟩
theorem lw_p13 : lw_okq (⟨"Palmward$Picture", "link", "(III)I"⟩, 8) := ⟨⟨by decide +kernel, by decide +kernel⟩, List.mem_of_getElem? (i := 60) (by decide +kernel), List.mem_of_getElem? (i := 469) (by decide +kernel), List.mem_of_getElem? (i := 470) (by decide +kernel)⟩
theorem lw_p14 : lw_okq (⟨"Palmward$Picture", "findPeaks", "()V"⟩, 8) := ⟨⟨by decide +kernel, by decide +kernel⟩, List.mem_of_getElem? (i := 60) (by decide +kernel), List.mem_of_getElem? (i := 473) (by decide +kernel), List.mem_of_getElem? (i := 474) (by decide +kernel)⟩
theorem lw_p15 : lw_okq (⟨"Palmward$Picture", "isSummit", "(I)Z"⟩, 8) := ⟨⟨by decide +kernel, by decide +kernel⟩, List.mem_of_getElem? (i := 60) (by decide +kernel), List.mem_of_getElem? (i := 477) (by decide +kernel), List.mem_of_getElem? (i := 478) (by decide +kernel)⟩
def lw_privs_1 : List (MethodName × Nat) := [(⟨"Palmward$Pairing", "offerPeak", "()V"⟩, 3), (⟨"Palmward$Hand", "followMatched", "(LPalmward$Picture;LPalmward$Pairing;I)V"⟩, 5), (⟨"Palmward$Hand", "cancel", "(LPalmward$Contact;)V"⟩, 5), (⟨"Palmward$Hand", "missUnmatched", "(LPalmward$Pairing;)V"⟩, 5), (⟨"Palmward$Hand", "lift", "(LPalmward$Contact;)V"⟩, 5), (⟨"Palmward$Hand", "beginUnmatched", "(LPalmward$Picture;LPalmward$Pairing;)V"⟩, 5), (⟨"Palmward$Hand", "freeName", "()I"⟩, 5), (⟨"Palmward$Hand", "rememberApart", "(I)V"⟩, 5), (⟨"Palmward$Hand", "claimPinches", "()V"⟩, 5), (⟨"Palmward$Hand", "isPinch", "(II)Z"⟩, 5), (⟨"Palmward$Hand", "claim", "(LPalmward$Contact;I)V"⟩, 5), (⟨"Palmward$Hand", "claimAlone", "()V"⟩, 5), (⟨"Palmward$Picture", "measureRegion", "(I)V"⟩, 8), (⟨"Palmward$Picture", "link", "(III)I"⟩, 8), (⟨"Palmward$Picture", "findPeaks", "()V"⟩, 8), (⟨"Palmward$Picture", "isSummit", "(I)Z"⟩, 8)]
theorem lw_r1 : ∀ q ∈ lw_privs_1, lw_okq q := List.forall_mem_cons.mpr ⟨lw_p0, List.forall_mem_cons.mpr ⟨lw_p1, List.forall_mem_cons.mpr ⟨lw_p2, List.forall_mem_cons.mpr ⟨lw_p3, List.forall_mem_cons.mpr ⟨lw_p4, List.forall_mem_cons.mpr ⟨lw_p5, List.forall_mem_cons.mpr ⟨lw_p6, List.forall_mem_cons.mpr ⟨lw_p7, List.forall_mem_cons.mpr ⟨lw_p8, List.forall_mem_cons.mpr ⟨lw_p9, List.forall_mem_cons.mpr ⟨lw_p10, List.forall_mem_cons.mpr ⟨lw_p11, List.forall_mem_cons.mpr ⟨lw_p12, List.forall_mem_cons.mpr ⟨lw_p13, List.forall_mem_cons.mpr ⟨lw_p14, List.forall_mem_cons.mpr ⟨lw_p15, fun _ h => absurd h List.not_mem_nil⟩⟩⟩⟩⟩⟩⟩⟩⟩⟩⟩⟩⟩⟩⟩⟩
theorem lw_p16 : lw_okq (⟨"Palmward$Picture", "placeOf", "(IZ)I"⟩, 8) := ⟨⟨by decide +kernel, by decide +kernel⟩, List.mem_of_getElem? (i := 60) (by decide +kernel), List.mem_of_getElem? (i := 487) (by decide +kernel), List.mem_of_getElem? (i := 488) (by decide +kernel)⟩
theorem lw_p17 : lw_okq (⟨"Palmward$Picture", "humNow", "()I"⟩, 8) := ⟨⟨by decide +kernel, by decide +kernel⟩, List.mem_of_getElem? (i := 60) (by decide +kernel), List.mem_of_getElem? (i := 493) (by decide +kernel), List.mem_of_getElem? (i := 494) (by decide +kernel)⟩
theorem lw_p18 : lw_okq (⟨"Palmward", "manyAnswer", "(I)I"⟩, 11) := ⟨⟨by decide +kernel, by decide +kernel⟩, List.mem_of_getElem? (i := 33) (by decide +kernel), List.mem_of_getElem? (i := 533) (by decide +kernel), List.mem_of_getElem? (i := 534) (by decide +kernel)⟩
theorem lw_p19 : lw_okq (⟨"Palmward", "cellAnswer", "(II)I"⟩, 11) := ⟨⟨by decide +kernel, by decide +kernel⟩, List.mem_of_getElem? (i := 33) (by decide +kernel), List.mem_of_getElem? (i := 546) (by decide +kernel), List.mem_of_getElem? (i := 547) (by decide +kernel)⟩
theorem lw_p20 : lw_okq (⟨"Palmward", "peakAnswer", "(II)I"⟩, 11) := ⟨⟨by decide +kernel, by decide +kernel⟩, List.mem_of_getElem? (i := 33) (by decide +kernel), List.mem_of_getElem? (i := 552) (by decide +kernel), List.mem_of_getElem? (i := 553) (by decide +kernel)⟩
theorem lw_p21 : lw_okq (⟨"Palmward", "mixedContact", "(JI)J"⟩, 11) := ⟨⟨by decide +kernel, by decide +kernel⟩, List.mem_of_getElem? (i := 33) (by decide +kernel), List.mem_of_getElem? (i := 562) (by decide +kernel), List.mem_of_getElem? (i := 563) (by decide +kernel)⟩
theorem lw_p22 : lw_okq (⟨"Palmward", "matchIn", "(LPalmward$Picture;I)I"⟩, 11) := ⟨⟨by decide +kernel, by decide +kernel⟩, List.mem_of_getElem? (i := 33) (by decide +kernel), List.mem_of_getElem? (i := 569) (by decide +kernel), List.mem_of_getElem? (i := 570) (by decide +kernel)⟩
theorem lw_p23 : lw_okq (⟨"Palmward", "areaAnswer", "(II)I"⟩, 11) := ⟨⟨by decide +kernel, by decide +kernel⟩, List.mem_of_getElem? (i := 33) (by decide +kernel), List.mem_of_getElem? (i := 587) (by decide +kernel), List.mem_of_getElem? (i := 588) (by decide +kernel)⟩
theorem lw_p24 : lw_okq (⟨"Palmward", "rowAnswer", "(II)I"⟩, 11) := ⟨⟨by decide +kernel, by decide +kernel⟩, List.mem_of_getElem? (i := 33) (by decide +kernel), List.mem_of_getElem? (i := 599) (by decide +kernel), List.mem_of_getElem? (i := 600) (by decide +kernel)⟩
theorem lw_p25 : lw_okq (⟨"java/lang/Throwable", "fillInStackTrace", "(I)Ljava/lang/Throwable;"⟩, 6) := ⟨⟨by decide +kernel, by decide +kernel⟩, List.mem_of_getElem? (i := 663) (by decide +kernel), List.mem_of_getElem? (i := 661) (by decide +kernel), List.mem_of_getElem? (i := 662) (by decide +kernel)⟩
theorem lw_p26 : lw_okq (⟨"Palmward", "checkName", "(I)V"⟩, 11) := ⟨⟨by decide +kernel, by decide +kernel⟩, List.mem_of_getElem? (i := 33) (by decide +kernel), List.mem_of_getElem? (i := 816) (by decide +kernel), List.mem_of_getElem? (i := 817) (by decide +kernel)⟩
theorem lw_p27 : lw_okq (⟨"Palmward", "wouldKeep", "(III)Z"⟩, 11) := ⟨⟨by decide +kernel, by decide +kernel⟩, List.mem_of_getElem? (i := 33) (by decide +kernel), List.mem_of_getElem? (i := 879) (by decide +kernel), List.mem_of_getElem? (i := 880) (by decide +kernel)⟩
theorem lw_p28 : lw_okq (⟨"PalmwardModel", "start", "(ZI)Z"⟩, 13) := ⟨⟨by decide +kernel, by decide +kernel⟩, List.mem_of_getElem? (i := 887) (by decide +kernel), List.mem_of_getElem? (i := 973) (by decide +kernel), List.mem_of_getElem? (i := 974) (by decide +kernel)⟩
theorem lw_p29 : lw_okq (⟨"PalmwardModel", "refuse", "(ZI)Z"⟩, 13) := ⟨⟨by decide +kernel, by decide +kernel⟩, List.mem_of_getElem? (i := 887) (by decide +kernel), List.mem_of_getElem? (i := 977) (by decide +kernel), List.mem_of_getElem? (i := 978) (by decide +kernel)⟩
theorem lw_p30 : lw_okq (⟨"java/util/ArrayList", "add", "(Ljava/lang/Object;[Ljava/lang/Object;I)V"⟩, 3) := ⟨⟨by decide +kernel, by decide +kernel⟩, List.mem_of_getElem? (i := 895) (by decide +kernel), List.mem_of_getElem? (i := 1016) (by decide +kernel), List.mem_of_getElem? (i := 1017) (by decide +kernel)⟩
theorem lw_p31 : lw_okq (⟨"java/util/ArrayList", "grow", "()[Ljava/lang/Object;"⟩, 3) := ⟨⟨by decide +kernel, by decide +kernel⟩, List.mem_of_getElem? (i := 895) (by decide +kernel), List.mem_of_getElem? (i := 1020) (by decide +kernel), List.mem_of_getElem? (i := 1021) (by decide +kernel)⟩
def lw_privs_2 : List (MethodName × Nat) := [(⟨"Palmward$Picture", "placeOf", "(IZ)I"⟩, 8), (⟨"Palmward$Picture", "humNow", "()I"⟩, 8), (⟨"Palmward", "manyAnswer", "(I)I"⟩, 11), (⟨"Palmward", "cellAnswer", "(II)I"⟩, 11), (⟨"Palmward", "peakAnswer", "(II)I"⟩, 11), (⟨"Palmward", "mixedContact", "(JI)J"⟩, 11), (⟨"Palmward", "matchIn", "(LPalmward$Picture;I)I"⟩, 11), (⟨"Palmward", "areaAnswer", "(II)I"⟩, 11), (⟨"Palmward", "rowAnswer", "(II)I"⟩, 11), (⟨"java/lang/Throwable", "fillInStackTrace", "(I)Ljava/lang/Throwable;"⟩, 6), (⟨"Palmward", "checkName", "(I)V"⟩, 11), (⟨"Palmward", "wouldKeep", "(III)Z"⟩, 11), (⟨"PalmwardModel", "start", "(ZI)Z"⟩, 13), (⟨"PalmwardModel", "refuse", "(ZI)Z"⟩, 13), (⟨"java/util/ArrayList", "add", "(Ljava/lang/Object;[Ljava/lang/Object;I)V"⟩, 3), (⟨"java/util/ArrayList", "grow", "()[Ljava/lang/Object;"⟩, 3)]
theorem lw_r2 : ∀ q ∈ lw_privs_2, lw_okq q := List.forall_mem_cons.mpr ⟨lw_p16, List.forall_mem_cons.mpr ⟨lw_p17, List.forall_mem_cons.mpr ⟨lw_p18, List.forall_mem_cons.mpr ⟨lw_p19, List.forall_mem_cons.mpr ⟨lw_p20, List.forall_mem_cons.mpr ⟨lw_p21, List.forall_mem_cons.mpr ⟨lw_p22, List.forall_mem_cons.mpr ⟨lw_p23, List.forall_mem_cons.mpr ⟨lw_p24, List.forall_mem_cons.mpr ⟨lw_p25, List.forall_mem_cons.mpr ⟨lw_p26, List.forall_mem_cons.mpr ⟨lw_p27, List.forall_mem_cons.mpr ⟨lw_p28, List.forall_mem_cons.mpr ⟨lw_p29, List.forall_mem_cons.mpr ⟨lw_p30, List.forall_mem_cons.mpr ⟨lw_p31, fun _ h => absurd h List.not_mem_nil⟩⟩⟩⟩⟩⟩⟩⟩⟩⟩⟩⟩⟩⟩⟩⟩
theorem lw_p32 : lw_okq (⟨"java/util/ArrayList", "grow", "(I)[Ljava/lang/Object;"⟩, 3) := ⟨⟨by decide +kernel, by decide +kernel⟩, List.mem_of_getElem? (i := 895) (by decide +kernel), List.mem_of_getElem? (i := 1024) (by decide +kernel), List.mem_of_getElem? (i := 1025) (by decide +kernel)⟩
theorem lw_p33 : lw_okq (⟨"PalmwardModel", "pressed", "(IIII)V"⟩, 13) := ⟨⟨by decide +kernel, by decide +kernel⟩, List.mem_of_getElem? (i := 887) (by decide +kernel), List.mem_of_getElem? (i := 1091) (by decide +kernel), List.mem_of_getElem? (i := 1092) (by decide +kernel)⟩
theorem lw_p34 : lw_okq (⟨"PalmwardModel", "view", "()LPalmwardModel$View;"⟩, 13) := ⟨⟨by decide +kernel, by decide +kernel⟩, List.mem_of_getElem? (i := 887) (by decide +kernel), List.mem_of_getElem? (i := 1105) (by decide +kernel), List.mem_of_getElem? (i := 1106) (by decide +kernel)⟩
theorem lw_p35 : lw_okq (⟨"PalmwardModel", "charges", "()[I"⟩, 13) := ⟨⟨by decide +kernel, by decide +kernel⟩, List.mem_of_getElem? (i := 887) (by decide +kernel), List.mem_of_getElem? (i := 1111) (by decide +kernel), List.mem_of_getElem? (i := 1112) (by decide +kernel)⟩
theorem lw_p36 : lw_okq (⟨"PalmwardModel$View", "region", "(I[Z[I)V"⟩, 4) := ⟨⟨by decide +kernel, by decide +kernel⟩, List.mem_of_getElem? (i := 1109) (by decide +kernel), List.mem_of_getElem? (i := 1123) (by decide +kernel), List.mem_of_getElem? (i := 1124) (by decide +kernel)⟩
theorem lw_p37 : lw_okq (⟨"PalmwardModel$View", "spread", "(II[Z[II)I"⟩, 4) := ⟨⟨by decide +kernel, by decide +kernel⟩, List.mem_of_getElem? (i := 1109) (by decide +kernel), List.mem_of_getElem? (i := 1127) (by decide +kernel), List.mem_of_getElem? (i := 1128) (by decide +kernel)⟩
theorem lw_p38 : lw_okq (⟨"PalmwardModel$View", "isPeak", "(I)Z"⟩, 4) := ⟨⟨by decide +kernel, by decide +kernel⟩, List.mem_of_getElem? (i := 1109) (by decide +kernel), List.mem_of_getElem? (i := 1133) (by decide +kernel), List.mem_of_getElem? (i := 1134) (by decide +kernel)⟩
theorem lw_p39 : lw_okq (⟨"PalmwardModel", "track", "(LPalmwardModel$View;)V"⟩, 13) := ⟨⟨by decide +kernel, by decide +kernel⟩, List.mem_of_getElem? (i := 887) (by decide +kernel), List.mem_of_getElem? (i := 1166) (by decide +kernel), List.mem_of_getElem? (i := 1167) (by decide +kernel)⟩
theorem lw_p40 : lw_okq (⟨"PalmwardModel$Match", "go", "(IJII)V"⟩, 8) := ⟨⟨by decide +kernel, by decide +kernel⟩, List.mem_of_getElem? (i := 1170) (by decide +kernel), List.mem_of_getElem? (i := 1180) (by decide +kernel), List.mem_of_getElem? (i := 1181) (by decide +kernel)⟩
theorem lw_p41 : lw_okq (⟨"PalmwardModel", "cancel", "(I)V"⟩, 13) := ⟨⟨by decide +kernel, by decide +kernel⟩, List.mem_of_getElem? (i := 887) (by decide +kernel), List.mem_of_getElem? (i := 1219) (by decide +kernel), List.mem_of_getElem? (i := 1220) (by decide +kernel)⟩
theorem lw_p42 : lw_okq (⟨"PalmwardModel", "count", "(LPalmwardModel$Contact;II)V"⟩, 13) := ⟨⟨by decide +kernel, by decide +kernel⟩, List.mem_of_getElem? (i := 887) (by decide +kernel), List.mem_of_getElem? (i := 1223) (by decide +kernel), List.mem_of_getElem? (i := 1224) (by decide +kernel)⟩
theorem lw_p43 : lw_okq (⟨"PalmwardModel", "miss", "(I)V"⟩, 13) := ⟨⟨by decide +kernel, by decide +kernel⟩, List.mem_of_getElem? (i := 887) (by decide +kernel), List.mem_of_getElem? (i := 1262) (by decide +kernel), List.mem_of_getElem? (i := 1263) (by decide +kernel)⟩
theorem lw_p44 : lw_okq (⟨"PalmwardModel", "begin", "(III)V"⟩, 13) := ⟨⟨by decide +kernel, by decide +kernel⟩, List.mem_of_getElem? (i := 887) (by decide +kernel), List.mem_of_getElem? (i := 1266) (by decide +kernel), List.mem_of_getElem? (i := 1267) (by decide +kernel)⟩
theorem lw_p45 : lw_okq (⟨"PalmwardModel", "areaOf", "(I)I"⟩, 13) := ⟨⟨by decide +kernel, by decide +kernel⟩, List.mem_of_getElem? (i := 887) (by decide +kernel), List.mem_of_getElem? (i := 1271) (by decide +kernel), List.mem_of_getElem? (i := 1272) (by decide +kernel)⟩
theorem lw_p46 : lw_okq (⟨"PalmwardModel", "claims", "()V"⟩, 13) := ⟨⟨by decide +kernel, by decide +kernel⟩, List.mem_of_getElem? (i := 887) (by decide +kernel), List.mem_of_getElem? (i := 1341) (by decide +kernel), List.mem_of_getElem? (i := 1342) (by decide +kernel)⟩
theorem lw_p47 : lw_okq (⟨"PalmwardModel", "mayClaim", "(I)Z"⟩, 13) := ⟨⟨by decide +kernel, by decide +kernel⟩, List.mem_of_getElem? (i := 887) (by decide +kernel), List.mem_of_getElem? (i := 1345) (by decide +kernel), List.mem_of_getElem? (i := 1346) (by decide +kernel)⟩
def lw_privs_3 : List (MethodName × Nat) := [(⟨"java/util/ArrayList", "grow", "(I)[Ljava/lang/Object;"⟩, 3), (⟨"PalmwardModel", "pressed", "(IIII)V"⟩, 13), (⟨"PalmwardModel", "view", "()LPalmwardModel$View;"⟩, 13), (⟨"PalmwardModel", "charges", "()[I"⟩, 13), (⟨"PalmwardModel$View", "region", "(I[Z[I)V"⟩, 4), (⟨"PalmwardModel$View", "spread", "(II[Z[II)I"⟩, 4), (⟨"PalmwardModel$View", "isPeak", "(I)Z"⟩, 4), (⟨"PalmwardModel", "track", "(LPalmwardModel$View;)V"⟩, 13), (⟨"PalmwardModel$Match", "go", "(IJII)V"⟩, 8), (⟨"PalmwardModel", "cancel", "(I)V"⟩, 13), (⟨"PalmwardModel", "count", "(LPalmwardModel$Contact;II)V"⟩, 13), (⟨"PalmwardModel", "miss", "(I)V"⟩, 13), (⟨"PalmwardModel", "begin", "(III)V"⟩, 13), (⟨"PalmwardModel", "areaOf", "(I)I"⟩, 13), (⟨"PalmwardModel", "claims", "()V"⟩, 13), (⟨"PalmwardModel", "mayClaim", "(I)Z"⟩, 13)]
theorem lw_r3 : ∀ q ∈ lw_privs_3, lw_okq q := List.forall_mem_cons.mpr ⟨lw_p32, List.forall_mem_cons.mpr ⟨lw_p33, List.forall_mem_cons.mpr ⟨lw_p34, List.forall_mem_cons.mpr ⟨lw_p35, List.forall_mem_cons.mpr ⟨lw_p36, List.forall_mem_cons.mpr ⟨lw_p37, List.forall_mem_cons.mpr ⟨lw_p38, List.forall_mem_cons.mpr ⟨lw_p39, List.forall_mem_cons.mpr ⟨lw_p40, List.forall_mem_cons.mpr ⟨lw_p41, List.forall_mem_cons.mpr ⟨lw_p42, List.forall_mem_cons.mpr ⟨lw_p43, List.forall_mem_cons.mpr ⟨lw_p44, List.forall_mem_cons.mpr ⟨lw_p45, List.forall_mem_cons.mpr ⟨lw_p46, List.forall_mem_cons.mpr ⟨lw_p47, fun _ h => absurd h List.not_mem_nil⟩⟩⟩⟩⟩⟩⟩⟩⟩⟩⟩⟩⟩⟩⟩⟩
theorem lw_p48 : lw_okq (⟨"PalmwardModel", "claim", "(II)V"⟩, 13) := ⟨⟨by decide +kernel, by decide +kernel⟩, List.mem_of_getElem? (i := 887) (by decide +kernel), List.mem_of_getElem? (i := 1351) (by decide +kernel), List.mem_of_getElem? (i := 1352) (by decide +kernel)⟩
theorem lw_p49 : lw_okq (⟨"PalmwardModel", "clean", "()V"⟩, 13) := ⟨⟨by decide +kernel, by decide +kernel⟩, List.mem_of_getElem? (i := 887) (by decide +kernel), List.mem_of_getElem? (i := 1364) (by decide +kernel), List.mem_of_getElem? (i := 1365) (by decide +kernel)⟩
theorem lw_p50 : lw_okq (⟨"PalmwardModel", "contactsNow", "()I"⟩, 13) := ⟨⟨by decide +kernel, by decide +kernel⟩, List.mem_of_getElem? (i := 887) (by decide +kernel), List.mem_of_getElem? (i := 1368) (by decide +kernel), List.mem_of_getElem? (i := 1369) (by decide +kernel)⟩
theorem lw_p51 : lw_okq (⟨"PalmwardModel", "ofCellNow", "(IILPalmwardModel$View;)I"⟩, 13) := ⟨⟨by decide +kernel, by decide +kernel⟩, List.mem_of_getElem? (i := 887) (by decide +kernel), List.mem_of_getElem? (i := 1380) (by decide +kernel), List.mem_of_getElem? (i := 1381) (by decide +kernel)⟩
theorem lw_p52 : lw_okq (⟨"PalmwardModel", "isNone", "(I)Z"⟩, 13) := ⟨⟨by decide +kernel, by decide +kernel⟩, List.mem_of_getElem? (i := 887) (by decide +kernel), List.mem_of_getElem? (i := 1396) (by decide +kernel), List.mem_of_getElem? (i := 1397) (by decide +kernel)⟩
theorem lw_p53 : lw_okq (⟨"PalmwardModel", "ofAreaNow", "(II)I"⟩, 13) := ⟨⟨by decide +kernel, by decide +kernel⟩, List.mem_of_getElem? (i := 887) (by decide +kernel), List.mem_of_getElem? (i := 1425) (by decide +kernel), List.mem_of_getElem? (i := 1426) (by decide +kernel)⟩
theorem lw_p54 : lw_okq (⟨"PalmwardModel", "manyNow", "(ILPalmwardModel$View;)I"⟩, 13) := ⟨⟨by decide +kernel, by decide +kernel⟩, List.mem_of_getElem? (i := 887) (by decide +kernel), List.mem_of_getElem? (i := 1433) (by decide +kernel), List.mem_of_getElem? (i := 1434) (by decide +kernel)⟩
theorem lw_p55 : lw_okq (⟨"PalmwardModel", "wouldMatchNow", "(ILPalmwardModel$View;)I"⟩, 13) := ⟨⟨by decide +kernel, by decide +kernel⟩, List.mem_of_getElem? (i := 887) (by decide +kernel), List.mem_of_getElem? (i := 1454) (by decide +kernel), List.mem_of_getElem? (i := 1455) (by decide +kernel)⟩
theorem lw_p56 : lw_okq (⟨"PalmwardModel", "calmInNow", "()I"⟩, 13) := ⟨⟨by decide +kernel, by decide +kernel⟩, List.mem_of_getElem? (i := 887) (by decide +kernel), List.mem_of_getElem? (i := 1462) (by decide +kernel), List.mem_of_getElem? (i := 1463) (by decide +kernel)⟩
theorem lw_p57 : lw_okq (⟨"PalmwardModel", "keepByNow", "(II)I"⟩, 13) := ⟨⟨by decide +kernel, by decide +kernel⟩, List.mem_of_getElem? (i := 887) (by decide +kernel), List.mem_of_getElem? (i := 1470) (by decide +kernel), List.mem_of_getElem? (i := 1471) (by decide +kernel)⟩
theorem lw_p58 : lw_okq (⟨"PalmwardModel", "digestContact", "(JII)J"⟩, 13) := ⟨⟨by decide +kernel, by decide +kernel⟩, List.mem_of_getElem? (i := 887) (by decide +kernel), List.mem_of_getElem? (i := 1483) (by decide +kernel), List.mem_of_getElem? (i := 1484) (by decide +kernel)⟩
def lw_privs_4 : List (MethodName × Nat) := [(⟨"PalmwardModel", "claim", "(II)V"⟩, 13), (⟨"PalmwardModel", "clean", "()V"⟩, 13), (⟨"PalmwardModel", "contactsNow", "()I"⟩, 13), (⟨"PalmwardModel", "ofCellNow", "(IILPalmwardModel$View;)I"⟩, 13), (⟨"PalmwardModel", "isNone", "(I)Z"⟩, 13), (⟨"PalmwardModel", "ofAreaNow", "(II)I"⟩, 13), (⟨"PalmwardModel", "manyNow", "(ILPalmwardModel$View;)I"⟩, 13), (⟨"PalmwardModel", "wouldMatchNow", "(ILPalmwardModel$View;)I"⟩, 13), (⟨"PalmwardModel", "calmInNow", "()I"⟩, 13), (⟨"PalmwardModel", "keepByNow", "(II)I"⟩, 13), (⟨"PalmwardModel", "digestContact", "(JII)J"⟩, 13)]
theorem lw_r4 : ∀ q ∈ lw_privs_4, lw_okq q := List.forall_mem_cons.mpr ⟨lw_p48, List.forall_mem_cons.mpr ⟨lw_p49, List.forall_mem_cons.mpr ⟨lw_p50, List.forall_mem_cons.mpr ⟨lw_p51, List.forall_mem_cons.mpr ⟨lw_p52, List.forall_mem_cons.mpr ⟨lw_p53, List.forall_mem_cons.mpr ⟨lw_p54, List.forall_mem_cons.mpr ⟨lw_p55, List.forall_mem_cons.mpr ⟨lw_p56, List.forall_mem_cons.mpr ⟨lw_p57, List.forall_mem_cons.mpr ⟨lw_p58, fun _ h => absurd h List.not_mem_nil⟩⟩⟩⟩⟩⟩⟩⟩⟩⟩⟩
def lw_privs : List (MethodName × Nat) := lw_privs_1 ++ (lw_privs_2 ++ (lw_privs_3 ++ (lw_privs_4)))
def lw_tbl : List Cond := k2_sels lw_privs ++ tables_1
theorem lw_privs_ok : ∀ q ∈ lw_privs, lw_okq q := by
  show ∀ q ∈ lw_privs_1 ++ (lw_privs_2 ++ (lw_privs_3 ++ (lw_privs_4))), lw_okq q
  exact List.forall_mem_append.mpr ⟨lw_r1, List.forall_mem_append.mpr ⟨lw_r2, List.forall_mem_append.mpr ⟨lw_r3, lw_r4⟩⟩⟩
/-- the streams that the claim lets the run draw from -/
abbrev lw_cs : List Choice := [Jvm.Choice.named "NaN.bits", Jvm.Choice.named "NaN.copy"]
theorem lw_bits : nanBits ∈ lw_cs := by first | decide | exact List.mem_cons_self | simp [lw_cs, nanBits]
end
section
/-! ===== BEGIN words of one list among another's, by their places ===== -/
theorem goodIn_r {big : List Cond} (ws : List Cond) (ps : List Nat) (hp : ws = ps.filterMap (fun i => big[i]?)) (h : ws.all goodWord = true) : GoodIn big ws := by
  intro w hw
  have h1 := List.all_eq_true.mp h w hw
  rw [hp] at hw
  obtain ⟨i, -, hi⟩ := List.mem_filterMap.mp hw
  have hm : w ∈ big := by first | exact List.mem_of_getElem? hi | exact List.getElem?_mem hi
  exact ⟨hm, good_of_word h1⟩
theorem goodIn_app {big a b : List Cond} (ha : GoodIn big a) (hb : GoodIn big b) : GoodIn big (a ++ b) := fun w h => (List.mem_append.mp h).elim (ha w) (hb w)
theorem goodIn_ca {big a b : List Cond} {c : Cond} (ha : GoodIn big (c :: a)) (hb : GoodIn big b) : GoodIn big (c :: (a ++ b)) := fun w h => (List.mem_cons.mp h).elim (fun e => ha w (List.mem_cons.mpr (Or.inl e))) (fun h => (List.mem_append.mp h).elim (fun h => ha w (List.mem_cons.mpr (Or.inr h))) (hb w))
theorem goodIn_sub {big ws : List Cond} (hm : ∀ w ∈ ws, w ∈ big) (h : ws.all goodWord = true) : GoodIn big ws := fun w hw => ⟨hm w hw, good_of_word (List.all_eq_true.mp h w hw)⟩
/-! ===== END ===== -/

/-! ===== BEGIN exceptions that leave a method, and their catching by the caller (launches without stack traces) ===== -/
section VXA
/-! The laws vx_back, vx_callV, vx_callS, vx_callSW, vx_throw0, vx_throwS follow proofs of the library, with one case more: JvmDerived/Free/Laws.lean (Back.of_free), Shelf42/LK1.lean (callV, callS), Shelf/KitTraced.lean (throwNew0V, throwNewS). -/
/-- where a method has thrown q: the class by its name, the cell, what was written, the world -/
def vx_T (XC : String → State → State → Prop) (st : State) (q : Addr) (t : State) (mc ms : Nat) (free : Addr → Prop) : Prop :=
  ∃ (E : String) (ce : Cell) (L : List Loc), XC E st t ∧ t.heap[q]? = some ce ∧ ce.vm = .none ∧ st.vm.findClass E = some ce.cls ∧ st.WarmedH t.vm ∧ st.sameButNew ({ t with vm := st.vm } : State) L mc ms ∧ ∀ z ∈ L, free z.base
def vx_Q (Qc : Array Value → State → Outcome → State → Prop) (XC : String → State → State → Prop) (mc ms : Nat) (free : Addr → Prop) : Array Value → State → Outcome → State → Prop := fun a st o t =>
  (Qc a st o t ∧ ∃ L, FrameEnd st o t L mc ms ∧ ∀ q ∈ L, free q.base) ∨ ∃ q, o = .threw q ∧ vx_T XC st q t mc ms free
/-- a callee that returns or throws -/
def vx_Met (l : Launch) (y : MethodName) (ws : List Cond) (rm : Room) (Pc : Array Value → State → Prop) (Qc : Array Value → State → Outcome → State → Prop) (XC : String → State → State → Prop) (mc ms : Nat) (free : Addr → Prop) : Prop :=
  MetFree l y (headSpec ws rm) Pc (fun _ _ _ _ _ => True) (vx_Q Qc XC mc ms free)
def vx_Post (XC : String → State → State → Prop) (mc ms : Nat) (free : Addr → Prop) : Pt → Array Value → Addr → Pt → Prop := fun A a q B =>
  ∃ (g : JFrame) (mk : MethodId) (t : State) (L : List Loc) (E : String) (ce : Cell), B.U.heap = t.heap ∧ B.U.vm = t.vm ∧ XC E (A.U.calling g mk a) t ∧ t.heap[q]? = some ce ∧ ce.vm = .none ∧ A.U.vm.findClass E = some ce.cls ∧ B.locs = A.locs ++ L ∧ (∀ z ∈ L, free z.base) ∧ B.cells = A.cells + mc ∧ B.slots = A.slots + ms
def vx_Back (l : Launch) (R : Room) (p : Program) (e : Env) (below : List Frame) (s : State) (sargs : Array Value) (y : MethodName) (len W9 : Nat)
    (Pre : Pt → Array Value → Prop) (Post : Pt → Array Value → Option Value → Pt → Prop) (PostX : Pt → Array Value → Addr → Pt → Prop) : Prop :=
  ∀ (m : MethodId) (meth : Method) (c : Code) (A : Pt) (g : JFrame) (ig : Instr) (mk : MethodId) (a : Array Value),
    Stand p l e R s m sargs below meth c A.U A.locs A.cells A.slots → g.method = m → g.locals.size = c.maxLocals → decode c.code g.pc = .ok (ig, len) →
    2 * g.monitorRoom + (g.stack.map fun v => v.category).sum ≤ W9 → A.U.methodNamed? y = some mk → Pre A a →
    (∃ (v : Option Value) (B : Pt), Stand p l e R s m sargs below meth c B.U B.locs B.cells B.slots ∧ Post A a v B ∧
      Steps p.tables e below (doInvoke e (A.U.setTop g) [] mk a).1 (B.U.setTop { g with pc := g.pc + len, stack := v.toList ++ g.stack })) ∨
    (∃ (q : Addr) (B : Pt), Stand p l e R s m sargs below meth c B.U B.locs B.cells B.slots ∧ PostX A a q B ∧
      Steps p.tables e below (doInvoke e (A.U.setTop g) [] mk a).1 ((B.U.setTop g).pushFrame (.throwing q)))
section Payer
variable {l : Launch} {R : Room} {p : Program} {e : Env} {below : List Frame} {s : State} {sargs : Array Value} {y : MethodName} {len W9 : Nat}
theorem vx_back {ws : List Cond} {rm : Room} {Pc : Array Value → State → Prop} {Qc : Array Value → State → Outcome → State → Prop} {XC : String → State → State → Prop} {mc ms : Nat} {free : Addr → Prop} {bytes : ByteArray} {maxL : Nat} {ret : Option FieldType}
    (hM : vx_Met l y ws rm Pc Qc XC mc ms free) (hblind : FrameBlind Pc) (hrc : rm.cells = mc) (hrs : rm.slots = ms)
    (hframes : rm.frames + 1 ≤ R.frames) (hlocals : W9 + (maxL + 11) + rm.locals ≤ R.locals)
    (hws : ∀ w ∈ ws, ∀ a' U, s.WarmedH U.vm → w.before a' U = true) (hcode : Cond.code y bytes maxL ret ∈ ws) (hinit : ∀ a' U, s.WarmedH U.vm → (Cond.initialized y.cls).before a' U = true) :
    vx_Back l R p e below s sargs y len W9 (PreOf R mc ms Pc) (PostOf Qc mc ms free) (vx_Post XC mc ms free) := by
  intro m meth c A g ig mk a X hg hsize hdg hW hn hp
  have h1 : (headSpec ws rm).pre.before a A.U = true := atoms_intro fun w hw => hws w hw _ _ X.warmed
  have h2 : (Cond.code y bytes maxL ret).before a A.U = true := hws _ hcode _ _ X.warmed
  have h3 : (Cond.initialized y.cls).before a A.U = true := hinit _ _ X.warmed
  have h4 : A.cells + (headSpec ws rm).room.cells ≤ R.cells := by rw [show (headSpec ws rm).room.cells = mc from hrc]; exact hp.1
  have h5 : A.slots + (headSpec ws rm).room.slots ≤ R.slots := by rw [show (headSpec ws rm).room.slots = ms from hrs]; exact hp.2.1
  have hPc : Pc a (A.U.calling g mk a) := hblind _ _ _ _ hp.2.2
  obtain ⟨U, Ls, c0, s0⟩ := A
  dsimp only [Pt.U, Pt.locs, Pt.cells, Pt.slots] at h1 h2 h3 h4 h5 X hn hPc ⊢
  obtain ⟨methY, cY, hmY, hcY, -, hlY, -, -, -, -⟩ := Cond.code_spec hn h2
  obtain ⟨kY, hkY, -⟩ := className_of_methodNamed hn
  have hinitY : kY.init = .initialized := Cond.initialized_spec (findClass_of_methodNamed hn) hkY h3
  have h : At U g.method c below := by rw [hg]; exact X.here
  have hlocals9 : W9 + (maxL + 11) + (headSpec ws rm).room.locals ≤ R.locals := hlocals
  have happ : (headSpec ws rm).appliesLoose y e.platform (U.calling g mk a) = true :=
    Spec.appliesLoose_calling (g := g) h hdg hn hkY hinitY
      (X.room_calling (g := g) (R' := (headSpec ws rm).room) hsize hmY hcY hframes (by rw [hlY]; omega) h4 h5) h1
  obtain ⟨mid, hmid⟩ := h.above
  have hfr : (U.setTop g).frames = (.java g :: mid) ++ below := by rw [State.frames_setTop' g h.top, hmid]; rfl
  obtain ⟨o, s₂, hsteps, -, hend, hq⟩ := Steps.callFree hM p X.admits X.cas X.clock (acts := []) hfr happ hPc trivial
  have hq' : vx_Q Qc XC mc ms free a (U.calling g mk a) o s₂ := hq
  rw [State.frames_setTop' g h.top] at hend
  obtain ⟨g₀, hg0⟩ := Option.isSome_iff_exists.mp h.top
  obtain ⟨r, hr⟩ := State.topJava?_eq_some.mp hg0
  have hr' : (({ U with heap := s₂.heap, slotsUsed := s₂.slotsUsed } : State).setVm s₂.vm).frames = .java g₀ :: r := hr
  rcases hq' with ⟨hqc, L, hfe, hL⟩ | ⟨q, rfl, E, ce, L, hx, hce, hcv, hcl, hW₂, hsm, hL⟩
  · obtain ⟨⟨v, rfl⟩, hW₂, e2, q2, q3, q4, q5, q6⟩ := id hfe
    have e3 : s₂ = ({ (U.calling g mk a).setFrames s₂.frames with heap := s₂.heap, slotsUsed := s₂.slotsUsed } : State).setVm s₂.vm := by
      have : s₂ = ({ s₂ with vm := (U.calling g mk a).vm } : State).setVm s₂.vm := rfl
      rw [e2] at this
      exact this
    obtain ⟨c₂, i₂, len₂, hc₂, hd₂, hf₂⟩ := hend
    have hW' : U.WarmedH s₂.vm := hW₂
    have hcc : c₂ = c := by
      have h1 : s₂.code? g.method = U.code? g.method := by
        rw [State.code?_eq, State.code?_eq, hW'.alike.method?]
      exact Option.some.inj (hc₂.symm.trans (h1.trans h.code))
    subst hcc
    have hlen : len₂ = len := by rw [hdg] at hd₂; cases hd₂; rfl
    subst hlen
    have hs₂ : s₂ = (({ U with heap := s₂.heap, slotsUsed := s₂.slotsUsed } : State).setVm s₂.vm).setTop { g with pc := g.pc + len₂, stack := v.toList ++ g.stack } := by
      refine e3.trans ?_
      rw [hf₂, State.calling_eq h.top, State.setFrames_setFrames, State.setTop_of_frames _ hr', hr]
      rfl
    have hsame : U.sameButNew ({ U with heap := s₂.heap, slotsUsed := s₂.slotsUsed } : State) L mc ms := by
      refine ⟨?_, q2, q3, q4, q5, q6⟩
      obtain ⟨t, ht, -⟩ := State.frames_cons hr
      show ({ U with heap := s₂.heap, slotsUsed := s₂.slotsUsed } : State) = { U.setFrames U.frames with heap := s₂.heap, slotsUsed := s₂.slotsUsed }
      rw [State.setFrames_self ht]
    subst hg
    refine Or.inl ⟨v, ⟨(({ U with heap := s₂.heap, slotsUsed := s₂.slotsUsed } : State).setVm s₂.vm), Ls ++ L, c0 + mc, s0 + ms⟩,
      ⟨X.admits, X.cas, X.clock, X.frames, X.room, X.hears, X.method, X.code, (X.here.setHeapUsed s₂.heap s₂.slotsUsed).setVm hW'.alike, X.tail, State.WarmedH.trans X.warmed hW', X.limits, X.bytes, X.same.trans (hsame.setVm s.vm)⟩,
      ⟨g, mk, s₂, L, rfl, rfl, hqc, rfl, hL, rfl, rfl⟩, ?_⟩
    show Steps p.tables e below _ ((({ U with heap := s₂.heap, slotsUsed := s₂.slotsUsed } : State).setVm s₂.vm).setTop { g with pc := g.pc + len₂, stack := v.toList ++ g.stack })
    rw [← hs₂]
    exact hsteps
  · obtain ⟨e2, q2, q3, q4, q5, q6⟩ := id hsm
    have e3 : s₂ = ({ (U.calling g mk a).setFrames s₂.frames with heap := s₂.heap, slotsUsed := s₂.slotsUsed } : State).setVm s₂.vm := by
      have : s₂ = ({ s₂ with vm := (U.calling g mk a).vm } : State).setVm s₂.vm := rfl
      rw [e2] at this
      exact this
    have hf₂ : s₂.frames = .throwing q :: .java g :: U.frames.tail := hend
    have hW' : U.WarmedH s₂.vm := hW₂
    have hs₂ : s₂ = ((({ U with heap := s₂.heap, slotsUsed := s₂.slotsUsed } : State).setVm s₂.vm).setTop g).pushFrame (.throwing q) := by
      refine e3.trans ?_
      rw [hf₂, State.calling_eq h.top, State.setFrames_setFrames, State.pushFrame, State.frames_setTop _ hr', State.setTop_of_frames _ hr', State.setFrames_setFrames, hr]
      rfl
    have hsame : U.sameButNew ({ U with heap := s₂.heap, slotsUsed := s₂.slotsUsed } : State) L mc ms := by
      refine ⟨?_, q2, q3, q4, q5, q6⟩
      obtain ⟨t, ht, -⟩ := State.frames_cons hr
      show ({ U with heap := s₂.heap, slotsUsed := s₂.slotsUsed } : State) = { U.setFrames U.frames with heap := s₂.heap, slotsUsed := s₂.slotsUsed }
      rw [State.setFrames_self ht]
    subst hg
    refine Or.inr ⟨q, ⟨(({ U with heap := s₂.heap, slotsUsed := s₂.slotsUsed } : State).setVm s₂.vm), Ls ++ L, c0 + mc, s0 + ms⟩,
      ⟨X.admits, X.cas, X.clock, X.frames, X.room, X.hears, X.method, X.code, (X.here.setHeapUsed s₂.heap s₂.slotsUsed).setVm hW'.alike, X.tail, State.WarmedH.trans X.warmed hW', X.limits, X.bytes, X.same.trans (hsame.setVm s.vm)⟩,
      ⟨g, mk, s₂, L, E, ce, rfl, rfl, hx, hce, hcv, hcl, rfl, hL, rfl, rfl⟩, ?_⟩
    show Steps p.tables e below _ (((({ U with heap := s₂.heap, slotsUsed := s₂.slotsUsed } : State).setVm s₂.vm).setTop g).pushFrame (.throwing q))
    rw [← hs₂]
    exact hsteps
end Payer
section Calls
variable {p : Program} {l : Launch} {e : Env} {R : Room} {s : State} {m : MethodId} {args : Array Value} {below : List Frame} {meth : Method} {c : Code} {T : State} {locs : List Loc} {cells slots : Nat}
theorem vx_callV (X : Stand p l e R s m args below meth c T locs cells slots) (hexec : p.tables.exec = Jvm.exec) {own C : String} {index : Nat} {y : MethodName} {bytes : ByteArray} {maxL : Nat} {ret : Option FieldType}
    (hown : s.vm.findClass own = some m.cls) (hlink : (Cond.methodLink own index y).before args s = true) (hinst : (Cond.instanceMethod y).before args s = true) (hsel : (Cond.selects C y y).before args s = true)
    (hcode : (Cond.code y bytes maxL ret).before args s = true) (hy : y.cls ≠ "java/lang/invoke/MethodHandle" ∧ y.cls ≠ "java/lang/invoke/VarHandle")
    {W9 : Nat} {Pre : Pt → Array Value → Prop} {Post : Pt → Array Value → Option Value → Pt → Prop} {PostX : Pt → Array Value → Addr → Pt → Prop} (hK : vx_Back l R p e below s args y 3 W9 Pre Post PostX)
    {b : Addr} {cellB : Cell} (hcell : T.heap[b]? = some cellB) (hobj : cellB.vm.isStatics = false) (hcls : s.vm.findClass C = some cellB.cls)
    {g : JFrame} (hg : g.method = m) (hsize : g.locals.size = c.maxLocals) {argsL rest : List Value} (hlen : ∀ sig, parseMethodDescriptor y.desc = some sig → argsL.length = sig.parameters.length)
    (hstack : g.stack = argsL.reverse ++ .ref b :: rest) (hW : 2 * g.monitorRoom + (rest.map fun v => v.category).sum ≤ W9) (hdg : decode c.code g.pc = .ok (.invokevirtual index, 3))
    (hpre : ∀ vm₁, s.WarmedH vm₁ → Pre ⟨T.setVm vm₁, locs, cells, slots⟩ (Value.ref b :: argsL).toArray) :
    (∃ (v : Option Value) (vm₁ : Vm) (B : Pt), s.WarmedH vm₁ ∧ Stand p l e R s m args below meth c B.U B.locs B.cells B.slots ∧ Post ⟨T.setVm vm₁, locs, cells, slots⟩ (Value.ref b :: argsL).toArray v B ∧
      ∀ target, Steps p.tables e below (B.U.setTop { g with pc := g.pc + 3, stack := v.toList ++ rest }) target → Steps p.tables e below (T.setTop g) target) ∨
    (∃ (q : Addr) (vm₁ : Vm) (B : Pt), s.WarmedH vm₁ ∧ Stand p l e R s m args below meth c B.U B.locs B.cells B.slots ∧ PostX ⟨T.setVm vm₁, locs, cells, slots⟩ (Value.ref b :: argsL).toArray q B ∧
      Steps p.tables e below (T.setTop g) ((B.U.setTop { g with stack := rest }).pushFrame (.throwing q))) := by
  obtain ⟨mk, methM, hnamed, hmethM, hstM, habM⟩ := Cond.instanceMethod_spec hinst
  obtain ⟨methM', cM, hmethM', -, -, -, -, -, -, hsigM⟩ := Cond.code_spec hnamed hcode
  cases hmethM.symm.trans hmethM'
  obtain ⟨c2, r2, m2, q1, q2, q3, q4, kP, hkP, hkPi⟩ := Cond.selects_spec hsel
  cases hcls.symm.trans q1
  cases (State.methodFound?_of_named hnamed hy).symm.trans q2
  cases hnamed.symm.trans q3
  have hselP : selectMethod e.platform s.vm cellB.cls mk = .method mk := by rw [Launch.admits_selectMethod X.admits]; exact q4
  obtain ⟨vm₁, X₁, hstep₁⟩ := X.invokevirtual hexec hown hlink hnamed hmethM hstM hkP hkPi hy (a := b) (cell := cellB) hcell
    (fun z h => by rw [h] at hobj; cases hobj) hselP hmethM habM hkP hkPi (g := g) hg (argsL := argsL) (rest := rest) (hlen _ hsigM) hstack hdg
  rcases hK m meth c ⟨T.setVm vm₁, locs, cells, slots⟩ { g with stack := rest } (.invokevirtual index) mk (Value.ref b :: argsL).toArray X₁ hg hsize hdg hW (X₁.named hnamed) (hpre vm₁ X₁.warmed) with ⟨v, B, X', hpost, hsteps⟩ | ⟨q, B, X', hpost, hsteps⟩
  · exact Or.inl ⟨v, vm₁, B, X₁.warmed, X', hpost, fun target h => hstep₁ _ fun acts => by rw [doInvoke_state]; exact hsteps.trans h⟩
  · exact Or.inr ⟨q, vm₁, B, X₁.warmed, X', hpost, hstep₁ _ fun acts => by rw [doInvoke_state]; exact hsteps⟩
theorem vx_callS (X : Stand p l e R s m args below meth c T locs cells slots) (hexec : p.tables.exec = Jvm.exec) {own : String} {index : Nat} {y : MethodName} {bytes : ByteArray} {maxL : Nat} {ret : Option FieldType}
    (hown : s.vm.findClass own = some m.cls) (hlink : (Cond.methodLink own index y).before args s = true) (hstat : (Cond.static y).before args s = true) (hinit : (Cond.initialized y.cls).before args s = true)
    (hcode : (Cond.code y bytes maxL ret).before args s = true) (hy : y.cls ≠ "java/lang/invoke/MethodHandle" ∧ y.cls ≠ "java/lang/invoke/VarHandle")
    {W9 : Nat} {Pre : Pt → Array Value → Prop} {Post : Pt → Array Value → Option Value → Pt → Prop} {PostX : Pt → Array Value → Addr → Pt → Prop} (hK : vx_Back l R p e below s args y 3 W9 Pre Post PostX)
    {g : JFrame} (hg : g.method = m) (hsize : g.locals.size = c.maxLocals) {argsL rest : List Value} (hlen : ∀ sig, parseMethodDescriptor y.desc = some sig → argsL.length = sig.parameters.length)
    (hstack : g.stack = argsL.reverse ++ rest) (hW : 2 * g.monitorRoom + (rest.map fun v => v.category).sum ≤ W9) (hdg : decode c.code g.pc = .ok (.invokestatic index, 3))
    (hpre : ∀ vm₁, s.WarmedH vm₁ → Pre ⟨T.setVm vm₁, locs, cells, slots⟩ argsL.toArray) :
    (∃ (v : Option Value) (vm₁ : Vm) (B : Pt), s.WarmedH vm₁ ∧ Stand p l e R s m args below meth c B.U B.locs B.cells B.slots ∧ Post ⟨T.setVm vm₁, locs, cells, slots⟩ argsL.toArray v B ∧
      ∀ target, Steps p.tables e below (B.U.setTop { g with pc := g.pc + 3, stack := v.toList ++ rest }) target → Steps p.tables e below (T.setTop g) target) ∨
    (∃ (q : Addr) (vm₁ : Vm) (B : Pt), s.WarmedH vm₁ ∧ Stand p l e R s m args below meth c B.U B.locs B.cells B.slots ∧ PostX ⟨T.setVm vm₁, locs, cells, slots⟩ argsL.toArray q B ∧
      Steps p.tables e below (T.setTop g) ((B.U.setTop { g with stack := rest }).pushFrame (.throwing q))) := by
  obtain ⟨mk, hnamed⟩ := Cond.code_named hcode
  obtain ⟨methM, cM, hmethM, -, -, -, -, -, -, hsigM⟩ := Cond.code_spec hnamed hcode
  have hstatic : methM.isStatic = true := Cond.static_spec hnamed hmethM hstat
  obtain ⟨kP, hkP, -⟩ := className_of_methodNamed hnamed
  have hinitP : kP.init = .initialized := Cond.initialized_spec (findClass_of_methodNamed hnamed) hkP hinit
  obtain ⟨vm₁, X₁, hstep₁⟩ := X.invokestatic hexec hown hlink hnamed hmethM hstatic hkP hinitP hy (g := g) hg (argsL := argsL) (rest := rest) (hlen _ hsigM) hstack hdg
  rcases hK m meth c ⟨T.setVm vm₁, locs, cells, slots⟩ { g with stack := rest } (.invokestatic index) mk argsL.toArray X₁ hg hsize hdg hW (X₁.named hnamed) (hpre vm₁ X₁.warmed) with ⟨v, B, X', hpost, hsteps⟩ | ⟨q, B, X', hpost, hsteps⟩
  · exact Or.inl ⟨v, vm₁, B, X₁.warmed, X', hpost, fun target h => hstep₁ _ fun acts => by rw [doInvoke_state]; exact hsteps.trans h⟩
  · exact Or.inr ⟨q, vm₁, B, X₁.warmed, X', hpost, hstep₁ _ fun acts => by rw [doInvoke_state]; exact hsteps⟩
end Calls
theorem vx_cls {s : State} {T : State} {vm₁ : Vm} {E : String} {k : ClassId} (hW : s.WarmedH vm₁) (h : (T.setVm vm₁).vm.findClass E = some k) : s.vm.findClass E = some k := by
  have h1 : vm₁.findClass E = some k := h
  rw [hW.alike.findClass] at h1
  exact h1
/-- the method's frame g, with q thrown over it -/
def vx_W (p : Program) (l : Launch) (e : Env) (R : Room) (s : State) (m : MethodId) (args : Array Value) (below : List Frame) (meth : Method) (c : Code) (H : Heap) (locs : List Loc) (cells slots : Nat) (Q : State → Prop) (g : JFrame) (q : Addr) : Prop :=
  ∀ T : State, T.heap = H → Stand p l e R s m args below meth c T locs cells slots → ∃ t, Steps p.tables e below ((T.setTop g).pushFrame (.throwing q)) t ∧ Q t
def vx_Run (p : Program) (l : Launch) (e : Env) (R : Room) (s : State) (m : MethodId) (args : Array Value) (below : List Frame) (meth : Method) (c : Code) (H : Heap) (locs : List Loc) (cells slots mc ms : Nat) (g : JFrame) (rest : List Value) (Qa : State → Outcome → State → Prop) (XC : String → State → State → Prop) (free : Addr → Prop) : Prop :=
  ∀ T : State, T.heap = H → Stand p l e R s m args below meth c T locs cells slots →
    (∃ (v : Option Value) (st₀ t T' : State) (L : List Loc), st₀.heap = H ∧ Stand p l e R s m args below meth c T' (locs ++ L) (cells + mc) (slots + ms) ∧ (∀ q ∈ L, free q.base) ∧ T'.heap = t.heap ∧ T'.vm = t.vm ∧ Qa st₀ (.returned v) t ∧
      Goes p e below T g T' { g with pc := g.pc + 3, stack := v.toList ++ rest }) ∨
    (∃ (q : Addr) (st₀ t T' : State) (L : List Loc) (E : String) (ce : Cell), st₀.heap = H ∧ Stand p l e R s m args below meth c T' (locs ++ L) (cells + mc) (slots + ms) ∧ (∀ z ∈ L, free z.base) ∧ T'.heap = t.heap ∧ T'.vm = t.vm ∧ XC E st₀ t ∧ t.heap[q]? = some ce ∧ ce.vm = .none ∧ s.vm.findClass E = some ce.cls ∧
      Steps p.tables e below (T.setTop g) ((T'.setTop { g with stack := rest }).pushFrame (.throwing q)))
def vx_X {S : Type} (px : S → Prop) (B : String → S → State → Prop) (A : Nat → Prop) : String → State → State → Prop := fun E st t => ∃ u : S, px u ∧ B E u t ∧ va_F A st t
section Runs
variable {p : Program} {l : Launch} {e : Env} {R : Room} {s : State} {m : MethodId} {args : Array Value} {below : List Frame} {meth : Method} {c : Code} {H : Heap} {locs : List Loc} {cells slots : Nat}
variable {y : MethodName} {bytes cc : ByteArray} {maxL nL mc ms n index : Nat} {ret : Option FieldType} {ws : List Cond} {rm : Room} {Pc : Array Value → State → Prop} {Qc : Array Value → State → Outcome → State → Prop} {XC : String → State → State → Prop} {free : Addr → Prop} {Ts : List Cond} {own C : String} {b : Addr} {As rest : List Value} {g : JFrame}
theorem vx_callBack (cb : CallB R s args own index y bytes maxL ret ws rm mc ms n) (hM : vx_Met l y ws rm Pc Qc XC mc ms free) (hbl : FrameBlind Pc) : vx_Back l R p e below s args y 3 8 (PreOf R mc ms Pc) (PostOf Qc mc ms free) (vx_Post XC mc ms free) := by
  obtain ⟨hrc, hrs, hfr, hlo, hws, hcw, -, hini, -⟩ := cb
  exact vx_back (bytes := bytes) (maxL := maxL) (ret := ret) hM hbl hrc hrs hfr hlo hws hcw (fun a' U hW => word_at hW (Or.inl (by first | rfl | simp [Cond.onTables, Cond.keeps, Cond.steady])) hini)
theorem vx_runV (S : CallFix p m c cc nL s args Ts own) (hM : vx_Met l y ws rm Pc Qc XC mc ms free) (cw : CallW R s args own C index y bytes maxL ret ws rm mc ms n) (hp : PreV s H C b Pc As)
    (hg : g.method = m) (hn : As.length = n) (hsize : g.locals.size = nL) (hstack : g.stack = As.reverse ++ .ref b :: rest) (hW : 2 * g.monitorRoom + (rest.map fun v => v.category).sum ≤ 8) (hdg : decode cc g.pc = .ok (.invokevirtual index, 3)) (hf : cells + mc ≤ R.cells ∧ slots + ms ≤ R.slots) :
    vx_Run p l e R s m args below meth c H locs cells slots mc ms g rest (Qc (Value.ref b :: As).toArray) XC free := by
  have hK : vx_Back l R p e below s args y 3 8 (PreOf R mc ms Pc) (PostOf Qc mc ms free) (vx_Post XC mc ms free) := vx_callBack cw.1 hM hp.1
  obtain ⟨⟨-, -, -, -, -, -, hcode, -, hy, hlen, hl⟩, hin, hse⟩ := cw
  obtain ⟨hx, hb, hml, ho, -⟩ := S
  obtain ⟨-, ⟨cellB, hcB, hoB, hclB⟩, hPc⟩ := hp
  intro T hT X
  rcases vx_callV X hx (C := C) (bytes := bytes) (maxL := maxL) (ret := ret) ho hl hin hse hcode hy hK (by rw [hT]; exact hcB) hoB hclB hg (hsize.trans hml.symm) (argsL := As) (rest := rest) (fun sig h => hn.trans (hlen sig h)) hstack hW (by rw [hb]; exact hdg)
    (fun vm₁ hW₁ => ⟨hf.1, hf.2, hPc (T.setVm vm₁) hT hW₁⟩) with ⟨v, vm₁, ⟨U', l2, c2, s2⟩, hW₁, X', ⟨g', mk, t, L, e1, e2, hq, h1, hL, h2, h3⟩, st⟩ | ⟨q, vm₁, ⟨U', l2, c2, s2⟩, hW₁, X', ⟨g', mk, t, L, E, ce, e1, e2, hq, hce, hcv, hcl, h1, hL, h2, h3⟩, st⟩
  · dsimp only [Pt.U, Pt.locs, Pt.cells, Pt.slots] at X' e1 e2 h1 h2 h3 st
    subst h1; subst h2; subst h3
    exact Or.inl ⟨v, (T.setVm vm₁).calling g' mk (Value.ref b :: As).toArray, t, U', L, hT, X', hL, e1, e2, hq, st⟩
  · dsimp only [Pt.U, Pt.locs, Pt.cells, Pt.slots] at X' e1 e2 h1 h2 h3 st hcl
    subst h1; subst h2; subst h3
    exact Or.inr ⟨q, (T.setVm vm₁).calling g' mk (Value.ref b :: As).toArray, t, U', L, E, ce, hT, X', hL, e1, e2, hq, hce, hcv, vx_cls hW₁ hcl, st⟩
theorem vx_runS (S : CallFix p m c cc nL s args Ts own) (hM : vx_Met l y ws rm Pc Qc XC mc ms free) (cw : CallB R s args own index y bytes maxL ret ws rm mc ms n ∧ (Cond.static y).before args s = true) (hp : PreS s H Pc As)
    (hg : g.method = m) (hn : As.length = n) (hsize : g.locals.size = nL) (hstack : g.stack = As.reverse ++ rest) (hW : 2 * g.monitorRoom + (rest.map fun v => v.category).sum ≤ 8) (hdg : decode cc g.pc = .ok (.invokestatic index, 3)) (hf : cells + mc ≤ R.cells ∧ slots + ms ≤ R.slots) :
    vx_Run p l e R s m args below meth c H locs cells slots mc ms g rest (Qc As.toArray) XC free := by
  have hK : vx_Back l R p e below s args y 3 8 (PreOf R mc ms Pc) (PostOf Qc mc ms free) (vx_Post XC mc ms free) := vx_callBack cw.1 hM hp.1
  obtain ⟨⟨-, -, -, -, -, -, hcode, hini, hy, hlen, hl⟩, hstt⟩ := cw
  obtain ⟨hx, hb, hml, ho, -⟩ := S
  intro T hT X
  rcases vx_callS X hx (bytes := bytes) (maxL := maxL) (ret := ret) ho hl hstt hini hcode hy hK hg (hsize.trans hml.symm) (argsL := As) (rest := rest) (fun sig h => hn.trans (hlen sig h)) hstack hW (by rw [hb]; exact hdg)
    (fun vm₁ hW₁ => ⟨hf.1, hf.2, hp.2 (T.setVm vm₁) hT hW₁⟩) with ⟨v, vm₁, ⟨U', l2, c2, s2⟩, hW₁, X', ⟨g', mk, t, L, e1, e2, hq, h1, hL, h2, h3⟩, st⟩ | ⟨q, vm₁, ⟨U', l2, c2, s2⟩, hW₁, X', ⟨g', mk, t, L, E, ce, e1, e2, hq, hce, hcv, hcl, h1, hL, h2, h3⟩, st⟩
  · dsimp only [Pt.U, Pt.locs, Pt.cells, Pt.slots] at X' e1 e2 h1 h2 h3 st
    subst h1; subst h2; subst h3
    exact Or.inl ⟨v, (T.setVm vm₁).calling g' mk As.toArray, t, U', L, hT, X', hL, e1, e2, hq, st⟩
  · dsimp only [Pt.U, Pt.locs, Pt.cells, Pt.slots] at X' e1 e2 h1 h2 h3 st hcl
    subst h1; subst h2; subst h3
    exact Or.inr ⟨q, (T.setVm vm₁).calling g' mk As.toArray, t, U', L, E, ce, hT, X', hL, e1, e2, hq, hce, hcv, vx_cls hW₁ hcl, st⟩
end Runs
section Rows
variable {p : Program} {l : Launch} {e : Env} {R : Room} {s : State} {m : MethodId} {args : Array Value} {below : List Frame} {meth : Method} {c : Code} {H : Heap} {locs : List Loc} {cells slots : Nat} {Q : State → Prop}
variable {mc ms : Nat} {free : Addr → Prop} {A0 A1 : Nat → Prop} {H0 : Heap} {a : Array Value} {pc : Nat} {ls : Array Slot} {st0 rest : List Value}
theorem vx_keep {st₀ t T' : State} {L : List Loc} (h0 : st₀.heap = H) (e1 : T'.heap = t.heap) (hS : va_S A0 H0 H locs) (hA : ∀ q, q < H.size → A1 q → A0 q) (hf : ∀ q, free q → A0 q) (hL : ∀ q ∈ L, free q.base) (hF : va_F A1 st₀ t) :
    H.size ≤ T'.heap.size ∧ (∀ q : Nat, q < H.size → ¬ A1 q → T'.heap[q]? = H[q]?) ∧ va_S A0 H0 T'.heap (locs ++ L) := by
  obtain ⟨hz, hk⟩ := hF
  rw [h0] at hz hk
  exact ⟨by rw [e1]; exact hz, fun q h1 h2 => by rw [e1]; exact hk q h1 h2,
    ⟨Nat.le_trans hS.1 (by rw [e1]; exact hz), fun q h1 h2 => by rw [e1, hk q (Nat.lt_of_lt_of_le h1 hS.1) (fun z => h2 (hA q (Nat.lt_of_lt_of_le h1 hS.1) z))]; exact hS.2.1 q h1 h2, fun q hq => by
      rcases List.mem_append.mp hq with h | h
      · exact hS.2.2 q h
      · exact hf _ (hL q h)⟩⟩
theorem vx_calli {S SX : Type} {post : Int32 → S → Prop} {px : SX → Prop} {B : S → State → Prop} {BX : String → SX → State → Prop} {AX : Nat → Prop} (hr : vx_Run p l e R s m args below meth c H locs cells slots mc ms (F0 m pc ls st0) rest (va_Qi post B A1 a) (vx_X px BX AX) free) (hS : va_S A0 H0 H locs) (hA : ∀ q, q < H.size → A1 q → A0 q) (hf : ∀ q, free q → A0 q) (hAX : ∀ q, q < H.size → AX q → A0 q)
    (kx : ∀ (E : String) (ce : Cell) (q9 : Addr) (u : SX) (t : State) (H1 : Heap) (locs1 : List Loc), t.heap = H1 → s.vm.Alike t.vm → px u → BX E u t → H.size ≤ H1.size → (∀ q : Nat, q < H.size → ¬ AX q → H1[q]? = H[q]?) → va_S A0 H0 H1 locs1 → H1[q9]? = some ce → ce.vm = .none → s.vm.findClass E = some ce.cls → vx_W p l e R s m args below meth c H1 locs1 (cells + mc) (slots + ms) Q (F0 m pc ls rest) q9)
    (kk : ∀ (r : Int32) (u : S) (t : State) (H1 : Heap) (locs1 : List Loc), t.heap = H1 → s.vm.Alike t.vm → post r u → B u t → H.size ≤ H1.size → (∀ q : Nat, q < H.size → ¬ A1 q → H1[q]? = H[q]?) → va_S A0 H0 H1 locs1 → W p l e R s m args below meth c H1 locs1 (cells + mc) (slots + ms) Q (F0 m (pc + 3) ls (.int r :: rest))) : W p l e R s m args below meth c H locs cells slots Q (F0 m pc ls st0) := by
  intro T hT X
  rcases hr T hT X with ⟨v, st₀, t, T', L, h0, X', hL, e1, e2, ⟨⟨r, u, hv, hp, hb⟩, hF⟩, st⟩ | ⟨q, st₀, t, T', L, E, ce, h0, X', hL, e1, e2, ⟨u, hp, hb, hF⟩, hce, hcv, hcl, st⟩
  · cases hv
    obtain ⟨k1, k2, k3⟩ := vx_keep h0 e1 hS hA hf hL hF
    obtain ⟨t2, a1, b1⟩ := kk r u t T'.heap (locs ++ L) e1.symm (by rw [← e2]; exact X'.warmed.alike) hp hb k1 k2 k3 T' rfl X'
    exact ⟨t2, st t2 a1, b1⟩
  · obtain ⟨k1, k2, k3⟩ := vx_keep h0 e1 hS hAX hf hL hF
    obtain ⟨t2, a1, b1⟩ := kx E ce q u t T'.heap (locs ++ L) e1.symm (by rw [← e2]; exact X'.warmed.alike) hp hb k1 k2 k3 (by rw [e1]; exact hce) hcv hcl T' rfl X'
    exact ⟨t2, st.trans a1, b1⟩
theorem vx_calll {S SX : Type} {post : Int64 → S → Prop} {px : SX → Prop} {B : S → State → Prop} {BX : String → SX → State → Prop} {AX : Nat → Prop} (hr : vx_Run p l e R s m args below meth c H locs cells slots mc ms (F0 m pc ls st0) rest (va_Ql post B A1 a) (vx_X px BX AX) free) (hS : va_S A0 H0 H locs) (hA : ∀ q, q < H.size → A1 q → A0 q) (hf : ∀ q, free q → A0 q) (hAX : ∀ q, q < H.size → AX q → A0 q)
    (kx : ∀ (E : String) (ce : Cell) (q9 : Addr) (u : SX) (t : State) (H1 : Heap) (locs1 : List Loc), t.heap = H1 → s.vm.Alike t.vm → px u → BX E u t → H.size ≤ H1.size → (∀ q : Nat, q < H.size → ¬ AX q → H1[q]? = H[q]?) → va_S A0 H0 H1 locs1 → H1[q9]? = some ce → ce.vm = .none → s.vm.findClass E = some ce.cls → vx_W p l e R s m args below meth c H1 locs1 (cells + mc) (slots + ms) Q (F0 m pc ls rest) q9)
    (kk : ∀ (r : Int64) (u : S) (t : State) (H1 : Heap) (locs1 : List Loc), t.heap = H1 → s.vm.Alike t.vm → post r u → B u t → H.size ≤ H1.size → (∀ q : Nat, q < H.size → ¬ A1 q → H1[q]? = H[q]?) → va_S A0 H0 H1 locs1 → W p l e R s m args below meth c H1 locs1 (cells + mc) (slots + ms) Q (F0 m (pc + 3) ls (.long r :: rest))) : W p l e R s m args below meth c H locs cells slots Q (F0 m pc ls st0) := by
  intro T hT X
  rcases hr T hT X with ⟨v, st₀, t, T', L, h0, X', hL, e1, e2, ⟨⟨r, u, hv, hp, hb⟩, hF⟩, st⟩ | ⟨q, st₀, t, T', L, E, ce, h0, X', hL, e1, e2, ⟨u, hp, hb, hF⟩, hce, hcv, hcl, st⟩
  · cases hv
    obtain ⟨k1, k2, k3⟩ := vx_keep h0 e1 hS hA hf hL hF
    obtain ⟨t2, a1, b1⟩ := kk r u t T'.heap (locs ++ L) e1.symm (by rw [← e2]; exact X'.warmed.alike) hp hb k1 k2 k3 T' rfl X'
    exact ⟨t2, st t2 a1, b1⟩
  · obtain ⟨k1, k2, k3⟩ := vx_keep h0 e1 hS hAX hf hL hF
    obtain ⟨t2, a1, b1⟩ := kx E ce q u t T'.heap (locs ++ L) e1.symm (by rw [← e2]; exact X'.warmed.alike) hp hb k1 k2 k3 (by rw [e1]; exact hce) hcv hcl T' rfl X'
    exact ⟨t2, st.trans a1, b1⟩
theorem vx_callf {S SX : Type} {post : UInt32 → S → Prop} {px : SX → Prop} {B : S → State → Prop} {BX : String → SX → State → Prop} {AX : Nat → Prop} (hr : vx_Run p l e R s m args below meth c H locs cells slots mc ms (F0 m pc ls st0) rest (va_Qf post B A1 a) (vx_X px BX AX) free) (hS : va_S A0 H0 H locs) (hA : ∀ q, q < H.size → A1 q → A0 q) (hf : ∀ q, free q → A0 q) (hAX : ∀ q, q < H.size → AX q → A0 q)
    (kx : ∀ (E : String) (ce : Cell) (q9 : Addr) (u : SX) (t : State) (H1 : Heap) (locs1 : List Loc), t.heap = H1 → s.vm.Alike t.vm → px u → BX E u t → H.size ≤ H1.size → (∀ q : Nat, q < H.size → ¬ AX q → H1[q]? = H[q]?) → va_S A0 H0 H1 locs1 → H1[q9]? = some ce → ce.vm = .none → s.vm.findClass E = some ce.cls → vx_W p l e R s m args below meth c H1 locs1 (cells + mc) (slots + ms) Q (F0 m pc ls rest) q9)
    (kk : ∀ (r : UInt32) (u : S) (t : State) (H1 : Heap) (locs1 : List Loc), t.heap = H1 → s.vm.Alike t.vm → post r u → B u t → H.size ≤ H1.size → (∀ q : Nat, q < H.size → ¬ A1 q → H1[q]? = H[q]?) → va_S A0 H0 H1 locs1 → W p l e R s m args below meth c H1 locs1 (cells + mc) (slots + ms) Q (F0 m (pc + 3) ls (.float r :: rest))) : W p l e R s m args below meth c H locs cells slots Q (F0 m pc ls st0) := by
  intro T hT X
  rcases hr T hT X with ⟨v, st₀, t, T', L, h0, X', hL, e1, e2, ⟨⟨r, u, hv, hp, hb⟩, hF⟩, st⟩ | ⟨q, st₀, t, T', L, E, ce, h0, X', hL, e1, e2, ⟨u, hp, hb, hF⟩, hce, hcv, hcl, st⟩
  · cases hv
    obtain ⟨k1, k2, k3⟩ := vx_keep h0 e1 hS hA hf hL hF
    obtain ⟨t2, a1, b1⟩ := kk r u t T'.heap (locs ++ L) e1.symm (by rw [← e2]; exact X'.warmed.alike) hp hb k1 k2 k3 T' rfl X'
    exact ⟨t2, st t2 a1, b1⟩
  · obtain ⟨k1, k2, k3⟩ := vx_keep h0 e1 hS hAX hf hL hF
    obtain ⟨t2, a1, b1⟩ := kx E ce q u t T'.heap (locs ++ L) e1.symm (by rw [← e2]; exact X'.warmed.alike) hp hb k1 k2 k3 (by rw [e1]; exact hce) hcv hcl T' rfl X'
    exact ⟨t2, st.trans a1, b1⟩
theorem vx_calld {S SX : Type} {post : UInt64 → S → Prop} {px : SX → Prop} {B : S → State → Prop} {BX : String → SX → State → Prop} {AX : Nat → Prop} (hr : vx_Run p l e R s m args below meth c H locs cells slots mc ms (F0 m pc ls st0) rest (va_Qd post B A1 a) (vx_X px BX AX) free) (hS : va_S A0 H0 H locs) (hA : ∀ q, q < H.size → A1 q → A0 q) (hf : ∀ q, free q → A0 q) (hAX : ∀ q, q < H.size → AX q → A0 q)
    (kx : ∀ (E : String) (ce : Cell) (q9 : Addr) (u : SX) (t : State) (H1 : Heap) (locs1 : List Loc), t.heap = H1 → s.vm.Alike t.vm → px u → BX E u t → H.size ≤ H1.size → (∀ q : Nat, q < H.size → ¬ AX q → H1[q]? = H[q]?) → va_S A0 H0 H1 locs1 → H1[q9]? = some ce → ce.vm = .none → s.vm.findClass E = some ce.cls → vx_W p l e R s m args below meth c H1 locs1 (cells + mc) (slots + ms) Q (F0 m pc ls rest) q9)
    (kk : ∀ (r : UInt64) (u : S) (t : State) (H1 : Heap) (locs1 : List Loc), t.heap = H1 → s.vm.Alike t.vm → post r u → B u t → H.size ≤ H1.size → (∀ q : Nat, q < H.size → ¬ A1 q → H1[q]? = H[q]?) → va_S A0 H0 H1 locs1 → W p l e R s m args below meth c H1 locs1 (cells + mc) (slots + ms) Q (F0 m (pc + 3) ls (.double r :: rest))) : W p l e R s m args below meth c H locs cells slots Q (F0 m pc ls st0) := by
  intro T hT X
  rcases hr T hT X with ⟨v, st₀, t, T', L, h0, X', hL, e1, e2, ⟨⟨r, u, hv, hp, hb⟩, hF⟩, st⟩ | ⟨q, st₀, t, T', L, E, ce, h0, X', hL, e1, e2, ⟨u, hp, hb, hF⟩, hce, hcv, hcl, st⟩
  · cases hv
    obtain ⟨k1, k2, k3⟩ := vx_keep h0 e1 hS hA hf hL hF
    obtain ⟨t2, a1, b1⟩ := kk r u t T'.heap (locs ++ L) e1.symm (by rw [← e2]; exact X'.warmed.alike) hp hb k1 k2 k3 T' rfl X'
    exact ⟨t2, st t2 a1, b1⟩
  · obtain ⟨k1, k2, k3⟩ := vx_keep h0 e1 hS hAX hf hL hF
    obtain ⟨t2, a1, b1⟩ := kx E ce q u t T'.heap (locs ++ L) e1.symm (by rw [← e2]; exact X'.warmed.alike) hp hb k1 k2 k3 (by rw [e1]; exact hce) hcv hcl T' rfl X'
    exact ⟨t2, st.trans a1, b1⟩
theorem vx_callv {S SX : Type} {post : S → Prop} {px : SX → Prop} {B : S → State → Prop} {BX : String → SX → State → Prop} {AX : Nat → Prop} (hr : vx_Run p l e R s m args below meth c H locs cells slots mc ms (F0 m pc ls st0) rest (va_Qv post B A1 a) (vx_X px BX AX) free) (hS : va_S A0 H0 H locs) (hA : ∀ q, q < H.size → A1 q → A0 q) (hf : ∀ q, free q → A0 q) (hAX : ∀ q, q < H.size → AX q → A0 q)
    (kx : ∀ (E : String) (ce : Cell) (q9 : Addr) (u : SX) (t : State) (H1 : Heap) (locs1 : List Loc), t.heap = H1 → s.vm.Alike t.vm → px u → BX E u t → H.size ≤ H1.size → (∀ q : Nat, q < H.size → ¬ AX q → H1[q]? = H[q]?) → va_S A0 H0 H1 locs1 → H1[q9]? = some ce → ce.vm = .none → s.vm.findClass E = some ce.cls → vx_W p l e R s m args below meth c H1 locs1 (cells + mc) (slots + ms) Q (F0 m pc ls rest) q9)
    (kk : ∀ (u : S) (t : State) (H1 : Heap) (locs1 : List Loc), t.heap = H1 → s.vm.Alike t.vm → post u → B u t → H.size ≤ H1.size → (∀ q : Nat, q < H.size → ¬ A1 q → H1[q]? = H[q]?) → va_S A0 H0 H1 locs1 → W p l e R s m args below meth c H1 locs1 (cells + mc) (slots + ms) Q (F0 m (pc + 3) ls (rest))) : W p l e R s m args below meth c H locs cells slots Q (F0 m pc ls st0) := by
  intro T hT X
  rcases hr T hT X with ⟨v, st₀, t, T', L, h0, X', hL, e1, e2, ⟨⟨u, hv, hp, hb⟩, hF⟩, st⟩ | ⟨q, st₀, t, T', L, E, ce, h0, X', hL, e1, e2, ⟨u, hp, hb, hF⟩, hce, hcv, hcl, st⟩
  · cases hv
    obtain ⟨k1, k2, k3⟩ := vx_keep h0 e1 hS hA hf hL hF
    obtain ⟨t2, a1, b1⟩ := kk u t T'.heap (locs ++ L) e1.symm (by rw [← e2]; exact X'.warmed.alike) hp hb k1 k2 k3 T' rfl X'
    exact ⟨t2, st t2 a1, b1⟩
  · obtain ⟨k1, k2, k3⟩ := vx_keep h0 e1 hS hAX hf hL hF
    obtain ⟨t2, a1, b1⟩ := kx E ce q u t T'.heap (locs ++ L) e1.symm (by rw [← e2]; exact X'.warmed.alike) hp hb k1 k2 k3 (by rw [e1]; exact hce) hcv hcl T' rfl X'
    exact ⟨t2, st.trans a1, b1⟩
/-- caught by the row x of this method's table; the rows ahead don't take it -/
theorem vx_catch {own name : String} {E : String} {ce : Cell} {q : Addr} (hown : s.vm.findClass own = some m.cls) (pre : List ExceptionTableEntry) (x : ExceptionTableEntry) (suf : List ExceptionTableEntry) (hsplit : c.exceptionTable.toList = pre ++ x :: suf)
    (hpass : ∀ z ∈ pre, covers z pc = false ∨ (z.catchType ≠ 0 ∧ ∃ nm : String, (Cond.classLink own z.catchType nm).before args s = true ∧ va_Nc E nm s)) (hx : covers x pc = true) (h0 : x.catchType ≠ 0)
    (hlink : (Cond.classLink own x.catchType name).before args s = true) (hcast : (Cond.castable E name).before args s = true) (hcell : H[q]? = some ce) (hv : ce.vm = .none) (hcl : s.vm.findClass E = some ce.cls)
    (kk : W p l e R s m args below meth c H locs cells slots Q (F0 m x.handlerPc ls [.ref q])) : vx_W p l e R s m args below meth c H locs cells slots Q (F0 m pc ls rest) q := by
  intro T hT X
  have hpl : e.platform.magicAccessors = ({} : Platform).magicAccessors := by rw [X.admits.platform]
  obtain ⟨c3, c4, hc3, hc4, hasg⟩ := Cond.castable_spec hcast
  cases Option.some.inj (hc3.symm.trans hcl)
  obtain ⟨c5, hc5, hcl5⟩ := Cond.classLink_spec hown hlink e.platform hpl
  cases Option.some.inj (hc4.symm.trans hc5)
  obtain ⟨vm', X', st⟩ := X.thenCaughtThrough q (g := F0 m pc ls rest) rfl (Steps.refl _) (by rw [hT]; exact hcell) (by rw [hv]; rfl) (by obtain ⟨k9, h9, -⟩ := Vm.findClass_spec hcl; exact ⟨k9, h9⟩) pre x suf hsplit
    (fun z hz => by
      rcases hpass z hz with h | ⟨hz0, nm, hl1, hn1⟩
      · exact Or.inl h
      · obtain ⟨c6, hc6, hcl6⟩ := Cond.classLink_spec hown hl1 e.platform hpl
        obtain ⟨a8, b8, h1, h2, h3⟩ := hn1
        cases Option.some.inj (h1.symm.trans hcl)
        cases Option.some.inj (h2.symm.trans hc6)
        exact Or.inr ⟨hz0, _, hcl6, h3⟩) hx (Or.inr ⟨h0, c4, hcl5, hasg⟩)
  obtain ⟨t, a1, b1⟩ := kk (T.setVm vm') hT X'
  exact ⟨t, st.trans a1, b1⟩
end Rows
section Ends
variable {p : Program} {l : Launch} {e : Env} {R : Room} {s : State} {m : MethodId} {args : Array Value} {below : List Frame} {meth : Method} {c : Code} {H : Heap} {locs : List Loc} {cells slots : Nat} {Q : State → Prop}
variable {mc ms : Nat} {free : Addr → Prop} {A0 A1 : Nat → Prop} {H0 : Heap} {a : Array Value} {ls : Array Slot} {st0 rest : List Value}
variable {Qc : Array Value → State → Outcome → State → Prop} {XC : String → State → State → Prop}
/-- what a body that may throw owes at its end -/
def vx_MQ (below : List Frame) (Qc : Array Value → State → Outcome → State → Prop) (XC : String → State → State → Prop) (a : Array Value) (s : State) (mc ms : Nat) (free : Addr → Prop) : State → Prop := fun t =>
  ∃ o, t.status = .running ∧ Ended t below o ∧ vx_Q Qc XC mc ms free a s o t
theorem vx_ret {g : JFrame} {mc ms : Nat} (k : W p l e R s m args below meth c H locs cells slots (MQ below Qc args s mc ms free) g) : W p l e R s m args below meth c H locs cells slots (vx_MQ below Qc XC args s mc ms free) g := by
  intro T hT X
  obtain ⟨t, a1, o, b1, b2, b3, b4⟩ := k T hT X
  exact ⟨t, a1, o, b1, b2, Or.inl ⟨b3, b4⟩⟩
/-- not caught here: it goes on to the caller -/
theorem vx_widen {g : JFrame} {q : Addr} {k n : Nat} (h1 : cells ≤ k) (h2 : slots ≤ n) (kk : vx_W p l e R s m args below meth c H locs k n Q g q) : vx_W p l e R s m args below meth c H locs cells slots Q g q := fun T hT X => kk T hT (stand_widen X h1 h2)
theorem vx_out {pc : Nat} {E : String} {ce : Cell} {q : Addr} {mc ms : Nat} (hout : ∀ x ∈ c.exceptionTable.toList, covers x pc = false) (hlocks : meth.locks = false) (hcell : H[q]? = some ce) (hv : ce.vm = .none) (hcl : s.vm.findClass E = some ce.cls)
    (hx : ∀ t : State, t.heap = H → s.vm.Alike t.vm → XC E s t) (hf : ∀ z ∈ locs, free z.base) (hc : cells ≤ mc) (hs : slots ≤ ms) :
    vx_W p l e R s m args below meth c H locs cells slots (vx_MQ below Qc XC args s mc ms free) (F0 m pc ls rest) q := by
  intro T hT X
  obtain ⟨st1, hrun, hend, hW, hsm⟩ := X.leaveThrown q (g := F0 m pc ls rest) rfl rfl rfl hout hlocks
  have hcell9 : (T.setFrames (.throwing q :: below)).heap[q]? = some ce := by
    show T.heap[q]? = some ce
    rw [hT]; exact hcell
  exact ⟨_, st1, .threw q, hrun, hend, Or.inr ⟨q, rfl, E, ce, locs, hx _ hT hW.alike, hcell9, hv, hcl, hW, hsm.mono hc hs, hf⟩⟩
theorem vx_frame {U : State} {k n : Nat} (h : s.sameButNew ({ U with vm := s.vm } : State) locs k n) : s.heap.size ≤ U.heap.size ∧ ∀ q : Nat, q < s.heap.size → (∀ z ∈ locs, z.base ≠ q) → U.heap[q]? = s.heap[q]? := by
  obtain ⟨-, h2, -, -, -, h6⟩ := h
  refine ⟨h2, fun q hq hz => ?_⟩
  obtain ⟨c9, e1, e2, e3, e4⟩ := h6 q _ (Array.getElem?_eq_getElem hq)
  have hs : c9.slots = (s.heap[q]).slots := Array.ext_getElem? fun i => e4 i fun hm => hz _ hm rfl
  have h9 : c9 = s.heap[q] := by
    rw [hs] at e2
    exact e2
  have e5 : U.heap[q]? = some c9 := e1
  rw [e5, h9, Array.getElem?_eq_getElem hq]
/-- the words of a throw but the four that speak of the heap -/
def vx_no (w : Cond) : Bool := decide (w ≠ .isRef (.static Bundle.tN "UNASSIGNED_STACK" Bundle.steD)) && decide (w ≠ .isRef (.static Bundle.tN "SUPPRESSED_SENTINEL" Bundle.listD)) && decide (w ≠ .laysStatic Bundle.tN "UNASSIGNED_STACK" Bundle.steD) && decide (w ≠ .laysStatic Bundle.tN "SUPPRESSED_SENTINEL" Bundle.listD)
def vx_at0 (own : String) (ic : Nat) (X : String) (names : List String) : List Cond := (Bundle.ownAtoms0 own ic X names).filter vx_no
def vx_atS (own : String) (ic : Nat) (X : String) (names : List String) : List Cond := (Bundle.ownAtoms own ic X names).filter vx_no
/-- a word that the tables alone decide, or a good one -/
def vx_ot (w : Cond) : Bool := w.onTables || goodWord w
theorem vx_ot_at {args a' : Array Value} {s U : State} {w : Cond} (hW : s.WarmedH U.vm) (hvm : s.vm = U.vm) (hg : vx_ot w = true) (h : w.before args s = true) : w.before a' U = true := by
  simp only [vx_ot, Bool.or_eq_true] at hg
  rcases hg with hg | hg
  · exact va_tabs hg hvm h
  · exact word_at hW (good_of_word hg) h
/-- a list's words: the good ones out of the method's own list, the others by premises of their own -/
theorem vx_hat {args : Array Value} {s : State} {L B : List Cond} (h1 : ∀ w ∈ L.filter goodWord, w.before args s = true) (h2 : ∀ w ∈ L.filter (fun w => !goodWord w), w ∈ B) (h3 : ∀ w ∈ B, w.before args s = true) : ∀ w ∈ L, w.before args s = true := by
  intro w hw
  by_cases g : goodWord w = true
  · exact h1 w (List.mem_filter.mpr ⟨hw, g⟩)
  · refine h3 w (h2 w (List.mem_filter.mpr ⟨hw, ?_⟩))
    show (!goodWord w) = true
    cases hgw : goodWord w
    · rfl
    · exact absurd hgw g
theorem vx_c {args : Array Value} {s : State} {w : Cond} {B : List Cond} (h : w.before args s = true) (t : ∀ w ∈ B, w.before args s = true) : ∀ w' ∈ w :: B, w'.before args s = true := fun w' h' => (List.mem_cons.mp h').elim (fun e => by rw [e]; exact h) (t w')
theorem vx_n {args : Array Value} {s : State} : ∀ w ∈ ([] : List Cond), w.before args s = true := fun _ h => nomatch h
theorem vx_own {args : Array Value} {s : State} {L : List Cond} (h1 : ∀ w ∈ L.filter vx_no, w.before args s = true)
    (hU : (Cond.isRef (.static Bundle.tN "UNASSIGNED_STACK" Bundle.steD)).before args s = true) (hN : (Cond.isRef (.static Bundle.tN "SUPPRESSED_SENTINEL" Bundle.listD)).before args s = true)
    (lU : (Cond.laysStatic Bundle.tN "UNASSIGNED_STACK" Bundle.steD).before args s = true) (lN : (Cond.laysStatic Bundle.tN "SUPPRESSED_SENTINEL" Bundle.listD).before args s = true) : ∀ w ∈ L, w.before args s = true := by
  intro w hw
  by_cases e1 : w = .isRef (.static Bundle.tN "UNASSIGNED_STACK" Bundle.steD)
  · rw [e1]; exact hU
  · by_cases e2 : w = .isRef (.static Bundle.tN "SUPPRESSED_SENTINEL" Bundle.listD)
    · rw [e2]; exact hN
    · by_cases e3 : w = .laysStatic Bundle.tN "UNASSIGNED_STACK" Bundle.steD
      · rw [e3]; exact lU
      · by_cases e4 : w = .laysStatic Bundle.tN "SUPPRESSED_SENTINEL" Bundle.listD
        · rw [e4]; exact lN
        · exact h1 w (List.mem_filter.mpr ⟨hw, by unfold vx_no; rw [decide_eq_true e1, decide_eq_true e2, decide_eq_true e3, decide_eq_true e4]; rfl⟩)
/-- where a static field lies, its class's statics cell in H -/
def vx_L (C n d : String) (A : Nat → Prop) (U : State) (H : Heap) : Prop := ∃ (c : ClassId) (k : Class) (i : Nat) (f : Field) (a : Nat) (cell : Cell), U.vm.findClass C = some c ∧ U.fieldFound? C n d = some (c, k, i, f) ∧ f.isStatic = true ∧ k.statics = some a ∧ H[a]? = some cell ∧ cell.vm.isStatics = true ∧ cell.cls = c ∧ f.slot < cell.slots.size ∧ k.staticTypes[f.slot]? = some f.type ∧ ¬ A a
theorem vx_L.moved {C n d : String} {A : Nat → Prop} {u U : State} {H : Heap} (hvm : u.vm.Alike U.vm) (h : vx_L C n d A u H) : vx_L C n d A U H := by
  obtain ⟨c, k, i, f, a, cell, h1, h2, h3, h4, h5, h6, h7, h8, h9, h10⟩ := h
  obtain ⟨k', hi', he⟩ := State.fieldFound?_setVm hvm h2
  exact ⟨c, k', i, f, a, cell, by rw [hvm.findClass]; exact h1, hi', h3, by rw [he]; exact h4, h5, h6, h7, h8, by rw [he]; exact h9, h10⟩
theorem vx_L.kept {C n d : String} {A : Nat → Prop} {U : State} {H H1 : Heap} (h : vx_L C n d A U H) (hq : ∀ a : Nat, a < H.size → ¬ A a → H1[a]? = H[a]?) : vx_L C n d A U H1 := by
  obtain ⟨c, k, i, f, a, cell, h1, h2, h3, h4, h5, h6, h7, h8, h9, h10⟩ := h
  exact ⟨c, k, i, f, a, cell, h1, h2, h3, h4, by rw [hq a (Array.getElem?_eq_some_iff.mp h5).1 h10]; exact h5, h6, h7, h8, h9, h10⟩
theorem vx_L.narrow {C n d : String} {A B : Nat → Prop} {U : State} {H : Heap} (h : vx_L C n d A U H) (hAB : ∀ q, B q → A q) : vx_L C n d B U H := by
  obtain ⟨c, k, i, f, a, cell, h1, h2, h3, h4, h5, h6, h7, h8, h9, h10⟩ := h
  exact ⟨c, k, i, f, a, cell, h1, h2, h3, h4, h5, h6, h7, h8, h9, fun z => h10 (hAB _ z)⟩
theorem vx_L.word {C n d : String} {A : Nat → Prop} {s : State} {args : Array Value} (h : vx_L C n d A s s.heap) : (Cond.laysStatic C n d).before args s = true := by
  obtain ⟨c, k, i, f, a, cell, h1, h2, h3, h4, h5, h6, h7, h8, h9, -⟩ := h
  show (Cond.laysStatic C n d).holds args s none s [] = true
  exact Cond.laysStatic_of h1 h2 h3 h4 h5 h6 h7 h8 h9
/-- .. and what it holds: null or some reference -/
def vx_Zq (C n d : String) (A : Nat → Prop) (U : State) (H : Heap) : Prop := va_Zq C n d A U H ∧ vx_L C n d A U H
theorem vx_Zq.moved {C n d : String} {A : Nat → Prop} {u U : State} {H : Heap} (hvm : u.vm.Alike U.vm) (h : vx_Zq C n d A u H) : vx_Zq C n d A U H := ⟨va_Zq.moved hvm h.1, vx_L.moved hvm h.2⟩
theorem vx_Zq.kept {C n d : String} {A : Nat → Prop} {U : State} {H H1 : Heap} (h : vx_Zq C n d A U H) (hq : ∀ a : Nat, a < H.size → ¬ A a → H1[a]? = H[a]?) : vx_Zq C n d A U H1 := ⟨va_Zq.kept h.1 hq, vx_L.kept h.2 hq⟩
theorem vx_Zq.narrow {C n d : String} {A B : Nat → Prop} {U : State} {H : Heap} (h : vx_Zq C n d A U H) (hAB : ∀ q, B q → A q) : vx_Zq C n d B U H := ⟨va_Zq.narrow h.1 hAB, vx_L.narrow h.2 hAB⟩
theorem vx_Zqof {args : Array Value} {s : State} {C n d : String} {A : Nat → Prop} (hl : (Cond.laysStatic C n d).before args s = true) (hini : (Cond.initialized C).before args s = true) (h : (Cond.isRef (.static C n d)).before args s = true) (hA : ∀ a : Nat, a < s.heap.size → ¬ A a) : vx_Zq C n d A s s.heap := by
  refine ⟨va_Zqof hl hini h hA, ?_⟩
  obtain ⟨c, k, i, f, a, cell, h1, h2, h3, h4, h5, h6, h7, h8, h9⟩ := Cond.laysStatic_spec hl
  exact ⟨c, k, i, f, a, cell, h1, h2, h3, h4, h5, h6, h7, h8, h9, hA a (Array.getElem?_eq_some_iff.mp h5).1⟩
theorem vx_isRef {C n d : String} {v : Value} {A : Nat → Prop} {s : State} {args : Array Value} (h : va_Z C n d v A s s.heap) (hv : v.isRef = true) : (Cond.isRef (.static C n d)).before args s = true := by
  obtain ⟨cf, kf, fi, f, a, cell, h1, h2, h3, h4, h5, h6, h7, -⟩ := h
  have he : (Term.static C n d).eval args s none [] s = some v := by
    simp [Term.eval, State.fieldNamed?, h1, h2, h4, h5, h6, h7]
  simp only [Cond.before, Cond.holds, Cond.value, he]
  cases v <;> simp_all [Value.isRef]
theorem vx_isRefq {C n d : String} {A : Nat → Prop} {s : State} {args : Array Value} (h : va_Zq C n d A s s.heap) : (Cond.isRef (.static C n d)).before args s = true := by
  rcases h with h | ⟨t, h⟩
  · exact vx_isRef h rfl
  · exact vx_isRef h rfl
/-- the same frame, seen from here: as if the method were called anew in this heap -/
theorem vx_rebase {T : State} (X : Stand p l e R s m args below meth c T locs cells slots) {R' : Room} (hf : R'.frames ≤ R.frames) (hl : R'.locals ≤ R.locals) (hc : cells + R'.cells ≤ R.cells) (hs : slots + R'.slots ≤ R.slots) :
    Stand p l e R' ((T.setVm s.vm).setFrames (.invoking m args :: below)) m args below meth c T [] 0 0 := by
  have htop : (T.setVm s.vm).topJava?.isSome := X.here.top
  have hF : ((T.setVm s.vm).setFrames (.invoking m args :: below)).frames = .invoking m args :: below := State.frames_setFrames _ (State.cur_lt_of_top htop)
  obtain ⟨g₀, hg0⟩ := Option.isSome_iff_exists.mp htop
  obtain ⟨r, hr⟩ := State.topJava?_eq_some.mp hg0
  have hl9 : e.platform.stackLimits (T.setVm s.vm).me = e.platform.stackLimits s.me := X.limits
  have hb9 : (T.setVm s.vm).me.stackBytes = s.me.stackBytes := X.bytes
  refine ⟨X.admits, X.cas, X.clock, hF, ?_, X.hears, X.method, X.code, X.here, X.tail, X.warmed, ?_, ?_, ?_⟩
  · have h := X.room
    have hU : ((T.setVm s.vm).setFrames (.invoking m args :: below)).localsInUse = s.localsInUse := by
      rw [State.localsInUse_invoking hF (meth := meth) (c := c) X.method X.code, State.localsInUse_invoking X.frames X.method X.code]
    simp only [State.hasRoom, Bool.and_eq_true, decide_eq_true_eq] at h ⊢
    obtain ⟨⟨⟨⟨h1, h2, h3, h4, h5, h6⟩, h7⟩, h8⟩, h9⟩ := h
    rw [X.frames, List.length_cons] at h2 h3
    have q1 := X.heapSize
    have q2 := X.used
    simp only [hF, hU, List.length_cons, State.stackLimits_setFrames, State.stackBytes_setFrames, hl9, hb9]
    refine ⟨⟨⟨⟨by omega, by omega, by omega, by omega, by omega, h6⟩, ?_⟩, ?_⟩, X.book⟩
    · show T.heap.size + R'.cells ≤ e.platform.maxCells
      omega
    · show T.slotsUsed + R'.slots ≤ e.platform.maxSlots
      omega
  · rw [State.stackLimits_setFrames]; rfl
  · rw [State.stackBytes_setFrames]; rfl
  · refine ⟨?_, Nat.le_refl _, Nat.le_refl _, ?_, ?_, fun a c9 h9 => ⟨c9, h9, rfl, rfl, fun _ _ => rfl⟩⟩
    · obtain ⟨t, ht, -⟩ := State.frames_cons hr
      show T.setVm s.vm = { ((T.setVm s.vm).setFrames (.invoking m args :: below)).setFrames (T.setVm s.vm).frames with heap := T.heap, slotsUsed := T.slotsUsed }
      rw [State.setFrames_setFrames, State.setFrames_self ht]
      rfl
    · show T.slotsUsed = T.slotsUsed + ((T.heap.toList.drop T.heap.size).map (·.slots.size)).sum
      rw [List.drop_eq_nil_of_le (Nat.le_of_eq Array.length_toList)]
      rfl
    · show ((T.heap.toList.drop T.heap.size).map (·.slots.size)).sum ≤ 0
      rw [List.drop_eq_nil_of_le (Nat.le_of_eq Array.length_toList)]
      exact Nat.le_refl _
/-- 'throw new E()': new; dup; invokespecial; athrow -/
theorem vx_throw0 {cc : ByteArray} {pc : Nat} (hexec : p.tables.exec = Jvm.exec) (hb : c.code = cc) (hl : l.stackTraces = false) {own cls : String} {names : List String} {ik ic mc ms : Nat} {A : Nat → Prop}
    (hown : s.vm.findClass own = some m.cls) (hcls : Bundle.fit cls = true) (hnames : ∀ n ∈ names, Bundle.fit n = true)
    (hk : (Cond.classLink own ik cls).before args s = true) (hini : (Cond.initialized cls).before args s = true) (hat : ∀ w ∈ vx_at0 own ic cls names, w.before args s = true)
    (hgood : ∀ w ∈ Cond.classLink own ik cls :: Cond.initialized cls :: vx_at0 own ic cls names, vx_ot w = true)
    (hU : vx_Zq Bundle.tN "UNASSIGNED_STACK" Bundle.steD A s s.heap) (hN : vx_Zq Bundle.tN "SUPPRESSED_SENTINEL" Bundle.listD A s s.heap) (hS : va_S A s.heap H locs) (hsize : ls.size = c.maxLocals)
    (d0 : decode cc pc = .ok (.new ik, 3)) (d3 : decode cc (pc + 3) = .ok (.dup, 1)) (d4 : decode cc (pc + 4) = .ok (.invokespecial ic, 3)) (d7 : decode cc (pc + 7) = .ok (.athrow, 1))
    (hout : ∀ x ∈ c.exceptionTable.toList, covers x (pc + 7) = false)
    (hRframes : names.length + 3 < R.frames) (hRlocals : (rest.map fun v => v.category).sum + (13 * (names.length + 1) + 42) ≤ R.locals) (hRcells : cells + 1 ≤ R.cells) (hRslots : slots + 6 ≤ R.slots) (hlocks : meth.locks = false)
    (hx : ∀ t : State, s.vm.Alike t.vm → H.size ≤ t.heap.size → (∀ q : Nat, q < H.size → t.heap[q]? = H[q]?) → XC cls s t)
    (hf : ∀ z ∈ locs, free z.base) (hc : cells + 1 ≤ mc) (hs : slots + 6 ≤ ms) :
    W p l e R s m args below meth c H locs cells slots (vx_MQ below Qc XC args s mc ms free) (F0 m pc ls rest) := by
  intro T hT X
  have htr : e.platform.stackTraces = false := (show e.platform.stackTraces = l.stackTraces by rw [X.admits.platform]).trans hl
  have Y := vx_rebase X (R' := { frames := R.frames, locals := R.locals, cells := 1, slots := 6 }) (Nat.le_refl _) (Nat.le_refl _) hRcells hRslots
  obtain ⟨s', hA⟩ : ∃ z, z = (T.setVm s.vm).setFrames (.invoking m args :: below) := ⟨_, rfl⟩
  rw [← hA] at Y
  have hvm : s'.vm = s.vm := by rw [hA]; rfl
  have hhp : s'.heap = H := by rw [hA]; exact hT
  have hW0 : s.WarmedH s'.vm := by rw [hvm]; exact State.WarmedH.refl s
  have hat' : ∀ w ∈ vx_at0 own ic cls names, w.before args s' = true := fun w hw => vx_ot_at hW0 hvm.symm (hgood w (List.mem_cons_of_mem _ (List.mem_cons_of_mem _ hw))) (hat w hw)
  have hk' : (Cond.classLink own ik cls).before args s' = true := vx_ot_at hW0 hvm.symm (hgood _ List.mem_cons_self) hk
  have hini' : (Cond.initialized cls).before args s' = true := vx_ot_at hW0 hvm.symm (hgood _ (List.mem_cons_of_mem _ List.mem_cons_self)) hini
  have hU' : vx_Zq Bundle.tN "UNASSIGNED_STACK" Bundle.steD A s' s'.heap := by rw [hhp]; exact vx_Zq.moved hW0.alike (hU.kept hS.2.1)
  have hN' : vx_Zq Bundle.tN "SUPPRESSED_SENTINEL" Bundle.listD A s' s'.heap := by rw [hhp]; exact vx_Zq.moved hW0.alike (hN.kept hS.2.1)
  have h : ∀ w ∈ Bundle.ownAtoms0 own ic cls names, w.before args s' = true := vx_own hat' (vx_isRefq hU'.1) (vx_isRefq hN'.1) hU'.2.word hN'.2.word
  have hown' : s'.vm.findClass own = some m.cls := by rw [hvm]; exact hown
  have hins : (Cond.instantiable cls 6).before args s' = true := h _ (by simp [Bundle.ownAtoms0])
  obtain ⟨vm₁, cX, kX, hfX, hkX, -, -, X₁, st1⟩ := Y.newCold hexec (own := own) (C := cls) (index := ik) (n := 6) hown' hk' hins hini'
    (g := F0 m pc ls rest) rfl (by rw [hb]; exact d0) (Nat.le_refl _) (Nat.le_refl _)
  generalize hT1 : (T.setVm vm₁).pushCell { cls := cX, slots := kX.instanceTypes.map defaultValue, vm := .none } = T1 at X₁ st1
  have hcat : (Value.ref T.heap.size).category = 1 := rfl
  have hcellA : T1.heap[T.heap.size]? = some (freshCell cX kX) := by rw [← hT1]; exact State.heap_pushCell_size _ _
  have d3' : decode c.code (pc + 3) = .ok (.dup, 1) := by rw [hb]; exact d3
  obtain ⟨U, hsteps, hrun, hend, hW, hsame, ce, hce, hO⟩ := X₁.ctorThrow0 hexec htr (own := own) (cls := cls) (names := names) (ic := ic) hown' hcls hnames h (fun x hx => nomatch hx) hfX hkX hcellA (by rw [hhp, hT]; exact Nat.le_refl _)
    (g := { method := m, pc := pc + 4, locals := ls, stack := .ref T.heap.size :: .ref T.heap.size :: rest, locked := none }) rfl hsize rfl rfl (rest := rest) rfl
    (by rw [hb]; exact d4) (by rw [hb]; exact d7) hout hRframes (by simp only [List.map_cons, List.sum_cons, hcat]; omega) hlocks
  obtain ⟨f1, f2⟩ := vx_frame hsame
  rw [hhp] at f1 f2
  have hWs : s.WarmedH U.vm := State.WarmedH.trans hW0 hW
  have hcl : s.vm.findClass cls = some ce.cls := by
    have h9 := hO.cls
    rw [hvm] at h9
    exact h9
  have hall : s.sameButNew ({ U with vm := s.vm } : State) locs mc ms := by
    subst hA
    obtain ⟨e1, e2⟩ := hsame
    rw [State.setFrames_setFrames] at e1
    have h2 : (T.setVm s.vm).sameButNew ({ U with vm := s.vm } : State) [] (0 + 1) (0 + 6) := ⟨e1, e2⟩
    have h3 := X.same.trans h2
    rw [List.append_nil] at h3
    exact h3.mono hc hs
  refine ⟨U, ?_, .threw T.heap.size, hrun, hend, Or.inr ⟨T.heap.size, rfl, cls, ce, locs, hx U hWs.alike f1 (fun q hq => f2 q hq (fun z hz => nomatch hz)), hce, hO.vm, hcl, hWs, hall, hf⟩⟩
  refine st1 _ ?_
  show Steps p.tables e below (T1.setTop { method := m, pc := pc + 3, locals := ls, stack := .ref T.heap.size :: rest, locked := none }) _
  jvm_step X₁.here [X₁.here.top, hexec, d3', Value.category]
  exact hsteps
/-- 'throw new E("text")': new; dup; ldc; invokespecial; athrow -/
theorem vx_throwS {cc : ByteArray} {pc : Nat} (hexec : p.tables.exec = Jvm.exec) (hb : c.code = cc) (hl : l.stackTraces = false) {own cls text : String} {names : List String} {ik is ic mc ms sa : Nat} {A : Nat → Prop}
    (hown : s.vm.findClass own = some m.cls) (hcls : Bundle.fit cls = true) (hnames : ∀ n ∈ names, Bundle.fit n = true)
    (hk : (Cond.classLink own ik cls).before args s = true) (hini : (Cond.initialized cls).before args s = true) (hstr : vk_R own is text sa s) (hat : ∀ w ∈ vx_atS own ic cls names, w.before args s = true)
    (hgood : ∀ w ∈ Cond.classLink own ik cls :: Cond.initialized cls :: vx_atS own ic cls names, vx_ot w = true)
    (hU : vx_Zq Bundle.tN "UNASSIGNED_STACK" Bundle.steD A s s.heap) (hN : vx_Zq Bundle.tN "SUPPRESSED_SENTINEL" Bundle.listD A s s.heap) (hS : va_S A s.heap H locs) (hsize : ls.size = c.maxLocals)
    (d0 : decode cc pc = .ok (.new ik, 3)) (d3 : decode cc (pc + 3) = .ok (.dup, 1)) (d4 : decode cc (pc + 4) = .ok (.ldc is, 2)) (d6 : decode cc (pc + 6) = .ok (.invokespecial ic, 3)) (d9 : decode cc (pc + 9) = .ok (.athrow, 1))
    (hout : ∀ x ∈ c.exceptionTable.toList, covers x (pc + 9) = false)
    (hRframes : names.length + 3 < R.frames) (hRlocals : (rest.map fun v => v.category).sum + (13 * (names.length + 1) + 43) ≤ R.locals) (hRcells : cells + 1 ≤ R.cells) (hRslots : slots + 6 ≤ R.slots) (hlocks : meth.locks = false)
    (hx : ∀ t : State, s.vm.Alike t.vm → H.size ≤ t.heap.size → (∀ q : Nat, q < H.size → t.heap[q]? = H[q]?) → XC cls s t)
    (hf : ∀ z ∈ locs, free z.base) (hc : cells + 1 ≤ mc) (hs : slots + 6 ≤ ms) :
    W p l e R s m args below meth c H locs cells slots (vx_MQ below Qc XC args s mc ms free) (F0 m pc ls rest) := by
  intro T hT X
  have htr : e.platform.stackTraces = false := (show e.platform.stackTraces = l.stackTraces by rw [X.admits.platform]).trans hl
  have Y := vx_rebase X (R' := { frames := R.frames, locals := R.locals, cells := 1, slots := 6 }) (Nat.le_refl _) (Nat.le_refl _) hRcells hRslots
  obtain ⟨s', hA⟩ : ∃ z, z = (T.setVm s.vm).setFrames (.invoking m args :: below) := ⟨_, rfl⟩
  rw [← hA] at Y
  have hvm : s'.vm = s.vm := by rw [hA]; rfl
  have hhp : s'.heap = H := by rw [hA]; exact hT
  have hW0 : s.WarmedH s'.vm := by rw [hvm]; exact State.WarmedH.refl s
  have hat' : ∀ w ∈ vx_atS own ic cls names, w.before args s' = true := fun w hw => vx_ot_at hW0 hvm.symm (hgood w (List.mem_cons_of_mem _ (List.mem_cons_of_mem _ hw))) (hat w hw)
  have hk' : (Cond.classLink own ik cls).before args s' = true := vx_ot_at hW0 hvm.symm (hgood _ List.mem_cons_self) hk
  have hini' : (Cond.initialized cls).before args s' = true := vx_ot_at hW0 hvm.symm (hgood _ (List.mem_cons_of_mem _ List.mem_cons_self)) hini
  have hU' : vx_Zq Bundle.tN "UNASSIGNED_STACK" Bundle.steD A s' s'.heap := by rw [hhp]; exact vx_Zq.moved hW0.alike (hU.kept hS.2.1)
  have hN' : vx_Zq Bundle.tN "SUPPRESSED_SENTINEL" Bundle.listD A s' s'.heap := by rw [hhp]; exact vx_Zq.moved hW0.alike (hN.kept hS.2.1)
  have h : ∀ w ∈ Bundle.ownAtoms own ic cls names, w.before args s' = true := vx_own hat' (vx_isRefq hU'.1) (vx_isRefq hN'.1) hU'.2.word hN'.2.word
  have hown' : s'.vm.findClass own = some m.cls := by rw [hvm]; exact hown
  have hins : (Cond.instantiable cls 6).before args s' = true := h _ (by simp [Bundle.ownAtoms])
  obtain ⟨vm₁, cX, kX, hfX, hkX, -, -, X₁, st1⟩ := Y.newCold hexec (own := own) (C := cls) (index := ik) (n := 6) hown' hk' hins hini'
    (g := F0 m pc ls rest) rfl (by rw [hb]; exact d0) (Nat.le_refl _) (Nat.le_refl _)
  generalize hT1 : (T.setVm vm₁).pushCell { cls := cX, slots := kX.instanceTypes.map defaultValue, vm := .none } = T1 at X₁ st1
  have hcat : (Value.ref T.heap.size).category = 1 := rfl
  have hcellA : T1.heap[T.heap.size]? = some (freshCell cX kX) := by rw [← hT1]; exact State.heap_pushCell_size _ _
  have d3' : decode c.code (pc + 3) = .ok (.dup, 1) := by rw [hb]; exact d3
  have d4' : decode c.code (pc + 4) = .ok (.ldc is, 2) := by rw [hb]; exact d4
  have hstr' : vk_R own is text sa s' := vk_R.warm hW0 hstr
  obtain ⟨U, hsteps, hrun, hend, hW, hsame, ce, hce, hO⟩ := X₁.ctorThrowS hexec htr (own := own) (cls := cls) (names := names) (ic := ic) hown' hcls hnames h (fun x hx => nomatch hx) hfX hkX hcellA (by rw [hhp, hT]; exact Nat.le_refl _) (msg := .ref sa) rfl
    (g := { method := m, pc := pc + 6, locals := ls, stack := .ref sa :: .ref T.heap.size :: .ref T.heap.size :: rest, locked := none }) rfl hsize rfl rfl (rest := rest) rfl
    (by rw [hb]; exact d6) (by rw [hb]; exact d9) hout hRframes (by simp only [List.map_cons, List.sum_cons, hcat]; omega) hlocks
  obtain ⟨f1, f2⟩ := vx_frame hsame
  rw [hhp] at f1 f2
  have hWs : s.WarmedH U.vm := State.WarmedH.trans hW0 hW
  have hcl : s.vm.findClass cls = some ce.cls := by
    have h9 := hO.cls
    rw [hvm] at h9
    exact h9
  have hall : s.sameButNew ({ U with vm := s.vm } : State) locs mc ms := by
    subst hA
    obtain ⟨e1, e2⟩ := hsame
    rw [State.setFrames_setFrames] at e1
    have h2 : (T.setVm s.vm).sameButNew ({ U with vm := s.vm } : State) [] (0 + 1) (0 + 6) := ⟨e1, e2⟩
    have h3 := X.same.trans h2
    rw [List.append_nil] at h3
    exact h3.mono hc hs
  refine ⟨U, ?_, .threw T.heap.size, hrun, hend, Or.inr ⟨T.heap.size, rfl, cls, ce, locs, hx U hWs.alike f1 (fun q hq => f2 q hq (fun z hz => nomatch hz)), hce, hO.vm, hcl, hWs, hall, hf⟩⟩
  refine st1 _ ?_
  show Steps p.tables e below (T1.setTop { method := m, pc := pc + 3, locals := ls, stack := .ref T.heap.size :: rest, locked := none }) _
  jvm_step X₁.here [X₁.here.top, hexec, d3', Value.category]
  exact X₁.ldcString hexec (own := own) (text := text) (index := is) (a := sa) hown' hstr'.1 hstr'.2
    (g := { method := m, pc := pc + 4, locals := ls, stack := .ref T.heap.size :: .ref T.heap.size :: rest, locked := none }) rfl d4' _ hsteps
/-- 'throw new E("text")', the text by a wide index -/
theorem vx_throwSW {cc : ByteArray} {pc : Nat} (hexec : p.tables.exec = Jvm.exec) (hb : c.code = cc) (hl : l.stackTraces = false) {own cls text : String} {names : List String} {ik is ic mc ms sa : Nat} {A : Nat → Prop}
    (hown : s.vm.findClass own = some m.cls) (hcls : Bundle.fit cls = true) (hnames : ∀ n ∈ names, Bundle.fit n = true)
    (hk : (Cond.classLink own ik cls).before args s = true) (hini : (Cond.initialized cls).before args s = true) (hstr : vk_R own is text sa s) (hat : ∀ w ∈ vx_atS own ic cls names, w.before args s = true)
    (hgood : ∀ w ∈ Cond.classLink own ik cls :: Cond.initialized cls :: vx_atS own ic cls names, vx_ot w = true)
    (hU : vx_Zq Bundle.tN "UNASSIGNED_STACK" Bundle.steD A s s.heap) (hN : vx_Zq Bundle.tN "SUPPRESSED_SENTINEL" Bundle.listD A s s.heap) (hS : va_S A s.heap H locs) (hsize : ls.size = c.maxLocals)
    (d0 : decode cc pc = .ok (.new ik, 3)) (d3 : decode cc (pc + 3) = .ok (.dup, 1)) (d4 : decode cc (pc + 4) = .ok (.ldc_w is, 3)) (d7 : decode cc (pc + 7) = .ok (.invokespecial ic, 3)) (d10 : decode cc (pc + 10) = .ok (.athrow, 1))
    (hout : ∀ x ∈ c.exceptionTable.toList, covers x (pc + 10) = false)
    (hRframes : names.length + 3 < R.frames) (hRlocals : (rest.map fun v => v.category).sum + (13 * (names.length + 1) + 43) ≤ R.locals) (hRcells : cells + 1 ≤ R.cells) (hRslots : slots + 6 ≤ R.slots) (hlocks : meth.locks = false)
    (hx : ∀ t : State, s.vm.Alike t.vm → H.size ≤ t.heap.size → (∀ q : Nat, q < H.size → t.heap[q]? = H[q]?) → XC cls s t)
    (hf : ∀ z ∈ locs, free z.base) (hc : cells + 1 ≤ mc) (hs : slots + 6 ≤ ms) :
    W p l e R s m args below meth c H locs cells slots (vx_MQ below Qc XC args s mc ms free) (F0 m pc ls rest) := by
  intro T hT X
  have htr : e.platform.stackTraces = false := (show e.platform.stackTraces = l.stackTraces by rw [X.admits.platform]).trans hl
  have Y := vx_rebase X (R' := { frames := R.frames, locals := R.locals, cells := 1, slots := 6 }) (Nat.le_refl _) (Nat.le_refl _) hRcells hRslots
  obtain ⟨s', hA⟩ : ∃ z, z = (T.setVm s.vm).setFrames (.invoking m args :: below) := ⟨_, rfl⟩
  rw [← hA] at Y
  have hvm : s'.vm = s.vm := by rw [hA]; rfl
  have hhp : s'.heap = H := by rw [hA]; exact hT
  have hW0 : s.WarmedH s'.vm := by rw [hvm]; exact State.WarmedH.refl s
  have hat' : ∀ w ∈ vx_atS own ic cls names, w.before args s' = true := fun w hw => vx_ot_at hW0 hvm.symm (hgood w (List.mem_cons_of_mem _ (List.mem_cons_of_mem _ hw))) (hat w hw)
  have hk' : (Cond.classLink own ik cls).before args s' = true := vx_ot_at hW0 hvm.symm (hgood _ List.mem_cons_self) hk
  have hini' : (Cond.initialized cls).before args s' = true := vx_ot_at hW0 hvm.symm (hgood _ (List.mem_cons_of_mem _ List.mem_cons_self)) hini
  have hU' : vx_Zq Bundle.tN "UNASSIGNED_STACK" Bundle.steD A s' s'.heap := by rw [hhp]; exact vx_Zq.moved hW0.alike (hU.kept hS.2.1)
  have hN' : vx_Zq Bundle.tN "SUPPRESSED_SENTINEL" Bundle.listD A s' s'.heap := by rw [hhp]; exact vx_Zq.moved hW0.alike (hN.kept hS.2.1)
  have h : ∀ w ∈ Bundle.ownAtoms own ic cls names, w.before args s' = true := vx_own hat' (vx_isRefq hU'.1) (vx_isRefq hN'.1) hU'.2.word hN'.2.word
  have hown' : s'.vm.findClass own = some m.cls := by rw [hvm]; exact hown
  have hins : (Cond.instantiable cls 6).before args s' = true := h _ (by simp [Bundle.ownAtoms])
  obtain ⟨vm₁, cX, kX, hfX, hkX, -, -, X₁, st1⟩ := Y.newCold hexec (own := own) (C := cls) (index := ik) (n := 6) hown' hk' hins hini'
    (g := F0 m pc ls rest) rfl (by rw [hb]; exact d0) (Nat.le_refl _) (Nat.le_refl _)
  generalize hT1 : (T.setVm vm₁).pushCell { cls := cX, slots := kX.instanceTypes.map defaultValue, vm := .none } = T1 at X₁ st1
  have hcat : (Value.ref T.heap.size).category = 1 := rfl
  have hcellA : T1.heap[T.heap.size]? = some (freshCell cX kX) := by rw [← hT1]; exact State.heap_pushCell_size _ _
  have d3' : decode c.code (pc + 3) = .ok (.dup, 1) := by rw [hb]; exact d3
  have d4' : decode c.code (pc + 4) = .ok (.ldc_w is, 3) := by rw [hb]; exact d4
  have hstr' : vk_R own is text sa s' := vk_R.warm hW0 hstr
  obtain ⟨U, hsteps, hrun, hend, hW, hsame, ce, hce, hO⟩ := X₁.ctorThrowS hexec htr (own := own) (cls := cls) (names := names) (ic := ic) hown' hcls hnames h (fun x hx => nomatch hx) hfX hkX hcellA (by rw [hhp, hT]; exact Nat.le_refl _) (msg := .ref sa) rfl
    (g := { method := m, pc := pc + 7, locals := ls, stack := .ref sa :: .ref T.heap.size :: .ref T.heap.size :: rest, locked := none }) rfl hsize rfl rfl (rest := rest) rfl
    (by rw [hb]; exact d7) (by rw [hb]; exact d10) hout hRframes (by simp only [List.map_cons, List.sum_cons, hcat]; omega) hlocks
  obtain ⟨f1, f2⟩ := vx_frame hsame
  rw [hhp] at f1 f2
  have hWs : s.WarmedH U.vm := State.WarmedH.trans hW0 hW
  have hcl : s.vm.findClass cls = some ce.cls := by
    have h9 := hO.cls
    rw [hvm] at h9
    exact h9
  have hall : s.sameButNew ({ U with vm := s.vm } : State) locs mc ms := by
    subst hA
    obtain ⟨e1, e2⟩ := hsame
    rw [State.setFrames_setFrames] at e1
    have h2 : (T.setVm s.vm).sameButNew ({ U with vm := s.vm } : State) [] (0 + 1) (0 + 6) := ⟨e1, e2⟩
    have h3 := X.same.trans h2
    rw [List.append_nil] at h3
    exact h3.mono hc hs
  refine ⟨U, ?_, .threw T.heap.size, hrun, hend, Or.inr ⟨T.heap.size, rfl, cls, ce, locs, hx U hWs.alike f1 (fun q hq => f2 q hq (fun z hz => nomatch hz)), hce, hO.vm, hcl, hWs, hall, hf⟩⟩
  refine st1 _ ?_
  show Steps p.tables e below (T1.setTop { method := m, pc := pc + 3, locals := ls, stack := .ref T.heap.size :: rest, locked := none }) _
  jvm_step X₁.here [X₁.here.top, hexec, d3', Value.category]
  exact X₁.ldcStringW hexec (own := own) (text := text) (index := is) (a := sa) hown' hstr'.1 hstr'.2
    (g := { method := m, pc := pc + 4, locals := ls, stack := .ref T.heap.size :: .ref T.heap.size :: rest, locked := none }) rfl d4' _ hsteps
end Ends
section Bodies
variable {l : Launch}
theorem vx_ofW {y : MethodName} {ws ws' : List Cond} {rm : Room} {Pc : Array Value → State → Prop} {Qc : Array Value → State → Outcome → State → Prop} {XC : String → State → State → Prop} {mc ms : Nat} {free : Addr → Prop} {cc : ByteArray} {maxL : Nat} {ret : Option FieldType}
    (hy : plainName y.cls = true) (hw : ws = Cond.code y cc maxL ret :: ws')
    (body : ∀ p e s m args below meth c s₁, BodyLoose p l y (headSpec ws rm) cc maxL ret e s m args below meth c s₁ → c.maxLocals = maxL → (∀ x ∈ c.exceptionTable.toList, False) → Pc args s →
      W p l e (headSpec ws rm).room s m args below meth c s.heap [] 0 0 (vx_MQ below Qc XC args s mc ms free) (entryFrame m args maxL)) : vx_Met l y ws rm Pc Qc XC mc ms free := by
  refine MetFree.of_bodyS (code := cc) (maxLocals := maxL) (ret := ret) hy ?_ ?_
  · intro args s m h hn
    obtain ⟨meth, c, h1, h2, h3, h4, h5, h6, -, -⟩ := Cond.code_spec hn (atoms_spec (ws := ws) h _ (by rw [hw]; exact List.mem_cons_self))
    exact ⟨meth, c, h1, h2, h3, h4, h5, h6⟩
  · intro p e s m args below meth c s₁ B hml hP _
    have hh0 : s₁.heap = s.heap := by rw [B.state]; rfl
    have ht : ∀ x ∈ c.exceptionTable.toList, False := by
      obtain ⟨meth9, c9, h1, h2, -, -, -, -, h7, -⟩ := Cond.code_spec B.named (atoms_spec (ws := ws) B.pre _ (by rw [hw]; exact List.mem_cons_self))
      cases Option.some.inj (h1.symm.trans B.method)
      cases Option.some.inj (h2.symm.trans (Stand.of_body B).code)
      intro x hx
      rw [Array.isEmpty_iff.mp h7] at hx
      cases hx
    obtain ⟨t, a1, o, b1, b2, b3⟩ := body p e s m args below meth c s₁ B hml ht hP s₁ hh0 (Stand.of_body B)
    exact ⟨t, o, a1, b1, b2, b3⟩
/-- the table of a body with handlers -/
theorem vx_table {p : Program} {x y : MethodName} {S : Spec} {cc bytes : ByteArray} {maxL maxL' : Nat} {ret ret' : Option FieldType} {e : Env} {s s₁ : State} {m : MethodId} {args : Array Value} {below : List Frame} {meth : Method} {c : Code} {hh : List (Nat × Nat × Nat × Nat)}
    (B : BodyLoose p l y S cc maxL ret e s m args below meth c s₁) (h : (Cond.codeWith y bytes maxL' ret' hh).before args s = true) : c.exceptionTable.toList = tableOf hh := by
  obtain ⟨m9, meth9, c9, hn9, h1, h2, -, -, h6, -⟩ := Cond.codeWith_spec h
  cases Option.some.inj (hn9.symm.trans B.named)
  cases Option.some.inj (h1.symm.trans B.method)
  cases Option.some.inj (h2.symm.trans (Stand.of_body B).code)
  rw [← h6, table_eq]
end Bodies
end VXA
/-! ===== END ===== -/
/-! ===== BEGIN a static call of a method with an exception table ===== -/
section VXS
variable {p : Program} {l : Launch} {e : Env} {R : Room} {s : State} {m : MethodId} {args : Array Value} {below : List Frame} {meth : Method} {c : Code} {T : State} {H : Heap} {locs : List Loc} {cells slots : Nat}
abbrev vx_CSW (R : Room) (s : State) (args : Array Value) (own : String) (index : Nat) (y : MethodName) (bytes : ByteArray) (maxL : Nat) (ret : Option FieldType) (hh : List (Nat × Nat × Nat × Nat)) (ws : List Cond) (rm : Room) (mc ms n : Nat) : Prop :=
  (rm.cells = mc ∧ rm.slots = ms ∧ rm.frames + 1 ≤ R.frames ∧ 8 + (maxL + 11) + rm.locals ≤ R.locals ∧ (∀ w ∈ ws, ∀ (a' : Array Value) (U : State), s.WarmedH U.vm → w.before a' U = true) ∧ Cond.codeWith y bytes maxL ret hh ∈ ws) ∧
  (Cond.codeWith y bytes maxL ret hh).before args s = true ∧ (Cond.initialized y.cls).before args s = true ∧ (y.cls ≠ "java/lang/invoke/MethodHandle" ∧ y.cls ≠ "java/lang/invoke/VarHandle") ∧
  (∀ sig, parseMethodDescriptor y.desc = some sig → n = sig.parameters.length) ∧ (Cond.methodLink own index y).before args s = true ∧ (Cond.static y).before args s = true
theorem vx_cwSW {own : String} {index maxL mc ms : Nat} {y : MethodName} {bytes : ByteArray} {ret : Option FieldType} {hh : List (Nat × Nat × Nat × Nat)} {Ts ws ws' : List Cond} {rm : Room} (n : Nat) (ht : ∀ w ∈ Ts, w.before args s = true) (hT : GoodIn Ts (va_wsS own index y ws)) (hw : ws = Cond.codeWith y bytes maxL ret hh :: ws') (hrc : rm.cells = mc) (hrs : rm.slots = ms)
    (hd : y.cls ≠ "java/lang/invoke/MethodHandle" ∧ y.cls ≠ "java/lang/invoke/VarHandle" ∧ (parseMethodDescriptor y.desc).map (fun d => d.parameters.length) = some n) (hR : rm.frames + 1 ≤ R.frames ∧ 8 + (maxL + 11) + rm.locals ≤ R.locals) :
    vx_CSW R s args own index y bytes maxL ret hh ws rm mc ms n := by
  have ok : ∀ w ∈ va_wsS own index y ws, w.before args s = true := fun w h => ht w (hT w h).1
  have hG : GoodIn Ts ws := fun w h => hT w (by unfold va_wsS; exact List.mem_append_right _ h)
  have hc : Cond.codeWith y bytes maxL ret hh ∈ ws := by rw [hw]; exact List.mem_cons_self
  refine ⟨⟨hrc, hrs, hR.1, hR.2, pay_in ht hG, hc⟩, ht _ (hG _ hc).1, ok _ (by simp [va_wsS]), ⟨hd.1, hd.2.1⟩, fun sig h => ?_, ok _ (by simp [va_wsS]), ok _ (by simp [va_wsS])⟩
  have h2 := hd.2.2
  rw [h] at h2
  exact (Option.some.inj h2).symm
theorem vx_callSW (X : Stand p l e R s m args below meth c T locs cells slots) (hexec : p.tables.exec = Jvm.exec) {own : String} {index : Nat} {y : MethodName} {bytes : ByteArray} {maxL : Nat} {ret : Option FieldType} {hh : List (Nat × Nat × Nat × Nat)}
    (hown : s.vm.findClass own = some m.cls) (hlink : (Cond.methodLink own index y).before args s = true) (hstat : (Cond.static y).before args s = true) (hinit : (Cond.initialized y.cls).before args s = true)
    (hcode : (Cond.codeWith y bytes maxL ret hh).before args s = true) (hy : y.cls ≠ "java/lang/invoke/MethodHandle" ∧ y.cls ≠ "java/lang/invoke/VarHandle")
    {W9 : Nat} {Pre : Pt → Array Value → Prop} {Post : Pt → Array Value → Option Value → Pt → Prop} (hK : Back l R p e below s args y 3 W9 Pre Post)
    {g : JFrame} (hg : g.method = m) (hsize : g.locals.size = c.maxLocals) {argsL rest : List Value} (hlen : ∀ sig, parseMethodDescriptor y.desc = some sig → argsL.length = sig.parameters.length)
    (hstack : g.stack = argsL.reverse ++ rest) (hW : 2 * g.monitorRoom + (rest.map fun v => v.category).sum ≤ W9) (hdg : decode c.code g.pc = .ok (.invokestatic index, 3))
    (hpre : ∀ vm₁, s.WarmedH vm₁ → Pre ⟨T.setVm vm₁, locs, cells, slots⟩ argsL.toArray) :
    ∃ (v : Option Value) (vm₁ : Vm) (B : Pt), s.WarmedH vm₁ ∧ Stand p l e R s m args below meth c B.U B.locs B.cells B.slots ∧ Post ⟨T.setVm vm₁, locs, cells, slots⟩ argsL.toArray v B ∧
      ∀ target, Steps p.tables e below (B.U.setTop { g with pc := g.pc + 3, stack := v.toList ++ rest }) target → Steps p.tables e below (T.setTop g) target := by
  obtain ⟨mk, methM, cM, hnamed, hmethM, -, -, -, -, -, -, hsigM⟩ := Cond.codeWith_spec hcode
  have hstatic : methM.isStatic = true := Cond.static_spec hnamed hmethM hstat
  obtain ⟨kP, hkP, -⟩ := className_of_methodNamed hnamed
  have hinitP : kP.init = .initialized := Cond.initialized_spec (findClass_of_methodNamed hnamed) hkP hinit
  obtain ⟨vm₁, X₁, hstep₁⟩ := X.invokestatic hexec hown hlink hnamed hmethM hstatic hkP hinitP hy (g := g) hg (argsL := argsL) (rest := rest) (hlen _ hsigM) hstack hdg
  obtain ⟨v, B, X', hpost, hsteps⟩ := hK m meth c ⟨T.setVm vm₁, locs, cells, slots⟩ { g with stack := rest } (.invokestatic index) mk argsL.toArray X₁ hg hsize hdg hW (X₁.named hnamed) (hpre vm₁ X₁.warmed)
  exact ⟨v, vm₁, B, X₁.warmed, X', hpost, fun target h => hstep₁ _ fun acts => by rw [doInvoke_state]; exact hsteps.trans h⟩
theorem vx_runSW {y : MethodName} {bytes cc : ByteArray} {maxL nL mc ms n index : Nat} {ret : Option FieldType} {hh : List (Nat × Nat × Nat × Nat)} {ws : List Cond} {rm : Room} {Pc : Array Value → State → Prop} {Qc : Array Value → State → Outcome → State → Prop} {free : Addr → Prop} {Ts : List Cond} {own : String} {As rest : List Value} {g : JFrame}
    (S : CallFix p m c cc nL s args Ts own) (hM : Met l y ws rm Pc Qc mc ms free) (cw : vx_CSW R s args own index y bytes maxL ret hh ws rm mc ms n) (hp : PreS s H Pc As)
    (hg : g.method = m) (hn : As.length = n) (hsize : g.locals.size = nL) (hstack : g.stack = As.reverse ++ rest) (hW : 2 * g.monitorRoom + (rest.map fun v => v.category).sum ≤ 8) (hdg : decode cc g.pc = .ok (.invokestatic index, 3)) (hf : cells + mc ≤ R.cells ∧ slots + ms ≤ R.slots) :
    va_Run p l e R s m args below meth c H locs cells slots mc ms g rest (Qc As.toArray) (free) := by
  obtain ⟨⟨hrc, hrs, hfr, hlo, hws, hcw⟩, hcode, hini, hy, hlen, hl, hstt⟩ := cw
  have hK : Back l R p e below s args y 3 8 (PreOf R mc ms Pc) (PostOf Qc mc ms free) := va_backW (hh := hh) (bytes := bytes) (maxL := maxL) (ret := ret) hM hp.1 hrc hrs hfr hlo hws hcw (fun a' U hW => word_at hW (Or.inl (by first | rfl | simp [Cond.onTables, Cond.keeps, Cond.steady])) hini)
  obtain ⟨hx, hb, hml, ho, -⟩ := S
  intro T hT X
  obtain ⟨v, vm₁, ⟨U', l2, c2, s2⟩, hW₁, X', ⟨g', mk, t, L, e1, e2, hq, h1, hL, h2, h3⟩, st⟩ := vx_callSW X hx (hh := hh) (bytes := bytes) (maxL := maxL) (ret := ret) ho hl hstt hini hcode hy hK hg (hsize.trans hml.symm) (argsL := As) (rest := rest) (fun sig h => hn.trans (hlen sig h)) hstack hW (by rw [hb]; exact hdg)
    (fun vm₁ hW₁ => ⟨hf.1, hf.2, hp.2 (T.setVm vm₁) hT hW₁⟩)
  dsimp only [Pt.U, Pt.locs, Pt.cells, Pt.slots] at X' e1 e2 h1 h2 h3 st
  subst h1; subst h2; subst h3
  exact ⟨v, (T.setVm vm₁).calling g' mk As.toArray, t, U', L, hT, X', hL, e1, e2, hq, st⟩
/-- not caught here, past rows that name other classes: it goes on to the caller -/
theorem vx_outP {p : Program} {l : Launch} {e : Env} {R : Room} {s : State} {m : MethodId} {args : Array Value} {below : List Frame} {meth : Method} {c : Code} {H : Heap} {locs : List Loc} {cells slots : Nat} {free : Addr → Prop} {ls : Array Slot} {rest : List Value} {Qc : Array Value → State → Outcome → State → Prop} {XC : String → State → State → Prop}
    {pc : Nat} {own E : String} {ce : Cell} {q : Addr} {mc ms : Nat} (hown : s.vm.findClass own = some m.cls) (hlocks : meth.locks = false)
    (hpass : ∀ z ∈ c.exceptionTable.toList, covers z pc = false ∨ (z.catchType ≠ 0 ∧ ∃ nm : String, (Cond.classLink own z.catchType nm).before args s = true ∧ va_Nc E nm s)) (hcell : H[q]? = some ce) (hv : ce.vm = .none) (hcl : s.vm.findClass E = some ce.cls)
    (hx : ∀ t : State, t.heap = H → s.vm.Alike t.vm → XC E s t) (hf : ∀ z ∈ locs, free z.base) (hc : cells ≤ mc) (hs : slots ≤ ms) :
    vx_W p l e R s m args below meth c H locs cells slots (vx_MQ below Qc XC args s mc ms free) (F0 m pc ls rest) q := by
  intro T hT X
  have hpl : e.platform.magicAccessors = ({} : Platform).magicAccessors := by rw [X.admits.platform]
  obtain ⟨vm', hW', X', st⟩ := X.outThrough hlocks q (g := F0 m pc ls rest) rfl rfl rfl (cell := ce) (by rw [hT]; exact hcell) (by rw [hv]; rfl)
    (by obtain ⟨k9, h9, -⟩ := Vm.findClass_spec hcl; exact ⟨k9, h9⟩) (fun z hz => by
      rcases hpass z hz with h | ⟨hz0, nm, hl1, hn1⟩
      · exact Or.inl h
      · obtain ⟨c6, hc6, hcl6⟩ := Cond.classLink_spec hown hl1 e.platform hpl
        obtain ⟨a8, b8, h1, h2, h3⟩ := hn1
        cases Option.some.inj (h1.symm.trans hcl)
        cases Option.some.inj (h2.symm.trans hc6)
        exact Or.inr ⟨hz0, _, hcl6, h3⟩)
  obtain ⟨g₀, hfr⟩ := X'.frames_eq
  have hcell9 : ((T.setVm vm').setFrames (.throwing q :: below)).heap[q]? = some ce := by
    show T.heap[q]? = some ce
    rw [hT]; exact hcell
  have hend : Ended ((T.setVm vm').setFrames (.throwing q :: below)) below (.threw q) := State.frames_setFrames _ (State.cur_lt_of_frames hfr)
  refine ⟨(T.setVm vm').setFrames (.throwing q :: below), ?_, .threw q, X'.here.running, hend, Or.inr ⟨q, rfl, E, ce, locs, hx _ hT (X'.ends _).1.alike, hcell9, hv, hcl, (X'.ends _).1, (X'.ends _).2.mono hc hs, hf⟩⟩
  rw [X.pushThrowing_eq]
  exact st
/-- a thing of a world lies in the heap -/
theorem vx_lt {D : va_G} {cl : List vw_C} {ws : va_W} {H1 : Heap} (h : va_P D cl ws H1) {k : Nat} {q : Nat × va_E} (hk : ws[k]? = some q) : q.1 < H1.size := (h k q hk).lt
end VXS
/-! ===== END ===== -/
/-! ===== BEGIN methods with a table of their own: called by a name, returning or throwing ===== -/
section VXH
/-! vx_backW, vx_callVX, vx_callSX, vx_callVW, vx_runVW, vx_runVX, vx_runSX, vx_ofWH follow the same proofs as their sisters above (Free/Laws.lean, Shelf42/LK1.lean); vx_outP calls Shelf42/NT130.lean (outThrough). -/
section
variable {l : Launch} {R : Room} {p : Program} {e : Env} {below : List Frame} {s : State} {sargs : Array Value} {y : MethodName} {len W9 : Nat}
theorem vx_backW {ws : List Cond} {rm : Room} {Pc : Array Value → State → Prop} {Qc : Array Value → State → Outcome → State → Prop} {XC : String → State → State → Prop} {mc ms : Nat} {free : Addr → Prop} {bytes : ByteArray} {maxL : Nat} {ret : Option FieldType} {hh : List (Nat × Nat × Nat × Nat)}
    (hM : vx_Met l y ws rm Pc Qc XC mc ms free) (hblind : FrameBlind Pc) (hrc : rm.cells = mc) (hrs : rm.slots = ms)
    (hframes : rm.frames + 1 ≤ R.frames) (hlocals : W9 + (maxL + 11) + rm.locals ≤ R.locals)
    (hws : ∀ w ∈ ws, ∀ a' U, s.WarmedH U.vm → w.before a' U = true) (hcode : Cond.codeWith y bytes maxL ret hh ∈ ws) (hinit : ∀ a' U, s.WarmedH U.vm → (Cond.initialized y.cls).before a' U = true) :
    vx_Back l R p e below s sargs y len W9 (PreOf R mc ms Pc) (PostOf Qc mc ms free) (vx_Post XC mc ms free) := by
  intro m meth c A g ig mk a X hg hsize hdg hW hn hp
  have h1 : (headSpec ws rm).pre.before a A.U = true := atoms_intro fun w hw => hws w hw _ _ X.warmed
  have h2 : (Cond.codeWith y bytes maxL ret hh).before a A.U = true := hws _ hcode _ _ X.warmed
  have h3 : (Cond.initialized y.cls).before a A.U = true := hinit _ _ X.warmed
  have h4 : A.cells + (headSpec ws rm).room.cells ≤ R.cells := by rw [show (headSpec ws rm).room.cells = mc from hrc]; exact hp.1
  have h5 : A.slots + (headSpec ws rm).room.slots ≤ R.slots := by rw [show (headSpec ws rm).room.slots = ms from hrs]; exact hp.2.1
  have hPc : Pc a (A.U.calling g mk a) := hblind _ _ _ _ hp.2.2
  obtain ⟨U, Ls, c0, s0⟩ := A
  dsimp only [Pt.U, Pt.locs, Pt.cells, Pt.slots] at h1 h2 h3 h4 h5 X hn hPc ⊢
  obtain ⟨m9, methY, cY, hn9, hmY, hcY, -, hlY, -⟩ := Cond.codeWith_spec h2
  cases Option.some.inj (hn9.symm.trans hn)
  obtain ⟨kY, hkY, -⟩ := className_of_methodNamed hn
  have hinitY : kY.init = .initialized := Cond.initialized_spec (findClass_of_methodNamed hn) hkY h3
  have h : At U g.method c below := by rw [hg]; exact X.here
  have hlocals9 : W9 + (maxL + 11) + (headSpec ws rm).room.locals ≤ R.locals := hlocals
  have happ : (headSpec ws rm).appliesLoose y e.platform (U.calling g mk a) = true :=
    Spec.appliesLoose_calling (g := g) h hdg hn hkY hinitY
      (X.room_calling (g := g) (R' := (headSpec ws rm).room) hsize hmY hcY hframes (by rw [hlY]; omega) h4 h5) h1
  obtain ⟨mid, hmid⟩ := h.above
  have hfr : (U.setTop g).frames = (.java g :: mid) ++ below := by rw [State.frames_setTop' g h.top, hmid]; rfl
  obtain ⟨o, s₂, hsteps, -, hend, hq⟩ := Steps.callFree hM p X.admits X.cas X.clock (acts := []) hfr happ hPc trivial
  have hq' : vx_Q Qc XC mc ms free a (U.calling g mk a) o s₂ := hq
  rw [State.frames_setTop' g h.top] at hend
  obtain ⟨g₀, hg0⟩ := Option.isSome_iff_exists.mp h.top
  obtain ⟨r, hr⟩ := State.topJava?_eq_some.mp hg0
  have hr' : (({ U with heap := s₂.heap, slotsUsed := s₂.slotsUsed } : State).setVm s₂.vm).frames = .java g₀ :: r := hr
  rcases hq' with ⟨hqc, L, hfe, hL⟩ | ⟨q, rfl, E, ce, L, hx, hce, hcv, hcl, hW₂, hsm, hL⟩
  · obtain ⟨⟨v, rfl⟩, hW₂, e2, q2, q3, q4, q5, q6⟩ := id hfe
    have e3 : s₂ = ({ (U.calling g mk a).setFrames s₂.frames with heap := s₂.heap, slotsUsed := s₂.slotsUsed } : State).setVm s₂.vm := by
      have : s₂ = ({ s₂ with vm := (U.calling g mk a).vm } : State).setVm s₂.vm := rfl
      rw [e2] at this
      exact this
    obtain ⟨c₂, i₂, len₂, hc₂, hd₂, hf₂⟩ := hend
    have hW' : U.WarmedH s₂.vm := hW₂
    have hcc : c₂ = c := by
      have h1 : s₂.code? g.method = U.code? g.method := by
        rw [State.code?_eq, State.code?_eq, hW'.alike.method?]
      exact Option.some.inj (hc₂.symm.trans (h1.trans h.code))
    subst hcc
    have hlen : len₂ = len := by rw [hdg] at hd₂; cases hd₂; rfl
    subst hlen
    have hs₂ : s₂ = (({ U with heap := s₂.heap, slotsUsed := s₂.slotsUsed } : State).setVm s₂.vm).setTop { g with pc := g.pc + len₂, stack := v.toList ++ g.stack } := by
      refine e3.trans ?_
      rw [hf₂, State.calling_eq h.top, State.setFrames_setFrames, State.setTop_of_frames _ hr', hr]
      rfl
    have hsame : U.sameButNew ({ U with heap := s₂.heap, slotsUsed := s₂.slotsUsed } : State) L mc ms := by
      refine ⟨?_, q2, q3, q4, q5, q6⟩
      obtain ⟨t, ht, -⟩ := State.frames_cons hr
      show ({ U with heap := s₂.heap, slotsUsed := s₂.slotsUsed } : State) = { U.setFrames U.frames with heap := s₂.heap, slotsUsed := s₂.slotsUsed }
      rw [State.setFrames_self ht]
    subst hg
    refine Or.inl ⟨v, ⟨(({ U with heap := s₂.heap, slotsUsed := s₂.slotsUsed } : State).setVm s₂.vm), Ls ++ L, c0 + mc, s0 + ms⟩,
      ⟨X.admits, X.cas, X.clock, X.frames, X.room, X.hears, X.method, X.code, (X.here.setHeapUsed s₂.heap s₂.slotsUsed).setVm hW'.alike, X.tail, State.WarmedH.trans X.warmed hW', X.limits, X.bytes, X.same.trans (hsame.setVm s.vm)⟩,
      ⟨g, mk, s₂, L, rfl, rfl, hqc, rfl, hL, rfl, rfl⟩, ?_⟩
    show Steps p.tables e below _ ((({ U with heap := s₂.heap, slotsUsed := s₂.slotsUsed } : State).setVm s₂.vm).setTop { g with pc := g.pc + len₂, stack := v.toList ++ g.stack })
    rw [← hs₂]
    exact hsteps
  · obtain ⟨e2, q2, q3, q4, q5, q6⟩ := id hsm
    have e3 : s₂ = ({ (U.calling g mk a).setFrames s₂.frames with heap := s₂.heap, slotsUsed := s₂.slotsUsed } : State).setVm s₂.vm := by
      have : s₂ = ({ s₂ with vm := (U.calling g mk a).vm } : State).setVm s₂.vm := rfl
      rw [e2] at this
      exact this
    have hf₂ : s₂.frames = .throwing q :: .java g :: U.frames.tail := hend
    have hW' : U.WarmedH s₂.vm := hW₂
    have hs₂ : s₂ = ((({ U with heap := s₂.heap, slotsUsed := s₂.slotsUsed } : State).setVm s₂.vm).setTop g).pushFrame (.throwing q) := by
      refine e3.trans ?_
      rw [hf₂, State.calling_eq h.top, State.setFrames_setFrames, State.pushFrame, State.frames_setTop _ hr', State.setTop_of_frames _ hr', State.setFrames_setFrames, hr]
      rfl
    have hsame : U.sameButNew ({ U with heap := s₂.heap, slotsUsed := s₂.slotsUsed } : State) L mc ms := by
      refine ⟨?_, q2, q3, q4, q5, q6⟩
      obtain ⟨t, ht, -⟩ := State.frames_cons hr
      show ({ U with heap := s₂.heap, slotsUsed := s₂.slotsUsed } : State) = { U.setFrames U.frames with heap := s₂.heap, slotsUsed := s₂.slotsUsed }
      rw [State.setFrames_self ht]
    subst hg
    refine Or.inr ⟨q, ⟨(({ U with heap := s₂.heap, slotsUsed := s₂.slotsUsed } : State).setVm s₂.vm), Ls ++ L, c0 + mc, s0 + ms⟩,
      ⟨X.admits, X.cas, X.clock, X.frames, X.room, X.hears, X.method, X.code, (X.here.setHeapUsed s₂.heap s₂.slotsUsed).setVm hW'.alike, X.tail, State.WarmedH.trans X.warmed hW', X.limits, X.bytes, X.same.trans (hsame.setVm s.vm)⟩,
      ⟨g, mk, s₂, L, E, ce, rfl, rfl, hx, hce, hcv, hcl, rfl, hL, rfl, rfl⟩, ?_⟩
    show Steps p.tables e below _ (((({ U with heap := s₂.heap, slotsUsed := s₂.slotsUsed } : State).setVm s₂.vm).setTop g).pushFrame (.throwing q))
    rw [← hs₂]
    exact hsteps
end
variable {p : Program} {l : Launch} {e : Env} {R : Room} {s : State} {m : MethodId} {args : Array Value} {below : List Frame} {meth : Method} {c : Code} {T : State} {H : Heap} {locs : List Loc} {cells slots : Nat}
theorem vx_callVX (X : Stand p l e R s m args below meth c T locs cells slots) (hexec : p.tables.exec = Jvm.exec) {own C : String} {index : Nat} {y : MethodName} {bytes : ByteArray} {maxL : Nat} {ret : Option FieldType} {hh : List (Nat × Nat × Nat × Nat)}
    (hown : s.vm.findClass own = some m.cls) (hlink : (Cond.methodLink own index y).before args s = true) (hinst : (Cond.instanceMethod y).before args s = true) (hsel : (Cond.selects C y y).before args s = true)
    (hcode : (Cond.codeWith y bytes maxL ret hh).before args s = true) (hy : y.cls ≠ "java/lang/invoke/MethodHandle" ∧ y.cls ≠ "java/lang/invoke/VarHandle")
    {W9 : Nat} {Pre : Pt → Array Value → Prop} {Post : Pt → Array Value → Option Value → Pt → Prop} {PostX : Pt → Array Value → Addr → Pt → Prop} (hK : vx_Back l R p e below s args y 3 W9 Pre Post PostX)
    {b : Addr} {cellB : Cell} (hcell : T.heap[b]? = some cellB) (hobj : cellB.vm.isStatics = false) (hcls : s.vm.findClass C = some cellB.cls)
    {g : JFrame} (hg : g.method = m) (hsize : g.locals.size = c.maxLocals) {argsL rest : List Value} (hlen : ∀ sig, parseMethodDescriptor y.desc = some sig → argsL.length = sig.parameters.length)
    (hstack : g.stack = argsL.reverse ++ .ref b :: rest) (hW : 2 * g.monitorRoom + (rest.map fun v => v.category).sum ≤ W9) (hdg : decode c.code g.pc = .ok (.invokevirtual index, 3))
    (hpre : ∀ vm₁, s.WarmedH vm₁ → Pre ⟨T.setVm vm₁, locs, cells, slots⟩ (Value.ref b :: argsL).toArray) :
    (∃ (v : Option Value) (vm₁ : Vm) (B : Pt), s.WarmedH vm₁ ∧ Stand p l e R s m args below meth c B.U B.locs B.cells B.slots ∧ Post ⟨T.setVm vm₁, locs, cells, slots⟩ (Value.ref b :: argsL).toArray v B ∧
      ∀ target, Steps p.tables e below (B.U.setTop { g with pc := g.pc + 3, stack := v.toList ++ rest }) target → Steps p.tables e below (T.setTop g) target) ∨
    (∃ (q : Addr) (vm₁ : Vm) (B : Pt), s.WarmedH vm₁ ∧ Stand p l e R s m args below meth c B.U B.locs B.cells B.slots ∧ PostX ⟨T.setVm vm₁, locs, cells, slots⟩ (Value.ref b :: argsL).toArray q B ∧
      Steps p.tables e below (T.setTop g) ((B.U.setTop { g with stack := rest }).pushFrame (.throwing q))) := by
  obtain ⟨mk, methM, hnamed, hmethM, hstM, habM⟩ := Cond.instanceMethod_spec hinst
  obtain ⟨m8, methM', cM, hn8, hmethM', -, -, -, -, -, -, hsigM⟩ := Cond.codeWith_spec hcode
  cases Option.some.inj (hn8.symm.trans hnamed)
  cases hmethM.symm.trans hmethM'
  obtain ⟨c2, r2, m2, q1, q2, q3, q4, kP, hkP, hkPi⟩ := Cond.selects_spec hsel
  cases hcls.symm.trans q1
  cases (State.methodFound?_of_named hnamed hy).symm.trans q2
  cases hnamed.symm.trans q3
  have hselP : selectMethod e.platform s.vm cellB.cls mk = .method mk := by rw [Launch.admits_selectMethod X.admits]; exact q4
  obtain ⟨vm₁, X₁, hstep₁⟩ := X.invokevirtual hexec hown hlink hnamed hmethM hstM hkP hkPi hy (a := b) (cell := cellB) hcell
    (fun z h => by rw [h] at hobj; cases hobj) hselP hmethM habM hkP hkPi (g := g) hg (argsL := argsL) (rest := rest) (hlen _ hsigM) hstack hdg
  rcases hK m meth c ⟨T.setVm vm₁, locs, cells, slots⟩ { g with stack := rest } (.invokevirtual index) mk (Value.ref b :: argsL).toArray X₁ hg hsize hdg hW (X₁.named hnamed) (hpre vm₁ X₁.warmed) with ⟨v, B, X', hpost, hsteps⟩ | ⟨q, B, X', hpost, hsteps⟩
  · exact Or.inl ⟨v, vm₁, B, X₁.warmed, X', hpost, fun target h => hstep₁ _ fun acts => by rw [doInvoke_state]; exact hsteps.trans h⟩
  · exact Or.inr ⟨q, vm₁, B, X₁.warmed, X', hpost, hstep₁ _ fun acts => by rw [doInvoke_state]; exact hsteps⟩
theorem vx_callSX (X : Stand p l e R s m args below meth c T locs cells slots) (hexec : p.tables.exec = Jvm.exec) {own : String} {index : Nat} {y : MethodName} {bytes : ByteArray} {maxL : Nat} {ret : Option FieldType} {hh : List (Nat × Nat × Nat × Nat)}
    (hown : s.vm.findClass own = some m.cls) (hlink : (Cond.methodLink own index y).before args s = true) (hstat : (Cond.static y).before args s = true) (hinit : (Cond.initialized y.cls).before args s = true)
    (hcode : (Cond.codeWith y bytes maxL ret hh).before args s = true) (hy : y.cls ≠ "java/lang/invoke/MethodHandle" ∧ y.cls ≠ "java/lang/invoke/VarHandle")
    {W9 : Nat} {Pre : Pt → Array Value → Prop} {Post : Pt → Array Value → Option Value → Pt → Prop} {PostX : Pt → Array Value → Addr → Pt → Prop} (hK : vx_Back l R p e below s args y 3 W9 Pre Post PostX)
    {g : JFrame} (hg : g.method = m) (hsize : g.locals.size = c.maxLocals) {argsL rest : List Value} (hlen : ∀ sig, parseMethodDescriptor y.desc = some sig → argsL.length = sig.parameters.length)
    (hstack : g.stack = argsL.reverse ++ rest) (hW : 2 * g.monitorRoom + (rest.map fun v => v.category).sum ≤ W9) (hdg : decode c.code g.pc = .ok (.invokestatic index, 3))
    (hpre : ∀ vm₁, s.WarmedH vm₁ → Pre ⟨T.setVm vm₁, locs, cells, slots⟩ argsL.toArray) :
    (∃ (v : Option Value) (vm₁ : Vm) (B : Pt), s.WarmedH vm₁ ∧ Stand p l e R s m args below meth c B.U B.locs B.cells B.slots ∧ Post ⟨T.setVm vm₁, locs, cells, slots⟩ argsL.toArray v B ∧
      ∀ target, Steps p.tables e below (B.U.setTop { g with pc := g.pc + 3, stack := v.toList ++ rest }) target → Steps p.tables e below (T.setTop g) target) ∨
    (∃ (q : Addr) (vm₁ : Vm) (B : Pt), s.WarmedH vm₁ ∧ Stand p l e R s m args below meth c B.U B.locs B.cells B.slots ∧ PostX ⟨T.setVm vm₁, locs, cells, slots⟩ argsL.toArray q B ∧
      Steps p.tables e below (T.setTop g) ((B.U.setTop { g with stack := rest }).pushFrame (.throwing q))) := by
  obtain ⟨mk, methM, cM, hnamed, hmethM, -, -, -, -, -, -, hsigM⟩ := Cond.codeWith_spec hcode
  have hstatic : methM.isStatic = true := Cond.static_spec hnamed hmethM hstat
  obtain ⟨kP, hkP, -⟩ := className_of_methodNamed hnamed
  have hinitP : kP.init = .initialized := Cond.initialized_spec (findClass_of_methodNamed hnamed) hkP hinit
  obtain ⟨vm₁, X₁, hstep₁⟩ := X.invokestatic hexec hown hlink hnamed hmethM hstatic hkP hinitP hy (g := g) hg (argsL := argsL) (rest := rest) (hlen _ hsigM) hstack hdg
  rcases hK m meth c ⟨T.setVm vm₁, locs, cells, slots⟩ { g with stack := rest } (.invokestatic index) mk argsL.toArray X₁ hg hsize hdg hW (X₁.named hnamed) (hpre vm₁ X₁.warmed) with ⟨v, B, X', hpost, hsteps⟩ | ⟨q, B, X', hpost, hsteps⟩
  · exact Or.inl ⟨v, vm₁, B, X₁.warmed, X', hpost, fun target h => hstep₁ _ fun acts => by rw [doInvoke_state]; exact hsteps.trans h⟩
  · exact Or.inr ⟨q, vm₁, B, X₁.warmed, X', hpost, hstep₁ _ fun acts => by rw [doInvoke_state]; exact hsteps⟩
theorem vx_callVW (X : Stand p l e R s m args below meth c T locs cells slots) (hexec : p.tables.exec = Jvm.exec) {own C : String} {index : Nat} {y : MethodName} {bytes : ByteArray} {maxL : Nat} {ret : Option FieldType} {hh : List (Nat × Nat × Nat × Nat)}
    (hown : s.vm.findClass own = some m.cls) (hlink : (Cond.methodLink own index y).before args s = true) (hinst : (Cond.instanceMethod y).before args s = true) (hsel : (Cond.selects C y y).before args s = true)
    (hcode : (Cond.codeWith y bytes maxL ret hh).before args s = true) (hy : y.cls ≠ "java/lang/invoke/MethodHandle" ∧ y.cls ≠ "java/lang/invoke/VarHandle")
    {W9 : Nat} {Pre : Pt → Array Value → Prop} {Post : Pt → Array Value → Option Value → Pt → Prop} (hK : Back l R p e below s args y 3 W9 Pre Post)
    {b : Addr} {cellB : Cell} (hcell : T.heap[b]? = some cellB) (hobj : cellB.vm.isStatics = false) (hcls : s.vm.findClass C = some cellB.cls)
    {g : JFrame} (hg : g.method = m) (hsize : g.locals.size = c.maxLocals) {argsL rest : List Value} (hlen : ∀ sig, parseMethodDescriptor y.desc = some sig → argsL.length = sig.parameters.length)
    (hstack : g.stack = argsL.reverse ++ .ref b :: rest) (hW : 2 * g.monitorRoom + (rest.map fun v => v.category).sum ≤ W9) (hdg : decode c.code g.pc = .ok (.invokevirtual index, 3))
    (hpre : ∀ vm₁, s.WarmedH vm₁ → Pre ⟨T.setVm vm₁, locs, cells, slots⟩ (Value.ref b :: argsL).toArray) :
    ∃ (v : Option Value) (vm₁ : Vm) (B : Pt), s.WarmedH vm₁ ∧ Stand p l e R s m args below meth c B.U B.locs B.cells B.slots ∧ Post ⟨T.setVm vm₁, locs, cells, slots⟩ (Value.ref b :: argsL).toArray v B ∧
      ∀ target, Steps p.tables e below (B.U.setTop { g with pc := g.pc + 3, stack := v.toList ++ rest }) target → Steps p.tables e below (T.setTop g) target := by
  obtain ⟨mk, methM, hnamed, hmethM, hstM, habM⟩ := Cond.instanceMethod_spec hinst
  obtain ⟨m8, methM', cM, hn8, hmethM', -, -, -, -, -, -, hsigM⟩ := Cond.codeWith_spec hcode
  cases Option.some.inj (hn8.symm.trans hnamed)
  cases hmethM.symm.trans hmethM'
  obtain ⟨c2, r2, m2, q1, q2, q3, q4, kP, hkP, hkPi⟩ := Cond.selects_spec hsel
  cases hcls.symm.trans q1
  cases (State.methodFound?_of_named hnamed hy).symm.trans q2
  cases hnamed.symm.trans q3
  have hselP : selectMethod e.platform s.vm cellB.cls mk = .method mk := by rw [Launch.admits_selectMethod X.admits]; exact q4
  obtain ⟨vm₁, X₁, hstep₁⟩ := X.invokevirtual hexec hown hlink hnamed hmethM hstM hkP hkPi hy (a := b) (cell := cellB) hcell
    (fun z h => by rw [h] at hobj; cases hobj) hselP hmethM habM hkP hkPi (g := g) hg (argsL := argsL) (rest := rest) (hlen _ hsigM) hstack hdg
  obtain ⟨v, B, X', hpost, hsteps⟩ := hK m meth c ⟨T.setVm vm₁, locs, cells, slots⟩ { g with stack := rest } (.invokevirtual index) mk (Value.ref b :: argsL).toArray X₁ hg hsize hdg hW (X₁.named hnamed) (hpre vm₁ X₁.warmed)
  exact ⟨v, vm₁, B, X₁.warmed, X', hpost, fun target h => hstep₁ _ fun acts => by rw [doInvoke_state]; exact hsteps.trans h⟩
abbrev vx_CVW (R : Room) (s : State) (args : Array Value) (own C : String) (index : Nat) (y : MethodName) (bytes : ByteArray) (maxL : Nat) (ret : Option FieldType) (hh : List (Nat × Nat × Nat × Nat)) (ws : List Cond) (rm : Room) (mc ms n : Nat) : Prop :=
  (rm.cells = mc ∧ rm.slots = ms ∧ rm.frames + 1 ≤ R.frames ∧ 8 + (maxL + 11) + rm.locals ≤ R.locals ∧ (∀ w ∈ ws, ∀ (a' : Array Value) (U : State), s.WarmedH U.vm → w.before a' U = true) ∧ Cond.codeWith y bytes maxL ret hh ∈ ws) ∧
  (Cond.codeWith y bytes maxL ret hh).before args s = true ∧ (Cond.initialized y.cls).before args s = true ∧ (y.cls ≠ "java/lang/invoke/MethodHandle" ∧ y.cls ≠ "java/lang/invoke/VarHandle") ∧
  (∀ sig, parseMethodDescriptor y.desc = some sig → n = sig.parameters.length) ∧ (Cond.methodLink own index y).before args s = true ∧ (Cond.instanceMethod y).before args s = true ∧ (Cond.selects C y y).before args s = true
theorem vx_cwVW {own C : String} {index maxL mc ms : Nat} {y : MethodName} {bytes : ByteArray} {ret : Option FieldType} {hh : List (Nat × Nat × Nat × Nat)} {Ts ws ws' : List Cond} {rm : Room} (n : Nat) (ht : ∀ w ∈ Ts, w.before args s = true) (hT : GoodIn Ts (wsV own index C y ws)) (hw : ws = Cond.codeWith y bytes maxL ret hh :: ws') (hrc : rm.cells = mc) (hrs : rm.slots = ms)
    (hd : y.cls = C ∧ y.cls ≠ "java/lang/invoke/MethodHandle" ∧ y.cls ≠ "java/lang/invoke/VarHandle" ∧ (parseMethodDescriptor y.desc).map (fun d => d.parameters.length) = some n) (hR : rm.frames + 1 ≤ R.frames ∧ 8 + (maxL + 11) + rm.locals ≤ R.locals) :
    vx_CVW R s args own C index y bytes maxL ret hh ws rm mc ms n := by
  obtain ⟨hC, hd⟩ := hd
  subst hC
  have ok : ∀ w ∈ wsV own index y.cls y ws, w.before args s = true := fun w h => ht w (hT w h).1
  have hG : GoodIn Ts ws := fun w h => hT w (by unfold wsV; exact List.mem_append_right _ h)
  have hc : Cond.codeWith y bytes maxL ret hh ∈ ws := by rw [hw]; exact List.mem_cons_self
  refine ⟨⟨hrc, hrs, hR.1, hR.2, pay_in ht hG, hc⟩, ht _ (hG _ hc).1, ok _ (by simp [wsV]), ⟨hd.1, hd.2.1⟩, fun sig h => ?_, ok _ (by simp [wsV]), ok _ (by simp [wsV]), ok _ (by simp [wsV])⟩
  have h2 := hd.2.2
  rw [h] at h2
  exact (Option.some.inj h2).symm
theorem vx_runVW {y : MethodName} {bytes cc : ByteArray} {maxL nL mc ms n index : Nat} {ret : Option FieldType} {hh : List (Nat × Nat × Nat × Nat)} {ws : List Cond} {rm : Room} {Pc : Array Value → State → Prop} {Qc : Array Value → State → Outcome → State → Prop} {free : Addr → Prop} {Ts : List Cond} {own C : String} {b : Addr} {As rest : List Value} {g : JFrame}
    (S : CallFix p m c cc nL s args Ts own) (hM : Met l y ws rm Pc Qc mc ms free) (cw : vx_CVW R s args own C index y bytes maxL ret hh ws rm mc ms n) (hp : PreV s H C b Pc As)
    (hg : g.method = m) (hn : As.length = n) (hsize : g.locals.size = nL) (hstack : g.stack = As.reverse ++ .ref b :: rest) (hW : 2 * g.monitorRoom + (rest.map fun v => v.category).sum ≤ 8) (hdg : decode cc g.pc = .ok (.invokevirtual index, 3)) (hf : cells + mc ≤ R.cells ∧ slots + ms ≤ R.slots) :
    va_Run p l e R s m args below meth c H locs cells slots mc ms g rest (Qc (Value.ref b :: As).toArray) free := by
  obtain ⟨⟨hrc, hrs, hfr, hlo, hws, hcw⟩, hcode, hini, hy, hlen, hl, hin, hse⟩ := cw
  have hK : Back l R p e below s args y 3 8 (PreOf R mc ms Pc) (PostOf Qc mc ms free) := va_backW (hh := hh) (bytes := bytes) (maxL := maxL) (ret := ret) hM hp.1 hrc hrs hfr hlo hws hcw (fun a' U hW => word_at hW (Or.inl (by first | rfl | simp [Cond.onTables, Cond.keeps, Cond.steady])) hini)
  obtain ⟨hx, hb, hml, ho, -⟩ := S
  obtain ⟨-, ⟨cellB, hcB, hoB, hclB⟩, hPc⟩ := hp
  intro T hT X
  obtain ⟨v, vm₁, ⟨U', l2, c2, s2⟩, hW₁, X', ⟨g', mk, t, L, e1, e2, hq, h1, hL, h2, h3⟩, st⟩ := vx_callVW X hx (C := C) (hh := hh) (bytes := bytes) (maxL := maxL) (ret := ret) ho hl hin hse hcode hy hK (by rw [hT]; exact hcB) hoB hclB hg (hsize.trans hml.symm) (argsL := As) (rest := rest) (fun sig h => hn.trans (hlen sig h)) hstack hW (by rw [hb]; exact hdg)
    (fun vm₁ hW₁ => ⟨hf.1, hf.2, hPc (T.setVm vm₁) hT hW₁⟩)
  dsimp only [Pt.U, Pt.locs, Pt.cells, Pt.slots] at X' e1 e2 h1 h2 h3 st
  subst h1; subst h2; subst h3
  exact ⟨v, (T.setVm vm₁).calling g' mk (Value.ref b :: As).toArray, t, U', L, hT, X', hL, e1, e2, hq, st⟩
section
variable {y : MethodName} {bytes cc : ByteArray} {maxL nL mc ms n index : Nat} {ret : Option FieldType} {ws : List Cond} {rm : Room} {Pc : Array Value → State → Prop} {Qc : Array Value → State → Outcome → State → Prop} {XC : String → State → State → Prop} {free : Addr → Prop} {Ts : List Cond} {own C : String} {b : Addr} {As rest : List Value} {g : JFrame}
theorem vx_runVX {hh : List (Nat × Nat × Nat × Nat)} (S : CallFix p m c cc nL s args Ts own) (hM : vx_Met l y ws rm Pc Qc XC mc ms free) (cw : vx_CVW R s args own C index y bytes maxL ret hh ws rm mc ms n) (hp : PreV s H C b Pc As)
    (hg : g.method = m) (hn : As.length = n) (hsize : g.locals.size = nL) (hstack : g.stack = As.reverse ++ .ref b :: rest) (hW : 2 * g.monitorRoom + (rest.map fun v => v.category).sum ≤ 8) (hdg : decode cc g.pc = .ok (.invokevirtual index, 3)) (hf : cells + mc ≤ R.cells ∧ slots + ms ≤ R.slots) :
    vx_Run p l e R s m args below meth c H locs cells slots mc ms g rest (Qc (Value.ref b :: As).toArray) XC free := by
  obtain ⟨⟨hrc, hrs, hfr, hlo, hws, hcw⟩, hcode, hini, hy, hlen, hl, hin, hse⟩ := cw
  have hK : vx_Back l R p e below s args y 3 8 (PreOf R mc ms Pc) (PostOf Qc mc ms free) (vx_Post XC mc ms free) := vx_backW (hh := hh) (bytes := bytes) (maxL := maxL) (ret := ret) hM hp.1 hrc hrs hfr hlo hws hcw (fun a' U hW => word_at hW (Or.inl (by first | rfl | simp [Cond.onTables, Cond.keeps, Cond.steady])) hini)
  obtain ⟨hx, hb, hml, ho, -⟩ := S
  obtain ⟨-, ⟨cellB, hcB, hoB, hclB⟩, hPc⟩ := hp
  intro T hT X
  rcases vx_callVX X hx (C := C) (hh := hh) (bytes := bytes) (maxL := maxL) (ret := ret) ho hl hin hse hcode hy hK (by rw [hT]; exact hcB) hoB hclB hg (hsize.trans hml.symm) (argsL := As) (rest := rest) (fun sig h => hn.trans (hlen sig h)) hstack hW (by rw [hb]; exact hdg)
    (fun vm₁ hW₁ => ⟨hf.1, hf.2, hPc (T.setVm vm₁) hT hW₁⟩) with ⟨v, vm₁, ⟨U', l2, c2, s2⟩, hW₁, X', ⟨g', mk, t, L, e1, e2, hq, h1, hL, h2, h3⟩, st⟩ | ⟨q, vm₁, ⟨U', l2, c2, s2⟩, hW₁, X', ⟨g', mk, t, L, E, ce, e1, e2, hq, hce, hcv, hcl, h1, hL, h2, h3⟩, st⟩
  · dsimp only [Pt.U, Pt.locs, Pt.cells, Pt.slots] at X' e1 e2 h1 h2 h3 st
    subst h1; subst h2; subst h3
    exact Or.inl ⟨v, (T.setVm vm₁).calling g' mk (Value.ref b :: As).toArray, t, U', L, hT, X', hL, e1, e2, hq, st⟩
  · dsimp only [Pt.U, Pt.locs, Pt.cells, Pt.slots] at X' e1 e2 h1 h2 h3 st hcl
    subst h1; subst h2; subst h3
    exact Or.inr ⟨q, (T.setVm vm₁).calling g' mk (Value.ref b :: As).toArray, t, U', L, E, ce, hT, X', hL, e1, e2, hq, hce, hcv, vx_cls hW₁ hcl, st⟩
theorem vx_runSX {hh : List (Nat × Nat × Nat × Nat)} (S : CallFix p m c cc nL s args Ts own) (hM : vx_Met l y ws rm Pc Qc XC mc ms free) (cw : vx_CSW R s args own index y bytes maxL ret hh ws rm mc ms n) (hp : PreS s H Pc As)
    (hg : g.method = m) (hn : As.length = n) (hsize : g.locals.size = nL) (hstack : g.stack = As.reverse ++ rest) (hW : 2 * g.monitorRoom + (rest.map fun v => v.category).sum ≤ 8) (hdg : decode cc g.pc = .ok (.invokestatic index, 3)) (hf : cells + mc ≤ R.cells ∧ slots + ms ≤ R.slots) :
    vx_Run p l e R s m args below meth c H locs cells slots mc ms g rest (Qc As.toArray) XC free := by
  obtain ⟨⟨hrc, hrs, hfr, hlo, hws, hcw⟩, hcode, hini, hy, hlen, hl, hstt⟩ := cw
  have hK : vx_Back l R p e below s args y 3 8 (PreOf R mc ms Pc) (PostOf Qc mc ms free) (vx_Post XC mc ms free) := vx_backW (hh := hh) (bytes := bytes) (maxL := maxL) (ret := ret) hM hp.1 hrc hrs hfr hlo hws hcw (fun a' U hW => word_at hW (Or.inl (by first | rfl | simp [Cond.onTables, Cond.keeps, Cond.steady])) hini)
  obtain ⟨hx, hb, hml, ho, -⟩ := S
  intro T hT X
  rcases vx_callSX X hx (hh := hh) (bytes := bytes) (maxL := maxL) (ret := ret) ho hl hstt hini hcode hy hK hg (hsize.trans hml.symm) (argsL := As) (rest := rest) (fun sig h => hn.trans (hlen sig h)) hstack hW (by rw [hb]; exact hdg)
    (fun vm₁ hW₁ => ⟨hf.1, hf.2, hp.2 (T.setVm vm₁) hT hW₁⟩) with ⟨v, vm₁, ⟨U', l2, c2, s2⟩, hW₁, X', ⟨g', mk, t, L, e1, e2, hq, h1, hL, h2, h3⟩, st⟩ | ⟨q, vm₁, ⟨U', l2, c2, s2⟩, hW₁, X', ⟨g', mk, t, L, E, ce, e1, e2, hq, hce, hcv, hcl, h1, hL, h2, h3⟩, st⟩
  · dsimp only [Pt.U, Pt.locs, Pt.cells, Pt.slots] at X' e1 e2 h1 h2 h3 st
    subst h1; subst h2; subst h3
    exact Or.inl ⟨v, (T.setVm vm₁).calling g' mk As.toArray, t, U', L, hT, X', hL, e1, e2, hq, st⟩
  · dsimp only [Pt.U, Pt.locs, Pt.cells, Pt.slots] at X' e1 e2 h1 h2 h3 st hcl
    subst h1; subst h2; subst h3
    exact Or.inr ⟨q, (T.setVm vm₁).calling g' mk As.toArray, t, U', L, E, ce, hT, X', hL, e1, e2, hq, hce, hcv, vx_cls hW₁ hcl, st⟩
end
end VXH
theorem vx_ofWH {l : Launch} {y : MethodName} {ws ws' : List Cond} {rm : Room} {Pc : Array Value → State → Prop} {Qc : Array Value → State → Outcome → State → Prop} {XC : String → State → State → Prop} {mc ms : Nat} {free : Addr → Prop} {cc : ByteArray} {maxL : Nat} {ret : Option FieldType} {hh : List (Nat × Nat × Nat × Nat)}
    (hy : plainName y.cls = true) (hw : ws = Cond.codeWith y cc maxL ret hh :: ws')
    (body : ∀ p e s m args below meth c s₁, BodyLoose p l y (headSpec ws rm) cc maxL ret e s m args below meth c s₁ → c.maxLocals = maxL → Pc args s →
      W p l e (headSpec ws rm).room s m args below meth c s.heap [] 0 0 (vx_MQ below Qc XC args s mc ms free) (entryFrame m args maxL)) : vx_Met l y ws rm Pc Qc XC mc ms free := by
  refine MetFree.of_bodyS (code := cc) (maxLocals := maxL) (ret := ret) hy ?_ ?_
  · intro args s m h hn
    obtain ⟨m9, meth, c, hn9, h1, h2, h3, h4, -, h5, h6, -⟩ := Cond.codeWith_spec (atoms_spec (ws := ws) h _ (by rw [hw]; exact List.mem_cons_self))
    cases hn.symm.trans hn9
    exact ⟨meth, c, h1, h2, h3, h4, h5, h6⟩
  · intro p e s m args below meth c s₁ B hml hP _
    have hh0 : s₁.heap = s.heap := by rw [B.state]; rfl
    obtain ⟨t, a1, o, b1, b2, b3⟩ := body p e s m args below meth c s₁ B hml hP s₁ hh0 (Stand.of_body B)
    exact ⟨t, o, a1, b1, b2, b3⟩
/-! ===== END ===== -/
end
section
def RX0 : String := "Palmward$Area"
def TX0 : u_T := fun k => match k with
  | 0 => ("Palmward$Area", "left", "I", false)
  | 1 => ("Palmward$Area", "right", "I", false)
  | 2 => ("Palmward$Area", "top", "I", false)
  | 3 => ("Palmward$Area", "bottom", "I", false)
  | _ => ("Palmward$Area", "counts", "[I", true)
def tyX0 : Nat → FieldType := fun k => match k with
  | 0 => .int
  | 1 => .int
  | 2 => .int
  | 3 => .int
  | _ => .array .int
theorem nmX0 : ∀ a, a < 5 → ∀ b, b < 5 → a ≠ b → (TX0 a).2.1 ≠ (TX0 b).2.1 := by decide +kernel
theorem tyX0_ok : ∀ k, k < 5 → parseFieldDescriptor (TX0 k).2.2.1 = some (tyX0 k) := by decide +kernel
abbrev cX0_init : ByteArray := prog_2_method_1_code
def yX0_init : MethodName := ⟨RX0, "<init>", "()V"⟩
abbrev cX0_holds : ByteArray := prog_2_method_2_code
def yX0_holds : MethodName := ⟨RX0, "holds", "(II)Z"⟩
def RX1 : String := "Palmward$Areas"
def TX1 : u_T := fun k => match k with
  | 0 => ("Palmward$Areas", "all", "[LPalmward$Area;", true)
  | _ => ("Palmward$Areas", "told", "I", false)
def tyX1 : Nat → FieldType := fun k => match k with
  | 0 => .array (.object "Palmward$Area")
  | _ => .int
theorem nmX1 : ∀ a, a < 2 → ∀ b, b < 2 → a ≠ b → (TX1 a).2.1 ≠ (TX1 b).2.1 := by decide +kernel
theorem tyX1_ok : ∀ k, k < 2 → parseFieldDescriptor (TX1 k).2.2.1 = some (tyX1 k) := by decide +kernel
abbrev cX1_init : ByteArray := prog_3_method_1_code
def yX1_init : MethodName := ⟨RX1, "<init>", "()V"⟩
abbrev cX1_tell : ByteArray := prog_3_method_2_code
def yX1_tell : MethodName := ⟨RX1, "tell", "(IIII)I"⟩
abbrev cX1_latestAt : ByteArray := prog_3_method_3_code
def yX1_latestAt : MethodName := ⟨RX1, "latestAt", "(I)I"⟩
abbrev cX1_countOf : ByteArray := prog_3_method_4_code
def yX1_countOf : MethodName := ⟨RX1, "countOf", "(II)I"⟩
abbrev cX1_count : ByteArray := prog_3_method_5_code
def yX1_count : MethodName := ⟨RX1, "count", "(III)V"⟩
def RX2 : String := "Palmward$Contact"
def TX2 : u_T := fun k => match k with
  | 0 => ("Palmward$Contact", "isThere", "Z", false)
  | 1 => ("Palmward$Contact", "isMatched", "Z", false)
  | 2 => ("Palmward$Contact", "latestX", "I", false)
  | 3 => ("Palmward$Contact", "latestY", "I", false)
  | 4 => ("Palmward$Contact", "frames", "I", false)
  | 5 => ("Palmward$Contact", "misses", "I", false)
  | 6 => ("Palmward$Contact", "claim", "I", false)
  | 7 => ("Palmward$Contact", "area", "I", false)
  | 8 => ("Palmward$Contact", "x", "F", false)
  | 9 => ("Palmward$Contact", "y", "F", false)
  | 10 => ("Palmward$Contact", "dx", "F", false)
  | 11 => ("Palmward$Contact", "dy", "F", false)
  | 12 => ("Palmward$Contact", "moved", "F", false)
  | 13 => ("Palmward$Contact", "firstX", "F", false)
  | 14 => ("Palmward$Contact", "firstY", "F", false)
  | _ => ("Palmward$Contact", "firstApart", "[F", true)
def tyX2 : Nat → FieldType := fun k => match k with
  | 0 => .boolean
  | 1 => .boolean
  | 2 => .int
  | 3 => .int
  | 4 => .int
  | 5 => .int
  | 6 => .int
  | 7 => .int
  | 8 => .float
  | 9 => .float
  | 10 => .float
  | 11 => .float
  | 12 => .float
  | 13 => .float
  | 14 => .float
  | _ => .array .float
theorem nmX2 : ∀ a, a < 16 → ∀ b, b < 16 → a ≠ b → (TX2 a).2.1 ≠ (TX2 b).2.1 := by decide +kernel
theorem tyX2_ok : ∀ k, k < 16 → parseFieldDescriptor (TX2 k).2.2.1 = some (tyX2 k) := by decide +kernel
abbrev cX2_init : ByteArray := prog_4_method_1_code
def yX2_init : MethodName := ⟨RX2, "<init>", "()V"⟩
abbrev cX2_beginAt : ByteArray := prog_4_method_2_code
def yX2_beginAt : MethodName := ⟨RX2, "beginAt", "(III)V"⟩
abbrev cX2_moveTo : ByteArray := prog_4_method_3_code
def yX2_moveTo : MethodName := ⟨RX2, "moveTo", "(III)V"⟩
abbrev cX2_miss : ByteArray := prog_4_method_4_code
def yX2_miss : MethodName := ⟨RX2, "miss", "()V"⟩
abbrev cX2_distanceTo : ByteArray := prog_4_method_5_code
def yX2_distanceTo : MethodName := ⟨RX2, "distanceTo", "(LPalmward$Contact;)F"⟩
abbrev cX2_guessAt : ByteArray := prog_4_method_6_code
def yX2_guessAt : MethodName := ⟨RX2, "guessAt", "(IZ)F"⟩
abbrev cX2_canClaim : ByteArray := prog_4_method_7_code
def yX2_canClaim : MethodName := ⟨RX2, "canClaim", "()Z"⟩
def RX3 : String := "Palmward$Hand"
def TX3 : u_T := fun k => match k with
  | 0 => ("Palmward$Hand", "contacts", "[LPalmward$Contact;", true)
  | 1 => ("Palmward$Hand", "areas", "LPalmward$Areas;", true)
  | 2 => ("Palmward$Hand", "began", "I", false)
  | 3 => ("Palmward$Hand", "lifted", "I", false)
  | _ => ("Palmward$Hand", "cancelled", "I", false)
def tyX3 : Nat → FieldType := fun k => match k with
  | 0 => .array (.object "Palmward$Contact")
  | 1 => .object "Palmward$Areas"
  | 2 => .int
  | 3 => .int
  | _ => .int
theorem nmX3 : ∀ a, a < 5 → ∀ b, b < 5 → a ≠ b → (TX3 a).2.1 ≠ (TX3 b).2.1 := by decide +kernel
theorem tyX3_ok : ∀ k, k < 5 → parseFieldDescriptor (TX3 k).2.2.1 = some (tyX3 k) := by decide +kernel
abbrev cX3_init : ByteArray := prog_5_method_1_code
def yX3_init : MethodName := ⟨RX3, "<init>", "(LPalmward$Areas;)V"⟩
abbrev cX3_has : ByteArray := prog_5_method_2_code
def yX3_has : MethodName := ⟨RX3, "has", "(I)Z"⟩
abbrev cX3_countContacts : ByteArray := prog_5_method_3_code
def yX3_countContacts : MethodName := ⟨RX3, "countContacts", "()I"⟩
abbrev cX3_contactsIn : ByteArray := prog_5_method_4_code
def yX3_contactsIn : MethodName := ⟨RX3, "contactsIn", "(I)I"⟩
abbrev cX3_take : ByteArray := prog_5_method_5_code
def yX3_take : MethodName := ⟨RX3, "take", "(LPalmward$Picture;LPalmward$Pairing;I)V"⟩
abbrev cX3_cancelAll : ByteArray := prog_5_method_6_code
def yX3_cancelAll : MethodName := ⟨RX3, "cancelAll", "()V"⟩
abbrev cX3_cancel : ByteArray := prog_5_method_7_code
def yX3_cancel : MethodName := ⟨RX3, "cancel", "(LPalmward$Contact;)V"⟩
abbrev cX3_followMatched : ByteArray := prog_5_method_8_code
def yX3_followMatched : MethodName := ⟨RX3, "followMatched", "(LPalmward$Picture;LPalmward$Pairing;I)V"⟩
abbrev cX3_missUnmatched : ByteArray := prog_5_method_9_code
def yX3_missUnmatched : MethodName := ⟨RX3, "missUnmatched", "(LPalmward$Pairing;)V"⟩
abbrev cX3_lift : ByteArray := prog_5_method_10_code
def yX3_lift : MethodName := ⟨RX3, "lift", "(LPalmward$Contact;)V"⟩
abbrev cX3_beginUnmatched : ByteArray := prog_5_method_11_code
def yX3_beginUnmatched : MethodName := ⟨RX3, "beginUnmatched", "(LPalmward$Picture;LPalmward$Pairing;)V"⟩
abbrev cX3_freeName : ByteArray := prog_5_method_12_code
def yX3_freeName : MethodName := ⟨RX3, "freeName", "()I"⟩
abbrev cX3_isMatchedBy : ByteArray := prog_5_method_13_code
def yX3_isMatchedBy : MethodName := ⟨RX3, "isMatchedBy", "(LPalmward$Pairing;I)Z"⟩
abbrev cX3_rememberApart : ByteArray := prog_5_method_14_code
def yX3_rememberApart : MethodName := ⟨RX3, "rememberApart", "(I)V"⟩
abbrev cX3_claimPinches : ByteArray := prog_5_method_15_code
def yX3_claimPinches : MethodName := ⟨RX3, "claimPinches", "()V"⟩
abbrev cX3_isPinch : ByteArray := prog_5_method_16_code
def yX3_isPinch : MethodName := ⟨RX3, "isPinch", "(II)Z"⟩
abbrev cX3_claimAlone : ByteArray := prog_5_method_17_code
def yX3_claimAlone : MethodName := ⟨RX3, "claimAlone", "()V"⟩
abbrev cX3_claim : ByteArray := prog_5_method_18_code
def yX3_claim : MethodName := ⟨RX3, "claim", "(LPalmward$Contact;I)V"⟩
def RX4 : String := "Palmward$Pairing"
def TX4 : u_T := fun k => match k with
  | 0 => ("Palmward$Pairing", "least", "[J", true)
  | 1 => ("Palmward$Pairing", "weights", "[J", true)
  | _ => ("Palmward$Pairing", "best", "J", false)
def tyX4 : Nat → FieldType := fun k => match k with
  | 0 => .array .long
  | 1 => .array .long
  | _ => .long
theorem nmX4 : ∀ a, a < 3 → ∀ b, b < 3 → a ≠ b → (TX4 a).2.1 ≠ (TX4 b).2.1 := by decide +kernel
theorem tyX4_ok : ∀ k, k < 3 → parseFieldDescriptor (TX4 k).2.2.1 = some (tyX4 k) := by decide +kernel
abbrev cX4_init : ByteArray := prog_6_method_1_code
def yX4_init : MethodName := ⟨RX4, "<init>", "()V"⟩
abbrev cX4_pair : ByteArray := prog_6_method_2_code
def yX4_pair : MethodName := ⟨RX4, "pair", "(LPalmward$Picture;[LPalmward$Contact;)V"⟩
abbrev cX4_peakOf : ByteArray := prog_6_method_3_code
def yX4_peakOf : MethodName := ⟨RX4, "peakOf", "(I)I"⟩
abbrev cX4_digitOf : ByteArray := prog_6_method_4_code
def yX4_digitOf : MethodName := ⟨RX4, "digitOf", "(I)I"⟩
abbrev cX4_weightOf : ByteArray := prog_6_method_5_code
def yX4_weightOf : MethodName := ⟨RX4, "weightOf", "(LPalmward$Contact;ILPalmward$Picture;I)J"⟩
abbrev cX4_offerPeak : ByteArray := prog_6_method_6_code
def yX4_offerPeak : MethodName := ⟨RX4, "offerPeak", "()V"⟩
abbrev cX4_weightOfRest : ByteArray := prog_6_method_7_code
def yX4_weightOfRest : MethodName := ⟨RX4, "weightOfRest", "(I)J"⟩
def RX5 : String := "Palmward$Picture"
def TX5 : u_T := fun k => match k with
  | 0 => ("Palmward$Picture", "signals", "[I", true)
  | 1 => ("Palmward$Picture", "regions", "[I", true)
  | 2 => ("Palmward$Picture", "peakCells", "[I", true)
  | 3 => ("Palmward$Picture", "peakXs", "[I", true)
  | 4 => ("Palmward$Picture", "peakYs", "[I", true)
  | 5 => ("Palmward$Picture", "chain", "[I", true)
  | 6 => ("Palmward$Picture", "peaks", "I", false)
  | _ => ("Palmward$Picture", "hum", "I", false)
def tyX5 : Nat → FieldType := fun k => match k with
  | 0 => .array .int
  | 1 => .array .int
  | 2 => .array .int
  | 3 => .array .int
  | 4 => .array .int
  | 5 => .array .int
  | 6 => .int
  | _ => .int
theorem nmX5 : ∀ a, a < 8 → ∀ b, b < 8 → a ≠ b → (TX5 a).2.1 ≠ (TX5 b).2.1 := by decide +kernel
theorem tyX5_ok : ∀ k, k < 8 → parseFieldDescriptor (TX5 k).2.2.1 = some (tyX5 k) := by decide +kernel
abbrev cX5_init : ByteArray := prog_7_method_1_code
def yX5_init : MethodName := ⟨RX5, "<init>", "()V"⟩
abbrev cX5_look : ByteArray := prog_7_method_2_code
def yX5_look : MethodName := ⟨RX5, "look", "(LPalmward$Sheet;)V"⟩
abbrev cX5_isTouched : ByteArray := prog_7_method_3_code
def yX5_isTouched : MethodName := ⟨RX5, "isTouched", "(I)Z"⟩
abbrev cX5_measureRegion : ByteArray := prog_7_method_4_code
def yX5_measureRegion : MethodName := ⟨RX5, "measureRegion", "(I)V"⟩
abbrev cX5_link : ByteArray := prog_7_method_5_code
def yX5_link : MethodName := ⟨RX5, "link", "(III)I"⟩
abbrev cX5_findPeaks : ByteArray := prog_7_method_6_code
def yX5_findPeaks : MethodName := ⟨RX5, "findPeaks", "()V"⟩
abbrev cX5_isSummit : ByteArray := prog_7_method_7_code
def yX5_isSummit : MethodName := ⟨RX5, "isSummit", "(I)Z"⟩
abbrev cX5_placeOf : ByteArray := prog_7_method_8_code
def yX5_placeOf : MethodName := ⟨RX5, "placeOf", "(IZ)I"⟩
abbrev cX5_humNow : ByteArray := prog_7_method_9_code
def yX5_humNow : MethodName := ⟨RX5, "humNow", "()I"⟩
abbrev cX5_isCalm : ByteArray := prog_7_method_10_code
def yX5_isCalm : MethodName := ⟨RX5, "isCalm", "()Z"⟩
abbrev cX5_sizeOf : ByteArray := prog_7_method_11_code
def yX5_sizeOf : MethodName := ⟨RX5, "sizeOf", "(I)I"⟩
abbrev cX5_isPalm : ByteArray := prog_7_method_12_code
def yX5_isPalm : MethodName := ⟨RX5, "isPalm", "(I)Z"⟩
abbrev cX5_countPalms : ByteArray := prog_7_method_13_code
def yX5_countPalms : MethodName := ⟨RX5, "countPalms", "()I"⟩
abbrev cX5_peakAt : ByteArray := prog_7_method_14_code
def yX5_peakAt : MethodName := ⟨RX5, "peakAt", "(I)I"⟩
abbrev cX5_signalOfRow : ByteArray := prog_7_method_15_code
def yX5_signalOfRow : MethodName := ⟨RX5, "signalOfRow", "(I)I"⟩
abbrev cX5_touchedInRow : ByteArray := prog_7_method_16_code
def yX5_touchedInRow : MethodName := ⟨RX5, "touchedInRow", "(I)I"⟩
abbrev cX5_peaksInRow : ByteArray := prog_7_method_17_code
def yX5_peaksInRow : MethodName := ⟨RX5, "peaksInRow", "(I)I"⟩
def RX6 : String := "Palmward$Sheet"
def TX6 : u_T := fun k => match k with
  | 0 => ("Palmward$Sheet", "waits", "[I", true)
  | 1 => ("Palmward$Sheet", "bases", "[I", true)
  | _ => ("Palmward$Sheet", "heat", "I", false)
def tyX6 : Nat → FieldType := fun k => match k with
  | 0 => .array .int
  | 1 => .array .int
  | _ => .int
theorem nmX6 : ∀ a, a < 3 → ∀ b, b < 3 → a ≠ b → (TX6 a).2.1 ≠ (TX6 b).2.1 := by decide +kernel
theorem tyX6_ok : ∀ k, k < 3 → parseFieldDescriptor (TX6 k).2.2.1 = some (tyX6 k) := by decide +kernel
abbrev cX6_init : ByteArray := prog_8_method_1_code
def yX6_init : MethodName := ⟨RX6, "<init>", "()V"⟩
abbrev cX6_chargeOf : ByteArray := prog_8_method_2_code
def yX6_chargeOf : MethodName := ⟨RX6, "chargeOf", "(I)I"⟩
abbrev cX6_signalOf : ByteArray := prog_8_method_3_code
def yX6_signalOf : MethodName := ⟨RX6, "signalOf", "(I)I"⟩
abbrev cX6_addPress : ByteArray := prog_8_method_4_code
def yX6_addPress : MethodName := ⟨RX6, "addPress", "(III)V"⟩
abbrev cX6_addNoise : ByteArray := prog_8_method_5_code
def yX6_addNoise : MethodName := ⟨RX6, "addNoise", "(II)V"⟩
abbrev cX6_settle : ByteArray := prog_8_method_6_code
def yX6_settle : MethodName := ⟨RX6, "settle", "(LPalmward$Picture;)V"⟩
abbrev cX6_stepFor : ByteArray := prog_8_method_7_code
def yX6_stepFor : MethodName := ⟨RX6, "stepFor", "(I)I"⟩
abbrev cX6_forgetWaits : ByteArray := prog_8_method_8_code
def yX6_forgetWaits : MethodName := ⟨RX6, "forgetWaits", "()V"⟩
abbrev cX6_baseOnHeat : ByteArray := prog_8_method_9_code
def yX6_baseOnHeat : MethodName := ⟨RX6, "baseOnHeat", "()V"⟩
abbrev cX6_copyFrom : ByteArray := prog_8_method_10_code
def yX6_copyFrom : MethodName := ⟨RX6, "copyFrom", "(LPalmward$Sheet;)V"⟩
def RX7 : String := "Palmward"
def TX7 : u_T := fun k => match k with
  | 0 => ("Palmward", "sheet", "LPalmward$Sheet;", true)
  | 1 => ("Palmward", "waiting", "LPalmward$Picture;", true)
  | 2 => ("Palmward", "trialSheet", "LPalmward$Sheet;", true)
  | 3 => ("Palmward", "trialPicture", "LPalmward$Picture;", true)
  | 4 => ("Palmward", "pairing", "LPalmward$Pairing;", true)
  | 5 => ("Palmward", "areas", "LPalmward$Areas;", true)
  | 6 => ("Palmward", "hand", "LPalmward$Hand;", true)
  | 7 => ("Palmward", "dial", "I", false)
  | 8 => ("Palmward", "limit", "I", false)
  | 9 => ("Palmward", "taken", "I", false)
  | _ => ("Palmward", "thrown", "I", false)
def tyX7 : Nat → FieldType := fun k => match k with
  | 0 => .object "Palmward$Sheet"
  | 1 => .object "Palmward$Picture"
  | 2 => .object "Palmward$Sheet"
  | 3 => .object "Palmward$Picture"
  | 4 => .object "Palmward$Pairing"
  | 5 => .object "Palmward$Areas"
  | 6 => .object "Palmward$Hand"
  | 7 => .int
  | 8 => .int
  | 9 => .int
  | _ => .int
theorem nmX7 : ∀ a, a < 11 → ∀ b, b < 11 → a ≠ b → (TX7 a).2.1 ≠ (TX7 b).2.1 := by decide +kernel
theorem tyX7_ok : ∀ k, k < 11 → parseFieldDescriptor (TX7 k).2.2.1 = some (tyX7 k) := by decide +kernel
abbrev cX7_init : ByteArray := prog_1_method_1_code
def yX7_init : MethodName := ⟨RX7, "<init>", "()V"⟩
abbrev cX7_area : ByteArray := prog_1_method_2_code
def yX7_area : MethodName := ⟨RX7, "area", "(IIII)I"⟩
abbrev cX7_dial : ByteArray := prog_1_method_3_code
def yX7_dial : MethodName := ⟨RX7, "dial", "(I)I"⟩
abbrev cX7_limit : ByteArray := prog_1_method_4_code
def yX7_limit : MethodName := ⟨RX7, "limit", "(I)I"⟩
abbrev cX7_heat : ByteArray := prog_1_method_5_code
def yX7_heat : MethodName := ⟨RX7, "heat", "(I)I"⟩
abbrev cX7_press : ByteArray := prog_1_method_6_code
def yX7_press : MethodName := ⟨RX7, "press", "(III)I"⟩
abbrev cX7_noise : ByteArray := prog_1_method_7_code
def yX7_noise : MethodName := ⟨RX7, "noise", "(II)I"⟩
abbrev cX7_frame : ByteArray := prog_1_method_8_code
def yX7_frame : MethodName := ⟨RX7, "frame", "()I"⟩
abbrev cX7_wipe : ByteArray := prog_1_method_9_code
def yX7_wipe : MethodName := ⟨RX7, "wipe", "()I"⟩
abbrev cX7_ofCell : ByteArray := prog_1_method_10_code
def yX7_ofCell : MethodName := ⟨RX7, "ofCell", "(III)I"⟩
abbrev cX7_ofPeak : ByteArray := prog_1_method_11_code
def yX7_ofPeak : MethodName := ⟨RX7, "ofPeak", "(II)I"⟩
abbrev cX7_ofContact : ByteArray := prog_1_method_12_code
def yX7_ofContact : MethodName := ⟨RX7, "ofContact", "(II)I"⟩
abbrev cX7_where : ByteArray := prog_1_method_13_code
def yX7_where : MethodName := ⟨RX7, "where", "(II)D"⟩
abbrev cX7_apart : ByteArray := prog_1_method_14_code
def yX7_apart : MethodName := ⟨RX7, "apart", "(II)D"⟩
abbrev cX7_ofRow : ByteArray := prog_1_method_15_code
def yX7_ofRow : MethodName := ⟨RX7, "ofRow", "(II)I"⟩
abbrev cX7_ofArea : ByteArray := prog_1_method_16_code
def yX7_ofArea : MethodName := ⟨RX7, "ofArea", "(II)I"⟩
abbrev cX7_many : ByteArray := prog_1_method_17_code
def yX7_many : MethodName := ⟨RX7, "many", "(I)I"⟩
abbrev cX7_guess : ByteArray := prog_1_method_18_code
def yX7_guess : MethodName := ⟨RX7, "guess", "(IIZ)D"⟩
abbrev cX7_wouldMatch : ByteArray := prog_1_method_19_code
def yX7_wouldMatch : MethodName := ⟨RX7, "wouldMatch", "(I)I"⟩
abbrev cX7_calmIn : ByteArray := prog_1_method_20_code
def yX7_calmIn : MethodName := ⟨RX7, "calmIn", "()I"⟩
abbrev cX7_keepBy : ByteArray := prog_1_method_21_code
def yX7_keepBy : MethodName := ⟨RX7, "keepBy", "(II)I"⟩
abbrev cX7_digest : ByteArray := prog_1_method_22_code
def yX7_digest : MethodName := ⟨RX7, "digest", "()J"⟩
abbrev cX7_checkCell : ByteArray := prog_1_method_23_code
def yX7_checkCell : MethodName := ⟨RX7, "checkCell", "(II)V"⟩
abbrev cX7_checkRow : ByteArray := prog_1_method_24_code
def yX7_checkRow : MethodName := ⟨RX7, "checkRow", "(I)V"⟩
abbrev cX7_checkStrength : ByteArray := prog_1_method_25_code
def yX7_checkStrength : MethodName := ⟨RX7, "checkStrength", "(I)V"⟩
abbrev cX7_checkWhat : ByteArray := prog_1_method_26_code
def yX7_checkWhat : MethodName := ⟨RX7, "checkWhat", "(II)V"⟩
abbrev cX7_checkName : ByteArray := prog_1_method_27_code
def yX7_checkName : MethodName := ⟨RX7, "checkName", "(I)V"⟩
abbrev cX7_cellAnswer : ByteArray := prog_1_method_28_code
def yX7_cellAnswer : MethodName := ⟨RX7, "cellAnswer", "(II)I"⟩
abbrev cX7_peakAnswer : ByteArray := prog_1_method_29_code
def yX7_peakAnswer : MethodName := ⟨RX7, "peakAnswer", "(II)I"⟩
abbrev cX7_contactAnswer : ByteArray := prog_1_method_30_code
def yX7_contactAnswer : MethodName := ⟨RX7, "contactAnswer", "(LPalmward$Contact;I)I"⟩
abbrev cX7_whereAnswer : ByteArray := prog_1_method_31_code
def yX7_whereAnswer : MethodName := ⟨RX7, "whereAnswer", "(LPalmward$Contact;I)D"⟩
abbrev cX7_rowAnswer : ByteArray := prog_1_method_32_code
def yX7_rowAnswer : MethodName := ⟨RX7, "rowAnswer", "(II)I"⟩
abbrev cX7_areaAnswer : ByteArray := prog_1_method_33_code
def yX7_areaAnswer : MethodName := ⟨RX7, "areaAnswer", "(II)I"⟩
abbrev cX7_manyAnswer : ByteArray := prog_1_method_34_code
def yX7_manyAnswer : MethodName := ⟨RX7, "manyAnswer", "(I)I"⟩
abbrev cX7_matchIn : ByteArray := prog_1_method_35_code
def yX7_matchIn : MethodName := ⟨RX7, "matchIn", "(LPalmward$Picture;I)I"⟩
abbrev cX7_wouldKeep : ByteArray := prog_1_method_36_code
def yX7_wouldKeep : MethodName := ⟨RX7, "wouldKeep", "(III)Z"⟩
abbrev cX7_mixed : ByteArray := prog_1_method_37_code
def yX7_mixed : MethodName := ⟨RX7, "mixed", "(JJ)J"⟩
abbrev cX7_mixedContact : ByteArray := prog_1_method_38_code
def yX7_mixedContact : MethodName := ⟨RX7, "mixedContact", "(JI)J"⟩
abbrev cX7_sixteenths : ByteArray := prog_1_method_39_code
def yX7_sixteenths : MethodName := ⟨RX7, "sixteenths", "(D)J"⟩
abbrev cX7_withoutSign : ByteArray := prog_1_method_40_code
def yX7_withoutSign : MethodName := ⟨RX7, "withoutSign", "(F)F"⟩
def RX8 : String := "PalmwardModel$Area"
def TX8 : u_T := fun k => match k with
  | 0 => ("PalmwardModel$Area", "left", "I", true)
  | 1 => ("PalmwardModel$Area", "right", "I", true)
  | 2 => ("PalmwardModel$Area", "top", "I", true)
  | 3 => ("PalmwardModel$Area", "bottom", "I", true)
  | _ => ("PalmwardModel$Area", "counts", "[I", true)
def tyX8 : Nat → FieldType := fun k => match k with
  | 0 => .int
  | 1 => .int
  | 2 => .int
  | 3 => .int
  | _ => .array .int
theorem nmX8 : ∀ a, a < 5 → ∀ b, b < 5 → a ≠ b → (TX8 a).2.1 ≠ (TX8 b).2.1 := by decide +kernel
theorem tyX8_ok : ∀ k, k < 5 → parseFieldDescriptor (TX8 k).2.2.1 = some (tyX8 k) := by decide +kernel
abbrev cX8_init : ByteArray := prog_11_method_1_code
def yX8_init : MethodName := ⟨RX8, "<init>", "(IIII)V"⟩
def RX9 : String := "PalmwardModel$Contact"
def TX9 : u_T := fun k => match k with
  | 0 => ("PalmwardModel$Contact", "firstX", "F", true)
  | 1 => ("PalmwardModel$Contact", "firstY", "F", true)
  | 2 => ("PalmwardModel$Contact", "area", "I", true)
  | 3 => ("PalmwardModel$Contact", "apart", "[F", true)
  | 4 => ("PalmwardModel$Contact", "x", "F", false)
  | 5 => ("PalmwardModel$Contact", "y", "F", false)
  | 6 => ("PalmwardModel$Contact", "dx", "F", false)
  | 7 => ("PalmwardModel$Contact", "dy", "F", false)
  | 8 => ("PalmwardModel$Contact", "moved", "F", false)
  | 9 => ("PalmwardModel$Contact", "lastX", "I", false)
  | 10 => ("PalmwardModel$Contact", "lastY", "I", false)
  | 11 => ("PalmwardModel$Contact", "frames", "I", false)
  | 12 => ("PalmwardModel$Contact", "misses", "I", false)
  | 13 => ("PalmwardModel$Contact", "claims", "I", false)
  | _ => ("PalmwardModel$Contact", "isMatched", "Z", false)
def tyX9 : Nat → FieldType := fun k => match k with
  | 0 => .float
  | 1 => .float
  | 2 => .int
  | 3 => .array .float
  | 4 => .float
  | 5 => .float
  | 6 => .float
  | 7 => .float
  | 8 => .float
  | 9 => .int
  | 10 => .int
  | 11 => .int
  | 12 => .int
  | 13 => .int
  | _ => .boolean
theorem nmX9 : ∀ a, a < 15 → ∀ b, b < 15 → a ≠ b → (TX9 a).2.1 ≠ (TX9 b).2.1 := by decide +kernel
theorem tyX9_ok : ∀ k, k < 15 → parseFieldDescriptor (TX9 k).2.2.1 = some (tyX9 k) := by decide +kernel
abbrev cX9_init : ByteArray := prog_12_method_1_code
def yX9_init : MethodName := ⟨RX9, "<init>", "(III)V"⟩
abbrev cX9_to : ByteArray := prog_12_method_2_code
def yX9_to : MethodName := ⟨RX9, "to", "(LPalmwardModel$Contact;)F"⟩
abbrev cX9_go : ByteArray := prog_12_method_3_code
def yX9_go : MethodName := ⟨RX9, "go", "(III)V"⟩
abbrev cX9_far : ByteArray := prog_12_method_4_code
def yX9_far : MethodName := ⟨RX9, "far", "(II)I"⟩
def RX10 : String := "PalmwardModel$Match"
def TX10 : u_T := fun k => match k with
  | 0 => ("PalmwardModel$Match", "view", "LPalmwardModel$View;", true)
  | 1 => ("PalmwardModel$Match", "xs", "[I", true)
  | 2 => ("PalmwardModel$Match", "ys", "[I", true)
  | 3 => ("PalmwardModel$Match", "now", "[I", true)
  | 4 => ("PalmwardModel$Match", "most", "I", false)
  | 5 => ("PalmwardModel$Match", "least", "I", false)
  | 6 => ("PalmwardModel$Match", "best", "[I", false)
  | _ => ("PalmwardModel$Match", "this$0", "LPalmwardModel;", true)
def tyX10 : Nat → FieldType := fun k => match k with
  | 0 => .object "PalmwardModel$View"
  | 1 => .array .int
  | 2 => .array .int
  | 3 => .array .int
  | 4 => .int
  | 5 => .int
  | 6 => .array .int
  | _ => .object "PalmwardModel"
theorem nmX10 : ∀ a, a < 8 → ∀ b, b < 8 → a ≠ b → (TX10 a).2.1 ≠ (TX10 b).2.1 := by decide +kernel
theorem tyX10_ok : ∀ k, k < 8 → parseFieldDescriptor (TX10 k).2.2.1 = some (tyX10 k) := by decide +kernel
abbrev cX10_init : ByteArray := prog_13_method_1_code
def yX10_init : MethodName := ⟨RX10, "<init>", "(LPalmwardModel;LPalmwardModel$View;)V"⟩
abbrev cX10_go : ByteArray := prog_13_method_2_code
def yX10_go : MethodName := ⟨RX10, "go", "(IJII)V"⟩
def RX11 : String := "PalmwardModel$View"
def TX11 : u_T := fun k => match k with
  | 0 => ("PalmwardModel$View", "signals", "[I", true)
  | 1 => ("PalmwardModel$View", "sizes", "[I", true)
  | 2 => ("PalmwardModel$View", "peaks", "[I", true)
  | _ => ("PalmwardModel$View", "many", "I", false)
def tyX11 : Nat → FieldType := fun k => match k with
  | 0 => .array .int
  | 1 => .array .int
  | 2 => .array .int
  | _ => .int
theorem nmX11 : ∀ a, a < 4 → ∀ b, b < 4 → a ≠ b → (TX11 a).2.1 ≠ (TX11 b).2.1 := by decide +kernel
theorem tyX11_ok : ∀ k, k < 4 → parseFieldDescriptor (TX11 k).2.2.1 = some (tyX11 k) := by decide +kernel
abbrev cX11_init : ByteArray := prog_14_method_1_code
def yX11_init : MethodName := ⟨RX11, "<init>", "([I[I)V"⟩
abbrev cX11_isTouched : ByteArray := prog_14_method_2_code
def yX11_isTouched : MethodName := ⟨RX11, "isTouched", "(I)Z"⟩
abbrev cX11_isPalm : ByteArray := prog_14_method_3_code
def yX11_isPalm : MethodName := ⟨RX11, "isPalm", "(I)Z"⟩
abbrev cX11_region : ByteArray := prog_14_method_4_code
def yX11_region : MethodName := ⟨RX11, "region", "(I[Z[I)V"⟩
abbrev cX11_spread : ByteArray := prog_14_method_5_code
def yX11_spread : MethodName := ⟨RX11, "spread", "(II[Z[II)I"⟩
abbrev cX11_isPeak : ByteArray := prog_14_method_6_code
def yX11_isPeak : MethodName := ⟨RX11, "isPeak", "(I)Z"⟩
abbrev cX11_place : ByteArray := prog_14_method_7_code
def yX11_place : MethodName := ⟨RX11, "place", "(IZ)I"⟩
abbrev cX11_hum : ByteArray := prog_14_method_8_code
def yX11_hum : MethodName := ⟨RX11, "hum", "()I"⟩
abbrev cX11_drift : ByteArray := prog_14_method_9_code
def yX11_drift : MethodName := ⟨RX11, "drift", "(I)I"⟩
def RX12 : String := "PalmwardModel"
def TX12 : u_T := fun k => match k with
  | 0 => ("PalmwardModel", "thrown", "I", false)
  | 1 => ("PalmwardModel", "bases", "[I", true)
  | 2 => ("PalmwardModel", "waits", "[I", true)
  | 3 => ("PalmwardModel", "heat", "I", false)
  | 4 => ("PalmwardModel", "dial", "I", false)
  | 5 => ("PalmwardModel", "limit", "I", false)
  | 6 => ("PalmwardModel", "contacts", "[LPalmwardModel$Contact;", true)
  | 7 => ("PalmwardModel", "areas", "Ljava/util/ArrayList;", true)
  | 8 => ("PalmwardModel", "taken", "I", false)
  | 9 => ("PalmwardModel", "tossed", "I", false)
  | 10 => ("PalmwardModel", "began", "I", false)
  | 11 => ("PalmwardModel", "lifted", "I", false)
  | _ => ("PalmwardModel", "cancelled", "I", false)
def tyX12 : Nat → FieldType := fun k => match k with
  | 0 => .int
  | 1 => .array .int
  | 2 => .array .int
  | 3 => .int
  | 4 => .int
  | 5 => .int
  | 6 => .array (.object "PalmwardModel$Contact")
  | 7 => .object "java/util/ArrayList"
  | 8 => .int
  | 9 => .int
  | 10 => .int
  | 11 => .int
  | _ => .int
theorem nmX12 : ∀ a, a < 13 → ∀ b, b < 13 → a ≠ b → (TX12 a).2.1 ≠ (TX12 b).2.1 := by decide +kernel
theorem tyX12_ok : ∀ k, k < 13 → parseFieldDescriptor (TX12 k).2.2.1 = some (tyX12 k) := by decide +kernel
abbrev cX12_isIn : ByteArray := prog_10_method_1_code
def yX12_isIn : MethodName := ⟨RX12, "isIn", "(III)Z"⟩
abbrev cX12_cell : ByteArray := prog_10_method_2_code
def yX12_cell : MethodName := ⟨RX12, "cell", "(II)I"⟩
abbrev cX12_isGlass : ByteArray := prog_10_method_3_code
def yX12_isGlass : MethodName := ⟨RX12, "isGlass", "(II)Z"⟩
abbrev cX12_init : ByteArray := prog_10_method_4_code
def yX12_init : MethodName := ⟨RX12, "<init>", "()V"⟩
abbrev cX12_thrown : ByteArray := prog_10_method_5_code
def yX12_thrown : MethodName := ⟨RX12, "thrown", "()I"⟩
abbrev cX12_refuse : ByteArray := prog_10_method_6_code
def yX12_refuse : MethodName := ⟨RX12, "refuse", "(ZI)Z"⟩
abbrev cX12_start : ByteArray := prog_10_method_7_code
def yX12_start : MethodName := ⟨RX12, "start", "(ZI)Z"⟩
abbrev cX12_charges : ByteArray := prog_10_method_8_code
def yX12_charges : MethodName := ⟨RX12, "charges", "()[I"⟩
abbrev cX12_view : ByteArray := prog_10_method_9_code
def yX12_view : MethodName := ⟨RX12, "view", "()LPalmwardModel$View;"⟩
abbrev cX12_isNone : ByteArray := prog_10_method_10_code
def yX12_isNone : MethodName := ⟨RX12, "isNone", "(I)Z"⟩
abbrev cX12_contactsNow : ByteArray := prog_10_method_11_code
def yX12_contactsNow : MethodName := ⟨RX12, "contactsNow", "()I"⟩
abbrev cX12_area : ByteArray := prog_10_method_12_code
def yX12_area : MethodName := ⟨RX12, "area", "(IIII)I"⟩
abbrev cX12_dial : ByteArray := prog_10_method_13_code
def yX12_dial : MethodName := ⟨RX12, "dial", "(I)I"⟩
abbrev cX12_limit : ByteArray := prog_10_method_14_code
def yX12_limit : MethodName := ⟨RX12, "limit", "(I)I"⟩
abbrev cX12_heat : ByteArray := prog_10_method_15_code
def yX12_heat : MethodName := ⟨RX12, "heat", "(I)I"⟩
abbrev cX12_pressed : ByteArray := prog_10_method_16_code
def yX12_pressed : MethodName := ⟨RX12, "pressed", "(IIII)V"⟩
abbrev cX12_press : ByteArray := prog_10_method_17_code
def yX12_press : MethodName := ⟨RX12, "press", "(III)I"⟩
abbrev cX12_noise : ByteArray := prog_10_method_18_code
def yX12_noise : MethodName := ⟨RX12, "noise", "(II)I"⟩
abbrev cX12_count : ByteArray := prog_10_method_19_code
def yX12_count : MethodName := ⟨RX12, "count", "(LPalmwardModel$Contact;II)V"⟩
abbrev cX12_cancel : ByteArray := prog_10_method_20_code
def yX12_cancel : MethodName := ⟨RX12, "cancel", "(I)V"⟩
abbrev cX12_miss : ByteArray := prog_10_method_21_code
def yX12_miss : MethodName := ⟨RX12, "miss", "(I)V"⟩
abbrev cX12_areaOf : ByteArray := prog_10_method_22_code
def yX12_areaOf : MethodName := ⟨RX12, "areaOf", "(I)I"⟩
abbrev cX12_begin : ByteArray := prog_10_method_23_code
def yX12_begin : MethodName := ⟨RX12, "begin", "(III)V"⟩
abbrev cX12_mayClaim : ByteArray := prog_10_method_24_code
def yX12_mayClaim : MethodName := ⟨RX12, "mayClaim", "(I)Z"⟩
abbrev cX12_claim : ByteArray := prog_10_method_25_code
def yX12_claim : MethodName := ⟨RX12, "claim", "(II)V"⟩
abbrev cX12_claims : ByteArray := prog_10_method_26_code
def yX12_claims : MethodName := ⟨RX12, "claims", "()V"⟩
abbrev cX12_track : ByteArray := prog_10_method_27_code
def yX12_track : MethodName := ⟨RX12, "track", "(LPalmwardModel$View;)V"⟩
abbrev cX12_clean : ByteArray := prog_10_method_28_code
def yX12_clean : MethodName := ⟨RX12, "clean", "()V"⟩
abbrev cX12_frame : ByteArray := prog_10_method_29_code
def yX12_frame : MethodName := ⟨RX12, "frame", "()I"⟩
abbrev cX12_wipe : ByteArray := prog_10_method_30_code
def yX12_wipe : MethodName := ⟨RX12, "wipe", "()I"⟩
abbrev cX12_ofCellNow : ByteArray := prog_10_method_31_code
def yX12_ofCellNow : MethodName := ⟨RX12, "ofCellNow", "(IILPalmwardModel$View;)I"⟩
abbrev cX12_ofCell : ByteArray := prog_10_method_32_code
def yX12_ofCell : MethodName := ⟨RX12, "ofCell", "(III)I"⟩
abbrev cX12_ofPeakNow : ByteArray := prog_10_method_33_code
def yX12_ofPeakNow : MethodName := ⟨RX12, "ofPeakNow", "(IILPalmwardModel$View;)I"⟩
abbrev cX12_ofPeak : ByteArray := prog_10_method_34_code
def yX12_ofPeak : MethodName := ⟨RX12, "ofPeak", "(II)I"⟩
abbrev cX12_ofContactNow : ByteArray := prog_10_method_35_code
def yX12_ofContactNow : MethodName := ⟨RX12, "ofContactNow", "(LPalmwardModel$Contact;I)I"⟩
abbrev cX12_ofContact : ByteArray := prog_10_method_36_code
def yX12_ofContact : MethodName := ⟨RX12, "ofContact", "(II)I"⟩
abbrev cX12_whereNow : ByteArray := prog_10_method_37_code
def yX12_whereNow : MethodName := ⟨RX12, "whereNow", "(LPalmwardModel$Contact;I)D"⟩
abbrev cX12_where : ByteArray := prog_10_method_38_code
def yX12_where : MethodName := ⟨RX12, "where", "(II)D"⟩
abbrev cX12_apart : ByteArray := prog_10_method_39_code
def yX12_apart : MethodName := ⟨RX12, "apart", "(II)D"⟩
abbrev cX12_ofRowNow : ByteArray := prog_10_method_40_code
def yX12_ofRowNow : MethodName := ⟨RX12, "ofRowNow", "(IILPalmwardModel$View;)I"⟩
abbrev cX12_ofRow : ByteArray := prog_10_method_41_code
def yX12_ofRow : MethodName := ⟨RX12, "ofRow", "(II)I"⟩
abbrev cX12_ofAreaNow : ByteArray := prog_10_method_42_code
def yX12_ofAreaNow : MethodName := ⟨RX12, "ofAreaNow", "(II)I"⟩
abbrev cX12_ofArea : ByteArray := prog_10_method_43_code
def yX12_ofArea : MethodName := ⟨RX12, "ofArea", "(II)I"⟩
abbrev cX12_manyNow : ByteArray := prog_10_method_44_code
def yX12_manyNow : MethodName := ⟨RX12, "manyNow", "(ILPalmwardModel$View;)I"⟩
abbrev cX12_many : ByteArray := prog_10_method_45_code
def yX12_many : MethodName := ⟨RX12, "many", "(I)I"⟩
abbrev cX12_guessNow : ByteArray := prog_10_method_46_code
def yX12_guessNow : MethodName := ⟨RX12, "guessNow", "(LPalmwardModel$Contact;IZ)D"⟩
abbrev cX12_guess : ByteArray := prog_10_method_47_code
def yX12_guess : MethodName := ⟨RX12, "guess", "(IIZ)D"⟩
abbrev cX12_wouldMatchNow : ByteArray := prog_10_method_48_code
def yX12_wouldMatchNow : MethodName := ⟨RX12, "wouldMatchNow", "(ILPalmwardModel$View;)I"⟩
abbrev cX12_wouldMatch : ByteArray := prog_10_method_49_code
def yX12_wouldMatch : MethodName := ⟨RX12, "wouldMatch", "(I)I"⟩
abbrev cX12_calmInNow : ByteArray := prog_10_method_50_code
def yX12_calmInNow : MethodName := ⟨RX12, "calmInNow", "()I"⟩
abbrev cX12_calmIn : ByteArray := prog_10_method_51_code
def yX12_calmIn : MethodName := ⟨RX12, "calmIn", "()I"⟩
abbrev cX12_keepByNow : ByteArray := prog_10_method_52_code
def yX12_keepByNow : MethodName := ⟨RX12, "keepByNow", "(II)I"⟩
abbrev cX12_keepBy : ByteArray := prog_10_method_53_code
def yX12_keepBy : MethodName := ⟨RX12, "keepBy", "(II)I"⟩
abbrev cX12_add : ByteArray := prog_10_method_54_code
def yX12_add : MethodName := ⟨RX12, "add", "(JJ)J"⟩
abbrev cX12_digestContact : ByteArray := prog_10_method_55_code
def yX12_digestContact : MethodName := ⟨RX12, "digestContact", "(JII)J"⟩
abbrev cX12_digest : ByteArray := prog_10_method_56_code
def yX12_digest : MethodName := ⟨RX12, "digest", "()J"⟩
def RJx145de : String := "java/io/Serializable"
def RJx8e188 : String := "java/lang/Cloneable"
def RJxb160c : String := "java/lang/Comparable"
def RJxf58ca : String := "java/lang/Float"
def RJ6 : String := "java/lang/Integer"
abbrev cJ6_compare_7cf53 : ByteArray := prog_23_method_40_code
def yJ6_compare_7cf53 : MethodName := ⟨RJ6, "compare", "(II)I"⟩
abbrev cJ6_signum_0f7a4 : ByteArray := prog_23_method_56_code
def yJ6_signum_0f7a4 : MethodName := ⟨RJ6, "signum", "(I)I"⟩
def RJxab1ab : String := "java/lang/Iterable"
def RJ9 : String := "java/lang/Math"
abbrev cJ9_abs_0f7a4 : ByteArray := prog_25_method_59_code
def yJ9_abs_0f7a4 : MethodName := ⟨RJ9, "abs", "(I)I"⟩
abbrev cJ9_abs_067f4 : ByteArray := prog_25_method_61_code
def yJ9_abs_067f4 : MethodName := ⟨RJ9, "abs", "(J)J"⟩
abbrev cJ9_abs_f6c48 : ByteArray := prog_25_method_63_code
def yJ9_abs_f6c48 : MethodName := ⟨RJ9, "abs", "(F)F"⟩
abbrev cJ9_max_7cf53 : ByteArray := prog_25_method_65_code
def yJ9_max_7cf53 : MethodName := ⟨RJ9, "max", "(II)I"⟩
abbrev cJ9_max_e70c8 : ByteArray := prog_25_method_67_code
def yJ9_max_e70c8 : MethodName := ⟨RJ9, "max", "(FF)F"⟩
abbrev cJ9_min_7cf53 : ByteArray := prog_25_method_69_code
def yJ9_min_7cf53 : MethodName := ⟨RJ9, "min", "(II)I"⟩
abbrev cJ9_min_f86c9 : ByteArray := prog_25_method_70_code
def yJ9_min_f86c9 : MethodName := ⟨RJ9, "min", "(JJ)J"⟩
abbrev cJ9_min_e70c8 : ByteArray := prog_25_method_71_code
def yJ9_min_e70c8 : MethodName := ⟨RJ9, "min", "(FF)F"⟩
def RJxd2413 : String := "java/lang/Number"
def RJ0 : String := "java/lang/String"
def RJ10 : String := "java/lang/System"
def RJxfd54e : String := "java/lang/constant/Constable"
def RJx3cf43 : String := "java/lang/constant/ConstantDesc"
def RJxa1e45 : String := "java/util/AbstractCollection"
abbrev cJxa1e45_init_da8c8 : ByteArray := prog_33_method_1_code
def yJxa1e45_init_da8c8 : MethodName := ⟨RJxa1e45, "<init>", "()V"⟩
def RJxc12de : String := "java/util/AbstractList"
abbrev cJxc12de_init_da8c8 : ByteArray := prog_34_method_1_code
def yJxc12de_init_da8c8 : MethodName := ⟨RJxc12de, "<init>", "()V"⟩
def RJx4a65c : String := "java/util/ArrayList"
def TJx4a65c : u_T := fun k => match k with
  | 0 => ("java/util/AbstractList", "modCount", "I", false)
  | 1 => ("java/util/ArrayList", "elementData", "[Ljava/lang/Object;", false)
  | _ => ("java/util/ArrayList", "size", "I", false)
def tyJx4a65c : Nat → FieldType := fun k => match k with
  | 0 => .int
  | 1 => .array (.object "java/lang/Object")
  | _ => .int
theorem nmJx4a65c : ∀ a, a < 3 → ∀ b, b < 3 → a ≠ b → (TJx4a65c a).2.1 ≠ (TJx4a65c b).2.1 := by decide +kernel
theorem tyJx4a65c_ok : ∀ k, k < 3 → parseFieldDescriptor (TJx4a65c k).2.2.1 = some (tyJx4a65c k) := by decide +kernel
abbrev cJx4a65c_init_da8c8 : ByteArray := prog_35_method_2_code
def yJx4a65c_init_da8c8 : MethodName := ⟨RJx4a65c, "<init>", "()V"⟩
abbrev cJx4a65c_grow_92f84 : ByteArray := prog_35_method_6_code
def yJx4a65c_grow_92f84 : MethodName := ⟨RJx4a65c, "grow", "(I)[Ljava/lang/Object;"⟩
abbrev cJx4a65c_grow_d5877 : ByteArray := prog_35_method_7_code
def yJx4a65c_grow_d5877 : MethodName := ⟨RJx4a65c, "grow", "()[Ljava/lang/Object;"⟩
abbrev cJx4a65c_size_8abf5 : ByteArray := prog_35_method_8_code
def yJx4a65c_size_8abf5 : MethodName := ⟨RJx4a65c, "size", "()I"⟩
abbrev cJx4a65c_elementData_915e3 : ByteArray := prog_35_method_18_code
def yJx4a65c_elementData_915e3 : MethodName := ⟨RJx4a65c, "elementData", "(I)Ljava/lang/Object;"⟩
abbrev cJx4a65c_get_915e3 : ByteArray := prog_35_method_20_code
def yJx4a65c_get_915e3 : MethodName := ⟨RJx4a65c, "get", "(I)Ljava/lang/Object;"⟩
abbrev cJx4a65c_add_72be8 : ByteArray := prog_35_method_24_code
def yJx4a65c_add_72be8 : MethodName := ⟨RJx4a65c, "add", "(Ljava/lang/Object;[Ljava/lang/Object;I)V"⟩
abbrev cJx4a65c_add_9ea2d : ByteArray := prog_35_method_25_code
def yJx4a65c_add_9ea2d : MethodName := ⟨RJx4a65c, "add", "(Ljava/lang/Object;)Z"⟩
def RJ7 : String := "java/util/Arrays"
abbrev cJ7_copyOf_1904c : ByteArray := prog_36_method_119_code
def yJ7_copyOf_1904c : MethodName := ⟨RJ7, "copyOf", "([Ljava/lang/Object;I)[Ljava/lang/Object;"⟩
abbrev cJ7_copyOf_6403c : ByteArray := prog_36_method_120_code
def yJ7_copyOf_6403c : MethodName := ⟨RJ7, "copyOf", "([Ljava/lang/Object;ILjava/lang/Class;)[Ljava/lang/Object;"⟩
def RJx5ef63 : String := "java/util/Collection"
def RJxbd725 : String := "java/util/List"
def RJ15 : String := "java/util/Objects"
abbrev cJ15_checkIndex_7cf53 : ByteArray := prog_39_method_17_code
def yJ15_checkIndex_7cf53 : MethodName := ⟨RJ15, "checkIndex", "(II)I"⟩
def RJxf0a74 : String := "java/util/RandomAccess"
def RJxa66e6 : String := "java/util/SequencedCollection"
def RJ8 : String := "jdk/internal/util/ArraysSupport"
abbrev cJ8_newLength_cabcc : ByteArray := prog_42_method_27_code
def yJ8_newLength_cabcc : MethodName := ⟨RJ8, "newLength", "(III)I"⟩
abbrev cJ8_hugeLength_7cf53 : ByteArray := prog_42_method_28_code
def yJ8_hugeLength_7cf53 : MethodName := ⟨RJ8, "hugeLength", "(II)I"⟩
def RJ3 : String := "jdk/internal/util/Preconditions"
abbrev cJ3_checkIndex_8e157 : ByteArray := prog_43_method_11_code
def yJ3_checkIndex_8e157 : MethodName := ⟨RJ3, "checkIndex", "(IILjava/util/function/BiFunction;)I"⟩
def RL : String := "PalmwardLaw"
abbrev cL_area : ByteArray := method_3_code
def yL_area : MethodName := ⟨RL, "area", "(LPalmward;IIII[J)I"⟩
abbrev cL_dial : ByteArray := method_4_code
def yL_dial : MethodName := ⟨RL, "dial", "(LPalmward;I[J)I"⟩
abbrev cL_limit : ByteArray := method_5_code
def yL_limit : MethodName := ⟨RL, "limit", "(LPalmward;I[J)I"⟩
abbrev cL_heat : ByteArray := method_6_code
def yL_heat : MethodName := ⟨RL, "heat", "(LPalmward;I[J)I"⟩
abbrev cL_press : ByteArray := method_7_code
def yL_press : MethodName := ⟨RL, "press", "(LPalmward;III[J)I"⟩
abbrev cL_noise : ByteArray := method_8_code
def yL_noise : MethodName := ⟨RL, "noise", "(LPalmward;II[J)I"⟩
abbrev cL_ofCell : ByteArray := method_9_code
def yL_ofCell : MethodName := ⟨RL, "ofCell", "(LPalmward;III[J)I"⟩
abbrev cL_ofPeak : ByteArray := method_10_code
def yL_ofPeak : MethodName := ⟨RL, "ofPeak", "(LPalmward;II[J)I"⟩
abbrev cL_ofContact : ByteArray := method_11_code
def yL_ofContact : MethodName := ⟨RL, "ofContact", "(LPalmward;II[J)I"⟩
abbrev cL_where : ByteArray := method_12_code
def yL_where : MethodName := ⟨RL, "where", "(LPalmward;II[D)I"⟩
abbrev cL_apart : ByteArray := method_13_code
def yL_apart : MethodName := ⟨RL, "apart", "(LPalmward;II[D)I"⟩
abbrev cL_ofRow : ByteArray := method_14_code
def yL_ofRow : MethodName := ⟨RL, "ofRow", "(LPalmward;II[J)I"⟩
abbrev cL_ofArea : ByteArray := method_15_code
def yL_ofArea : MethodName := ⟨RL, "ofArea", "(LPalmward;II[J)I"⟩
abbrev cL_many : ByteArray := method_16_code
def yL_many : MethodName := ⟨RL, "many", "(LPalmward;I[J)I"⟩
abbrev cL_guess : ByteArray := method_17_code
def yL_guess : MethodName := ⟨RL, "guess", "(LPalmward;IIZ[D)I"⟩
abbrev cL_wouldMatch : ByteArray := method_18_code
def yL_wouldMatch : MethodName := ⟨RL, "wouldMatch", "(LPalmward;I[J)I"⟩
abbrev cL_keepBy : ByteArray := method_19_code
def yL_keepBy : MethodName := ⟨RL, "keepBy", "(LPalmward;II[J)I"⟩
abbrev cL_law : ByteArray := code
def yL_law : MethodName := ⟨RL, "law", "([I)Z"⟩
abbrev vwCl : List vw_C := [(RX0, TX0, 5), (RX1, TX1, 2), (RX2, TX2, 16), (RX3, TX3, 5), (RX4, TX4, 3), (RX5, TX5, 8), (RX6, TX6, 3), (RX7, TX7, 11), (RX8, TX8, 5), (RX9, TX9, 15), (RX10, TX10, 8), (RX11, TX11, 4), (RX12, TX12, 13), (RJx4a65c, TJx4a65c, 3)]
/-- how many references from outside the world a claim knows: 0 is the script; 1, where the claim has it, ArrayList's own empty array -/
abbrev am_k0 : Nat := 2
end
section
/-! ===== AN ABSTRACT MACHINE OVER THE KIT'S ROWS: own cells by number, the world as one function, callers' facts hidden ===== -/
abbrev am_C : Type := (Nat × vp_A) ⊕ (Nat × List Value)
abbrev am_P : Type := (Option Value ⊕ Nat) → Nat → (Nat → am_C) → Prop
def am_v (ρ : Nat → Nat) : Value → Value
  | .ref i => .ref (ρ i)
  | v => v
def am_a (ρ : Nat → Nat) (a : vp_A) : vp_A := (a.1, match a.2 with
  | .inl f => .inl f
  | .inr (.inl f) => .inr (.inl f)
  | .inr (.inr (.inl f)) => .inr (.inr (.inl f))
  | .inr (.inr (.inr (.inl f))) => .inr (.inr (.inr (.inl f)))
  | .inr (.inr (.inr (.inr f))) => .inr (.inr (.inr (.inr (fun j => (f j).map ρ)))))
def am_e (cA : Nat → ClassId) (ρ : Nat → Nat) : am_C → va_E
  | .inl (t, a) => .inl (cA t, am_a ρ a)
  | .inr (c, fs) => .inr (c, fs.map (am_v ρ))
def am_w (cA : Nat → ClassId) (ρ : Nat → Nat) (n : Nat) (f : Nat → am_C) : va_W := (List.range (n - am_k0)).map (fun i => (ρ (i + am_k0), am_e cA ρ (f (i + am_k0))))
def am_vn (n : Nat) : Value → Prop
  | .ref i => i < n
  | _ => True
def am_sn (n : Nat) : List Value → Prop
  | [] => True
  | v :: st => am_vn n v ∧ am_sn n st
def am_ln (n : Nat) (L : List (Option Value)) : Prop := ∀ (i : Nat) (v : Value), L[i]? = some (some v) → am_vn n v
def am_cn (n : Nat) : am_C → Prop
  | .inl (_, (_, .inr (.inr (.inr (.inr f))))) => ∀ j i : Nat, f j = some i → i < n
  | .inl _ => True
  | .inr (_, fs) => ∀ v ∈ fs, am_vn n v
theorem am_vn_mono {n n' : Nat} (h : n ≤ n') {v : Value} (hv : am_vn n v) : am_vn n' v := by
  cases v with
  | ref i => exact Nat.lt_of_lt_of_le hv h
  | _ => trivial
theorem am_sn_mono {n n' : Nat} (h : n ≤ n') : ∀ {st : List Value}, am_sn n st → am_sn n' st
  | [], _ => trivial
  | _ :: _, hv => ⟨am_vn_mono h hv.1, am_sn_mono h hv.2⟩
theorem am_ln_mono {n n' : Nat} (h : n ≤ n') {L : List (Option Value)} (hv : am_ln n L) : am_ln n' L := fun i v q => am_vn_mono h (hv i v q)
theorem am_cn_mono {n n' : Nat} (h : n ≤ n') {c : am_C} (hv : am_cn n c) : am_cn n' c := by
  rcases c with ⟨t, k, f | f | f | f | f⟩ | ⟨c, fs⟩
  · trivial
  · trivial
  · trivial
  · trivial
  · intro j i e
    exact Nat.lt_of_lt_of_le (hv j i e) h
  · intro v q
    exact am_vn_mono h (hv v q)
theorem am_v_congr {ρ ρ' : Nat → Nat} {n : Nat} (h : ∀ i, i < n → ρ' i = ρ i) {v : Value} (hv : am_vn n v) : am_v ρ' v = am_v ρ v := by
  cases v <;> simp_all [am_v, am_vn]
theorem am_s_congr {ρ ρ' : Nat → Nat} {n : Nat} (h : ∀ i, i < n → ρ' i = ρ i) : ∀ {st : List Value}, am_sn n st → st.map (am_v ρ') = st.map (am_v ρ)
  | [], _ => rfl
  | _ :: _, hv => by rw [List.map_cons, List.map_cons, am_v_congr h hv.1, am_s_congr h hv.2]
theorem am_e_congr {cA : Nat → ClassId} {ρ ρ' : Nat → Nat} {n : Nat} (h : ∀ i, i < n → ρ' i = ρ i) {c : am_C} (hc : am_cn n c) : am_e cA ρ' c = am_e cA ρ c := by
  rcases c with ⟨t, k, f | f | f | f | f⟩ | ⟨c, fs⟩
  · rfl
  · rfl
  · rfl
  · rfl
  · have e : (fun j => (f j).map ρ') = (fun j => (f j).map ρ) := by
      funext j
      cases hj : f j with
      | none => rfl
      | some i => show some (ρ' i) = some (ρ i); rw [h i (hc j i hj)]
    simp only [am_e, am_a, e]
  · have e : fs.map (am_v ρ') = fs.map (am_v ρ) := List.map_congr_left fun v hv => am_v_congr h (hc v hv)
    simp only [am_e, e]
theorem am_w_at {cA : Nat → ClassId} {ρ : Nat → Nat} {n i : Nat} {f : Nat → am_C} (h : i < n) (h0 : am_k0 ≤ i) : (am_w cA ρ n f)[i - am_k0]? = some (ρ i, am_e cA ρ (f i)) := by
  have h1 : i - am_k0 < n - am_k0 := by omega
  have e : i - am_k0 + am_k0 = i := Nat.sub_add_cancel h0
  unfold am_w
  rw [List.getElem?_map, List.getElem?_range h1]
  show some (ρ (i - am_k0 + am_k0), am_e cA ρ (f (i - am_k0 + am_k0))) = _
  rw [e]
theorem am_w_len {cA : Nat → ClassId} {ρ : Nat → Nat} {n : Nat} {f : Nat → am_C} : (am_w cA ρ n f).length = n - am_k0 := by simp [am_w]
theorem am_w_inv {cA : Nat → ClassId} {ρ : Nat → Nat} {n k : Nat} {f : Nat → am_C} {q : Nat × va_E} (h : (am_w cA ρ n f)[k]? = some q) : k + am_k0 < n ∧ q = (ρ (k + am_k0), am_e cA ρ (f (k + am_k0))) := by
  have hk : k < n - am_k0 := by
    have := (List.getElem?_eq_some_iff.mp h).1
    rw [am_w_len] at this
    exact this
  have h2 := am_w_at (cA := cA) (ρ := ρ) (f := f) (n := n) (i := k + am_k0) (by omega) (Nat.le_add_left _ _)
  rw [Nat.add_sub_cancel, h] at h2
  exact ⟨by omega, Option.some.inj h2⟩
theorem am_w_set {cA : Nat → ClassId} {ρ : Nat → Nat} {n i : Nat} {f : Nat → am_C} {c : am_C} {e : va_E} (h0 : am_k0 ≤ i) (he : e = am_e cA ρ c) : (am_w cA ρ n f).set (i - am_k0) (ρ i, e) = am_w cA ρ n (va_up f i c) := by
  subst he
  apply List.ext_getElem?
  intro j
  rw [List.getElem?_set]
  by_cases hj : j + am_k0 < n
  · have g : ∀ g : Nat → am_C, (am_w cA ρ n g)[j]? = some (ρ (j + am_k0), am_e cA ρ (g (j + am_k0))) := fun g => by
      have := am_w_at (cA := cA) (ρ := ρ) (f := g) hj (Nat.le_add_left _ _)
      rwa [Nat.add_sub_cancel] at this
    rw [g, g, am_w_len]
    by_cases hi : i - am_k0 = j
    · have hi2 : i = j + am_k0 := by omega
      subst hi2
      rw [if_pos (by omega), if_pos (by omega)]
      simp [va_up]
    · have hi' : ¬ j + am_k0 = i := by omega
      simp [va_up, hi, hi']
  · have h1 : ∀ g : Nat → am_C, (am_w cA ρ n g)[j]? = none := fun g => List.getElem?_eq_none (by rw [am_w_len]; omega)
    rw [h1, h1, am_w_len]
    by_cases hi : i - am_k0 = j
    · rw [if_pos hi, if_neg (by omega)]
    · rw [if_neg hi]
theorem am_w_push {cA : Nat → ClassId} {ρ : Nat → Nat} {n q : Nat} {f : Nat → am_C} {c : am_C} {e : va_E} (h0 : am_k0 ≤ n) (he : e = am_e cA (va_up ρ n q) c) (hf : ∀ i, i < n → am_cn n (f i)) : am_w cA ρ n f ++ [(q, e)] = am_w cA (va_up ρ n q) (n + 1) (va_up f n c) := by
  subst he
  have g : ∀ (n : Nat) (ρ : Nat → Nat) (g : Nat → am_C) (j : Nat), j + am_k0 < n → (am_w cA ρ n g)[j]? = some (ρ (j + am_k0), am_e cA ρ (g (j + am_k0))) := fun n ρ g j hj => by
    have := am_w_at (cA := cA) (ρ := ρ) (f := g) hj (Nat.le_add_left _ _)
    rwa [Nat.add_sub_cancel] at this
  apply List.ext_getElem?
  intro j
  rcases Nat.lt_trichotomy (j + am_k0) n with hj | hj | hj
  · rw [List.getElem?_append_left (by rw [am_w_len]; omega), g _ _ _ _ hj, g _ _ _ _ (by omega)]
    have h1 : va_up ρ n q (j + am_k0) = ρ (j + am_k0) := by simp [va_up, Nat.ne_of_lt hj]
    have h2 : va_up f n c (j + am_k0) = f (j + am_k0) := by simp [va_up, Nat.ne_of_lt hj]
    rw [h1, h2, am_e_congr (ρ := ρ) (ρ' := va_up ρ n q) (n := n) (fun i hi => by simp [va_up, Nat.ne_of_lt hi]) (hf _ hj)]
  · subst hj
    rw [g _ _ _ _ (by omega), List.getElem?_append_right (by rw [am_w_len]; omega), am_w_len]
    simp [va_up]
  · rw [List.getElem?_eq_none (by rw [List.length_append, am_w_len]; simp; omega), List.getElem?_eq_none (by rw [am_w_len]; omega)]
theorem am_cat (ρ : Nat → Nat) (v : Value) : (am_v ρ v).category = v.category := by cases v <;> rfl
/-! locals -/
def am_L (ρ : Nat → Nat) (L : List (Option Value)) (nL : Nat) (ls : Array Slot) : Prop := ls.size = nL ∧ lv_wf ls ∧ ∀ (i : Nat) (v : Value), L[i]? = some (some v) → ls[i]? = some (.val (am_v ρ v))
def am_ll (ρ : Nat → Nat) : List (Option Value) → Nat → List (Nat × Value)
  | [], _ => []
  | none :: L, k => am_ll ρ L (k + 1)
  | some v :: L, k => (k, am_v ρ v) :: am_ll ρ L (k + 1)
theorem am_ll_in (ρ : Nat → Nat) : ∀ (L : List (Option Value)) (k : Nat) (q : Nat × Value), q ∈ am_ll ρ L k → ∃ (i : Nat) (v : Value), L[i]? = some (some v) ∧ q = (k + i, am_v ρ v)
  | [], _, q, h => by cases h
  | none :: L, k, q, h => by
    obtain ⟨i, v, h1, h2⟩ := am_ll_in ρ L (k + 1) q h
    exact ⟨i + 1, v, by simpa using h1, by rw [h2]; congr 1; omega⟩
  | some w :: L, k, q, h => by
    rcases List.mem_cons.mp h with h | h
    · exact ⟨0, w, rfl, h⟩
    · obtain ⟨i, v, h1, h2⟩ := am_ll_in ρ L (k + 1) q h
      exact ⟨i + 1, v, by simpa using h1, by rw [h2]; congr 1; omega⟩
theorem am_ll_mem (ρ : Nat → Nat) : ∀ (L : List (Option Value)) (k i : Nat) (v : Value), L[i]? = some (some v) → (k + i, am_v ρ v) ∈ am_ll ρ L k
  | [], _, i, v, h => by simp at h
  | none :: L, k, 0, v, h => by simp at h
  | none :: L, k, i + 1, v, h => by
    have := am_ll_mem ρ L (k + 1) i v (by simpa using h)
    rw [show k + (i + 1) = k + 1 + i by omega]
    exact this
  | some w :: L, k, 0, v, h => by
    have e : w = v := by simpa using h
    subst e
    exact List.mem_cons_self
  | some w :: L, k, i + 1, v, h => by
    have := am_ll_mem ρ L (k + 1) i v (by simpa using h)
    rw [show k + (i + 1) = k + 1 + i by omega]
    exact List.mem_cons_of_mem _ this
theorem am_L_has {ρ : Nat → Nat} {L : List (Option Value)} {nL : Nat} {ls : Array Slot} (h : am_L ρ L nL ls) : lv_has ls nL (am_ll ρ L 0) := by
  refine ⟨h.1, h.2.1, fun q hq => ?_⟩
  obtain ⟨i, v, h1, h2⟩ := am_ll_in ρ L 0 q hq
  subst h2
  rw [Nat.zero_add]
  exact h.2.2 i v h1
theorem am_L_congr {ρ ρ' : Nat → Nat} {n : Nat} (h : ∀ i, i < n → ρ' i = ρ i) {L : List (Option Value)} {nL : Nat} {ls : Array Slot} (hL : am_ln n L) (k : am_L ρ L nL ls) : am_L ρ' L nL ls :=
  ⟨k.1, k.2.1, fun i v q => by rw [am_v_congr h (hL i v q)]; exact k.2.2 i v q⟩
/-- the place ahead loses a long that reached into this one -/
def am_cl : List (Option Value) → Nat → List (Option Value)
  | [], _ => []
  | x :: L, 0 => x :: L
  | x :: L, 1 => (match x with | some (.long _) => none | some (.double _) => none | y => y) :: L
  | x :: L, i + 2 => x :: am_cl L (i + 1)
def am_s1 (L : List (Option Value)) (i : Nat) (v : Value) : List (Option Value) := (am_cl L i).set i (some v)
def am_s2 (L : List (Option Value)) (i : Nat) (v : Value) : List (Option Value) := ((am_cl L i).set i (some v)).set (i + 1) none
theorem am_cl_at : ∀ (L : List (Option Value)) (i j : Nat) (v : Value), (am_cl L i)[j]? = some (some v) → L[j]? = some (some v) ∧ ¬ (j + 1 = i ∧ v.category = 2)
  | [], _, _, _, h => by simp [am_cl] at h
  | x :: L, 0, j, v, h => ⟨h, by omega⟩
  | x :: L, 1, 0, v, h => by
    rcases x with _ | x
    · simp [am_cl] at h
    · cases x <;> simp_all [am_cl, Value.category]
      all_goals (subst h; simp)
  | x :: L, 1, j + 1, v, h => ⟨by simpa [am_cl] using h, by omega⟩
  | x :: L, i + 2, 0, v, h => ⟨by simpa [am_cl] using h, by omega⟩
  | x :: L, i + 2, j + 1, v, h => by
    have := am_cl_at L (i + 1) j v (by simpa [am_cl] using h)
    exact ⟨by simpa using this.1, fun q => this.2 ⟨by omega, q.2⟩⟩
theorem am_s1_at {L : List (Option Value)} {i j : Nat} {v w : Value} (h : (am_s1 L i v)[j]? = some (some w)) : (j = i ∧ w = v) ∨ (j ≠ i ∧ L[j]? = some (some w) ∧ ¬ (j + 1 = i ∧ w.category = 2)) := by
  unfold am_s1 at h
  rw [List.getElem?_set] at h
  by_cases e : i = j
  · rw [if_pos e] at h
    split at h
    · exact Or.inl ⟨e.symm, by simpa using h.symm⟩
    · simp at h
  · rw [if_neg e] at h
    exact Or.inr ⟨fun q => e q.symm, am_cl_at L i j w h⟩
theorem am_s2_at {L : List (Option Value)} {i j : Nat} {v w : Value} (h : (am_s2 L i v)[j]? = some (some w)) : (j = i ∧ w = v) ∨ (j ≠ i ∧ j ≠ i + 1 ∧ L[j]? = some (some w) ∧ ¬ (j + 1 = i ∧ w.category = 2)) := by
  unfold am_s2 at h
  rw [List.getElem?_set] at h
  by_cases e : i + 1 = j
  · rw [if_pos e] at h
    split at h <;> simp at h
  · rw [if_neg e] at h
    rcases am_s1_at (L := L) (i := i) (v := v) h with h | h
    · exact Or.inl h
    · exact Or.inr ⟨h.1, fun q => e q.symm, h.2⟩
theorem am_ln_s1 {n : Nat} {L : List (Option Value)} {i : Nat} {v : Value} (h : am_ln n L) (hv : am_vn n v) : am_ln n (am_s1 L i v) := fun j w q => by
  rcases am_s1_at q with ⟨-, e⟩ | ⟨-, e, -⟩
  · rw [e]; exact hv
  · exact h j w e
theorem am_ln_s2 {n : Nat} {L : List (Option Value)} {i : Nat} {v : Value} (h : am_ln n L) (hv : am_vn n v) : am_ln n (am_s2 L i v) := fun j w q => by
  rcases am_s2_at q with ⟨-, e⟩ | ⟨-, -, e, -⟩
  · rw [e]; exact hv
  · exact h j w e
theorem am_L_s1 {ρ : Nat → Nat} {L : List (Option Value)} {nL i : Nat} {v v' : Value} {ls : Array Slot} (e : v' = am_v ρ v) (h : lv_has ls nL ((i, v') :: (am_ll ρ L 0).filter (fun q => !(q.1 == i) && !(q.1 + 1 == i && q.2.category == 2)))) : am_L ρ (am_s1 L i v) nL ls := by
  subst e
  refine ⟨h.1, h.2.1, fun j w hw => ?_⟩
  rcases am_s1_at hw with ⟨e1, e2⟩ | ⟨e1, e2, e3⟩
  · subst e1; subst e2
    exact h.2.2 (j, am_v ρ w) List.mem_cons_self
  · refine h.2.2 (j, am_v ρ w) (List.mem_cons_of_mem _ (List.mem_filter.mpr ⟨by have := am_ll_mem ρ L 0 j w e2; rwa [Nat.zero_add] at this, ?_⟩))
    have e4 : ¬ (j + 1 = i ∧ (am_v ρ w).category = 2) := by rw [am_cat]; exact e3
    simp
    exact ⟨e1, Classical.not_and_iff_not_or_not.mp e4⟩
theorem am_L_s2 {ρ : Nat → Nat} {L : List (Option Value)} {nL i : Nat} {v v' : Value} {ls : Array Slot} (e : v' = am_v ρ v) (h : lv_has ls nL ((i, v') :: (am_ll ρ L 0).filter (fun q => !(q.1 == i) && (!(q.1 == i + 1) && !(q.1 + 1 == i && q.2.category == 2))))) : am_L ρ (am_s2 L i v) nL ls := by
  subst e
  refine ⟨h.1, h.2.1, fun j w hw => ?_⟩
  rcases am_s2_at hw with ⟨e1, e2⟩ | ⟨e1, e5, e2, e3⟩
  · subst e1; subst e2
    exact h.2.2 (j, am_v ρ w) List.mem_cons_self
  · refine h.2.2 (j, am_v ρ w) (List.mem_cons_of_mem _ (List.mem_filter.mpr ⟨by have := am_ll_mem ρ L 0 j w e2; rwa [Nat.zero_add] at this, ?_⟩))
    have e4 : ¬ (j + 1 = i ∧ (am_v ρ w).category = 2) := by rw [am_cat]; exact e3
    simp
    exact ⟨e1, e5, Classical.not_and_iff_not_or_not.mp e4⟩
/-- the locals at a method's entry -/
def am_e0 : List Value → List (Option Value)
  | [] => []
  | v :: vs => match v with
    | .long x => some (.long x) :: none :: am_e0 vs
    | .double x => some (.double x) :: none :: am_e0 vs
    | v => some v :: am_e0 vs
def am_en (nL : Nat) (vs : List Value) : List (Option Value) := am_e0 vs ++ List.replicate (nL - (am_e0 vs).length) none
theorem am_e0_at : ∀ (vs : List Value) (k i : Nat) (ρ : Nat → Nat) (v : Value), (am_e0 vs)[i]? = some (some v) → (k + i, am_v ρ v) ∈ lv_args k (vs.map (am_v ρ))
  | [], _, _, _, _, h => by simp [am_e0] at h
  | w :: vs, k, i, ρ, v, h => by
    have ih := am_e0_at vs
    cases w <;> rcases i with _ | i <;> simp only [am_e0, List.getElem?_cons_zero, List.getElem?_cons_succ, Option.some.injEq, List.map_cons, lv_args] at h ⊢
    all_goals first
      | (subst h; exact List.mem_cons_self)
      | (refine List.mem_cons_of_mem _ ?_
         first
           | (have := ih (k + 1) i ρ v h; rw [show k + (i + 1) = k + 1 + i by omega]; exact this)
           | (rcases i with _ | i
              · simp at h
              · have := ih (k + 2) i ρ v (by simpa using h); rw [show k + (i + 1 + 1) = k + 2 + i by omega]; exact this))
theorem am_en_L {ρ : Nat → Nat} {vs : List Value} {nL : Nat} (h : (lg_sl (vs.map (am_v ρ))).length ≤ nL) : am_L ρ (am_en nL vs) nL ((lg_sl (vs.map (am_v ρ)) ++ List.replicate (nL - (lg_sl (vs.map (am_v ρ))).length) Slot.unset).toArray) := by
  have hl := lv_entry (vs.map (am_v ρ)) (n := nL) h
  refine ⟨hl.1, hl.2.1, fun i v hi => ?_⟩
  have h1 : (am_e0 vs)[i]? = some (some v) := by
    unfold am_en at hi
    rw [List.getElem?_append] at hi
    split at hi
    · exact hi
    · rw [List.getElem?_replicate] at hi
      split at hi <;> simp at hi
  have := am_e0_at vs 0 i ρ v h1
  rw [Nat.zero_add] at this
  exact hl.2.2 (i, am_v ρ v) this
theorem am_en_n {n : Nat} : ∀ {vs : List Value}, am_sn n vs → ∀ {nL : Nat}, am_ln n (am_en nL vs) := by
  intro vs h nL i v hi
  have h1 : (am_e0 vs)[i]? = some (some v) := by
    unfold am_en at hi
    rw [List.getElem?_append] at hi
    split at hi
    · exact hi
    · rw [List.getElem?_replicate] at hi
      split at hi <;> simp at hi
  clear hi
  induction vs generalizing i with
  | nil => simp [am_e0] at h1
  | cons w vs ih =>
    cases w <;> rcases i with _ | i <;> simp only [am_e0, List.getElem?_cons_zero, List.getElem?_cons_succ, Option.some.injEq] at h1
    all_goals first
      | (subst h1; exact h.1)
      | exact ih h.2 i h1
      | (rcases i with _ | i
         · simp at h1
         · exact ih h.2 i (by simpa using h1))
theorem am_sl_len (ρ : Nat → Nat) (vs : List Value) : (lg_sl (vs.map (am_v ρ))).length = (lg_sl vs).length := by
  induction vs with
  | nil => rfl
  | cons v vs ih =>
    simp only [lg_sl, List.map_cons, List.flatMap_cons, List.length_append, am_cat] at ih ⊢
    rw [ih]
    split <;> rfl
end
section
/-! ===== this claim's tables: array types, nest mates' links, texts, classes that aren't castable, arrays over classes ===== -/
abbrev am_tyl : List FieldType := [.int, .long, .float, .boolean, .object "Palmward$Area", .object "Palmward$Contact", .double, .object "PalmwardModel$Contact", .object "java/lang/Object"]
def am_nst : List (String × Nat × MethodName × String) := [("Palmward", 9, yX6_init, "Palmward"), ("Palmward", 18, yX5_init, "Palmward"), ("Palmward", 31, yX4_init, "Palmward"), ("Palmward$Areas", 17, yX0_init, "Palmward"), ("Palmward$Hand", 21, yX2_init, "Palmward"), ("Palmward$Contact", 64, yX7_withoutSign, "Palmward"), ("Palmward$Hand", 147, yX7_withoutSign, "Palmward"), ("PalmwardModel$View", 40, yX12_isGlass, "PalmwardModel"), ("PalmwardModel$View", 44, yX12_cell, "PalmwardModel")]
def am_str : List (String × Nat × String) := [("Palmward", 61, "no such area"), ("Palmward", 71, "all areas are told"), ("Palmward", 78, "dial is not 1 to 4"), ("Palmward", 80, "limit is not 1 to 30"), ("Palmward", 82, "heat is not -30 to 30"), ("Palmward", 236, "x is not 0 to 7"), ("Palmward", 238, "y is not 0 to 5"), ("Palmward", 240, "strength is not 1 to 200"), ("Palmward", 110, "much is not -40 to 40"), ("Palmward", 242, "what is not told of"), ("Palmward", 165, "no such peak"), ("Palmward", 244, "no contact of that name"), ("Palmward", 198, "ahead is not 0 to 9")]
def am_ncs : List (String × String) := [("java/lang/IllegalStateException", "java/lang/IllegalArgumentException"), ("java/lang/IndexOutOfBoundsException", "java/lang/IllegalArgumentException"), ("java/lang/IllegalArgumentException", "java/lang/IllegalStateException"), ("java/lang/IndexOutOfBoundsException", "java/lang/IllegalStateException"), ("java/lang/IllegalArgumentException", "java/lang/IndexOutOfBoundsException"), ("java/lang/IllegalStateException", "java/lang/IndexOutOfBoundsException")]
def am_aov : List String := ["Palmward$Area", "Palmward$Contact", "PalmwardModel$Contact", "java/lang/Object"]
end
section
/-! ===== a method as the abstract machine sees it, and the walk's statement ===== -/
/-- name, bytes, locals, what it returns, handlers, frames and locals' words that it needs -/
abbrev am_M : Type := MethodName × ByteArray × Nat × Option FieldType × List (Nat × Nat × Nat × Nat) × Nat × Nat
abbrev am_y (M : am_M) : MethodName := M.1
abbrev am_by (M : am_M) : ByteArray := M.2.1
abbrev am_mL (M : am_M) : Nat := M.2.2.1
abbrev am_rt (M : am_M) : Option FieldType := M.2.2.2.1
abbrev am_hh (M : am_M) : List (Nat × Nat × Nat × Nat) := M.2.2.2.2.1
abbrev am_fr (M : am_M) : Nat := M.2.2.2.2.2.1
abbrev am_lo (M : am_M) : Nat := M.2.2.2.2.2.2
def am_W : List Cond := lw_tbl.filter goodWord
theorem am_good (w : Cond) (h : w ∈ am_W) : (w.onTables && w.keeps) = true ∨ ∃ ty, w = .arrayClass ty := good_of_word (List.mem_filter.mp h).2
theorem am_in (i : Nat) {w : Cond} (h : lw_tbl[i]? = some w) (g : goodWord w = true) : w ∈ am_W := List.mem_filter.mpr ⟨List.mem_of_getElem? h, g⟩
/-- a list's words by their places -/
theorem am_ins {ws : List Cond} (is : List Nat) (h : is.filterMap (fun i => lw_tbl[i]?) = ws) (g : ws.all goodWord = true) : ∀ w ∈ ws, w ∈ am_W := by
  intro w hw
  refine List.mem_filter.mpr ⟨?_, List.all_eq_true.mp g w hw⟩
  rw [← h] at hw
  obtain ⟨i, -, hi⟩ := List.mem_filterMap.mp hw
  exact List.mem_of_getElem? hi
/-- words that the tables alone decide and that stand in a moved machine -/
def am_fW : List Cond := lw_tbl.filter (fun w => w.faceAtom && w.onTables)
theorem am_face_at {a a' : Array Value} {s U : State} {w : Cond} (hg : w ∈ am_fW) (hvm : s.vm.Alike U.vm) (h : w.before a s = true) : w.before a' U = true := by
  have h1 := (List.mem_filter.mp hg).2
  simp only [Bool.and_eq_true] at h1
  have h2 := Cond.faceAtom_setVm hvm w h1.1 h
  exact vx_ot_at (s := s.setVm U.vm) (U := U) (State.WarmedH.refl _) rfl (by simp [vx_ot, h1.2]) h2
def am_tys (cA : Nat → ClassId) : List (ClassId × FieldType) := (List.range am_tyl.length).map (fun i => (cA i, am_tyl.getD i .int))
theorem am_tys_at {cA : Nat → ClassId} {t : Nat} {ty : FieldType} (h : am_tyl[t]? = some ty) : (am_tys cA)[t]? = some (cA t, ty) := by
  have hl : t < am_tyl.length := (List.getElem?_eq_some_iff.mp h).1
  unfold am_tys
  rw [List.getElem?_map, List.getElem?_range hl]
  show some (cA t, am_tyl.getD t .int) = _
  rw [List.getD_eq_getElem?_getD, h]
  rfl
/-- what the tables say that no word of the list says, seen from a state -/
def am_S (D : va_G) (cA : Nat → ClassId) (A : Nat → Prop) (U : State) : Prop :=
  va_K D vwCl (am_tys cA) U ∧ (∀ q ∈ am_nst, va_Nw (.methodLinkNest q.1 q.2.1 q.2.2.1 q.2.2.2) U) ∧ (∀ q ∈ am_str, ∃ a : Nat, vk_R q.1 q.2.1 q.2.2 a U) ∧ (∀ q ∈ am_ncs, va_Nc q.1 q.2 U) ∧ (∀ q ∈ am_aov, va_AO q U) ∧
  vx_Zq Bundle.tN "UNASSIGNED_STACK" Bundle.steD A U U.heap ∧ vx_Zq Bundle.tN "SUPPRESSED_SENTINEL" Bundle.listD A U U.heap ∧ (∀ w ∈ am_fW, w.before #[] U = true)
theorem am_S_blind {D : va_G} {cA : Nat → ClassId} {A : Nat → Prop} {U : State} {g : JFrame} {mk : MethodId} {a : Array Value} (h : am_S D cA A U) : am_S D cA A (U.calling g mk a) := by
  obtain ⟨h1, h2, h3, h4, h7, h5, h6, h8⟩ := h
  have ha : U.vm.Alike (U.calling g mk a).vm := Vm.Alike.refl U.vm
  refine ⟨h1.moved ha, fun q hq => va_Nw.same rfl (u := U) rfl (h2 q hq), fun q hq => ?_, fun q hq => (h4 q hq).moved ha, fun q hq => (h7 q hq).moved ha, h5.moved ha, h6.moved ha, fun w hw => am_face_at hw ha (h8 w hw)⟩
  obtain ⟨x, hx⟩ := h3 q hq
  exact ⟨x, vk_R.same (u := U) rfl hx⟩
/-- the facts at a method's start serve at any later state of its body, for the callee's smaller set of cells -/
theorem am_S_at {D : va_G} {cA : Nat → ClassId} {A B : Nat → Prop} {s U : State} {locs : List Loc} (h : am_S D cA A s) (hS : va_S A s.heap U.heap locs) (hW : s.WarmedH U.vm) (hAB : ∀ q, B q → A q) : am_S D cA B U := by
  obtain ⟨h1, h2, h3, h4, h7, h5, h6, h8⟩ := h
  refine ⟨h1.moved hW.alike, fun q hq => va_Nw.warmM hW (h2 q hq), fun q hq => ?_, fun q hq => (h4 q hq).moved hW.alike, fun q hq => (h7 q hq).moved hW.alike, ((h5.kept hS.2.1).moved hW.alike).narrow hAB, ((h6.kept hS.2.1).moved hW.alike).narrow hAB, fun w hw => am_face_at hw hW.alike (h8 w hw)⟩
  obtain ⟨x, hx⟩ := h3 q hq
  exact ⟨x, vk_R.warm hW hx⟩
/-- the machine, the code, the tables: what stays the same in a method's body -/
def am_K (M : am_M) (D : va_G) (cA : Nat → ClassId) (p : Program) (l : Launch) (s : State) (m : MethodId) (args : Array Value) (meth : Method) (c : Code) (A : Nat → Prop) : Prop :=
  p.tables.exec = Jvm.exec ∧ c.code = am_by M ∧ meth.sig.returnType = am_rt M ∧ c.maxLocals = am_mL M ∧ s.vm.findClass (am_y M).cls = some m.cls ∧ (∀ w ∈ am_W, w.before args s = true) ∧ meth.locks = false ∧
  c.exceptionTable.toList = tableOf (am_hh M) ∧ l.stackTraces = false ∧ meth.name = (am_y M).name ∧ (∀ q, s.heap.size ≤ q → A q) ∧ am_S D cA A s
def am_room (M : am_M) (R : Room) (mc ms : Nat) : Prop := am_fr M ≤ R.frames ∧ am_lo M ≤ R.locals ∧ mc ≤ R.cells ∧ ms ≤ R.slots
/-- what a method may read from outside its world: the script; ArrayList's own empty array -/
def am_x (i : Nat) (c : am_C) (a : Nat) (A : Nat → Prop) (s : State) : Prop := match i with
  | 0 => ∃ (N : Nat) (xs : Nat → Int32), c = .inl (20, N, .inl xs) ∧ va_X a N xs s s.heap
  | _ => c = .inl (21, 0, .inr (.inr (.inr (.inr (fun _ => none))))) ∧ (∃ cell : Cell, s.heap[a]? = some cell ∧ s.isArrayOf cell (.object "java/lang/Object") ∧ cell.vm ≠ .unknown ∧ cell.slots.size = 0) ∧ va_Z "java/util/ArrayList" "DEFAULTCAPACITY_EMPTY_ELEMENTDATA" "[Ljava/lang/Object;" (.ref a) A s s.heap
def am_Ex (A : Nat → Prop) (s : State) (ρ : Nat → Nat) (e : Nat → am_C) : Prop := ∀ i, i < am_k0 → am_x i (e i) (ρ i) A s ∧ ρ i < s.heap.size ∧ ¬ A (ρ i)
abbrev am_n : Type := Nat × (Nat → am_C)
theorem am_Ex_blind {A : Nat → Prop} {U : State} {ρ : Nat → Nat} {f : Nat → am_C} {g : JFrame} {mk : MethodId} {a : Array Value} (h : am_Ex A U ρ f) : am_Ex A (U.calling g mk a) ρ f := by
  have ha : U.vm.Alike (U.calling g mk a).vm := Vm.Alike.refl U.vm
  intro i hi
  obtain ⟨h1, h2, h3⟩ := h i hi
  refine ⟨?_, h2, h3⟩
  cases i with
  | zero =>
    obtain ⟨N, xs, e, hx⟩ := h1
    exact ⟨N, xs, e, hx.moved ha⟩
  | succ i =>
    obtain ⟨e, ⟨cell, c1, c2, c3⟩, hz⟩ := h1
    exact ⟨e, ⟨cell, c1, State.isArrayOf_alike ha c2, c3⟩, hz.moved ha⟩
theorem am_Ex_at {A B : Nat → Prop} {s U : State} {locs : List Loc} {ρ ρ' : Nat → Nat} {e f : Nat → am_C} (h : am_Ex A s ρ e) (hS : va_S A s.heap U.heap locs) (hW : s.WarmedH U.vm) (hAB : ∀ q, B q → A q) (hρ : ∀ i, i < am_k0 → ρ' i = ρ i) (hf : ∀ i, i < am_k0 → f i = e i) : am_Ex B U ρ' f := by
  intro i hi
  obtain ⟨h1, h2, h3⟩ := h i hi
  have hk : U.heap[ρ i]? = s.heap[ρ i]? := hS.2.1 _ h2 h3
  rw [hρ i hi, hf i hi]
  refine ⟨?_, Nat.lt_of_lt_of_le h2 hS.1, fun z => h3 (hAB _ z)⟩
  cases i with
  | zero =>
    obtain ⟨N, xs, e, hx⟩ := h1
    exact ⟨N, xs, e, (hx.kept hk).moved hW.alike⟩
  | succ i =>
    obtain ⟨e, ⟨cell, c1, c2, c3⟩, hz⟩ := h1
    exact ⟨e, ⟨cell, by rw [hk]; exact c1, State.isArrayOf_alike hW.alike c2, c3⟩, ((hz.kept hS.2.1).moved hW.alike).narrow hAB⟩
/-- the world -/
def am_U (D : va_G) (cA : Nat → ClassId) (A : Nat → Prop) (s : State) (n0 : am_n) (ρ0 : Nat → Nat) (n : Nat) (f : Nat → am_C) (H : Heap) (locs : List Loc) (ρ : Nat → Nat) : Prop :=
  va_P D vwCl (am_w cA ρ n f) H ∧ va_D A (am_w cA ρ n f) ∧ va_S A s.heap H locs ∧ (n0.1 ≤ n ∧ am_k0 ≤ n0.1 ∧ (∀ i, i < am_k0 → f i = n0.2 i) ∧ am_Ex A s ρ0 n0.2) ∧ (∀ i, i < n0.1 → ρ i = ρ0 i) ∧ ∀ i, i < n → am_cn n (f i)
def am_T (D : va_G) (cA : Nat → ClassId) (A : Nat → Prop) (s : State) (n0 : am_n) (ρ0 : Nat → Nat) (nL : Nat) (n : Nat) (f : Nat → am_C) (L : List (Option Value)) (st : List Value) (H : Heap) (locs : List Loc) (ρ : Nat → Nat) (ls : Array Slot) : Prop :=
  am_sn n st ∧ (am_ln n L ∧ am_L ρ L nL ls) ∧ am_U D cA A s n0 ρ0 n f H locs ρ
def am_R (D : va_G) (cA : Nat → ClassId) (A : Nat → Prop) (n0 : am_n) (ρ0 : Nat → Nat) (n : Nat) (f : Nat → am_C) (ρ : Nat → Nat) (t : State) : Prop :=
  va_P D vwCl (am_w cA ρ n f) t.heap ∧ va_D A (am_w cA ρ n f) ∧ (n0.1 ≤ n ∧ ∀ i, i < am_k0 → f i = n0.2 i) ∧ (∀ i, i < n0.1 → ρ i = ρ0 i) ∧ ∀ i, i < n → am_cn n (f i)
def am_Q (D : va_G) (cA : Nat → ClassId) (A : Nat → Prop) (n0 : am_n) (ρ0 : Nat → Nat) (P : am_P) : Array Value → State → Outcome → State → Prop := fun _ st o t =>
  (∃ (v : Option Value) (n : Nat) (f : Nat → am_C) (ρ : Nat → Nat), o = .returned (v.map (am_v ρ)) ∧ P (.inl v) n f ∧ am_sn n v.toList ∧ am_R D cA A n0 ρ0 n f ρ t) ∧ va_F A st t
def am_E (k : Nat) : String := match k with
  | 0 => "java/lang/IllegalArgumentException"
  | 1 => "java/lang/IllegalStateException"
  | _ => "java/lang/IndexOutOfBoundsException"
def am_X (D : va_G) (cA : Nat → ClassId) (A : Nat → Prop) (n0 : am_n) (ρ0 : Nat → Nat) (P : am_P) : String → State → State → Prop := fun E st t =>
  (∃ (k : Nat) (n : Nat) (f : Nat → am_C) (ρ : Nat → Nat), am_E k = E ∧ P (.inr k) n f ∧ am_R D cA A n0 ρ0 n f ρ t) ∧ va_F A st t
/-- FROM HERE (code place, locals, stack, world) method M ends with P, making at most rc cells of rs slots -/
def AW (M : am_M) (rc rs pc : Nat) (L : List (Option Value)) (st : List Value) (n : Nat) (f : Nat → am_C) (P : am_P) : Prop :=
  ∀ (D : va_G) (cA : Nat → ClassId) (p : Program) (l : Launch) (e : Env) (R : Room) (s : State) (m : MethodId) (args : Array Value) (below : List Frame) (meth : Method) (c : Code) (A : Nat → Prop) (n0 : am_n) (ρ0 : Nat → Nat) (mc ms : Nat),
    am_K M D cA p l s m args meth c A → am_room M R mc ms →
    ∀ (H : Heap) (locs : List Loc) (cells slots : Nat) (ρ : Nat → Nat) (ls : Array Slot), am_T D cA A s n0 ρ0 (am_mL M) n f L st H locs ρ ls → (cells + rc ≤ mc ∧ slots + rs ≤ ms) →
      W p l e R s m args below meth c H locs cells slots (vx_MQ below (am_Q D cA A n0 ρ0 P) (am_X D cA A n0 ρ0 P) args s mc ms A) (F0 m pc ls (st.map (am_v ρ)))
/-- .. with an exception of kind E thrown over the frame -/
def AX (M : am_M) (rc rs pc : Nat) (L : List (Option Value)) (st : List Value) (E : Nat) (n : Nat) (f : Nat → am_C) (P : am_P) : Prop :=
  ∀ (D : va_G) (cA : Nat → ClassId) (p : Program) (l : Launch) (e : Env) (R : Room) (s : State) (m : MethodId) (args : Array Value) (below : List Frame) (meth : Method) (c : Code) (A : Nat → Prop) (n0 : am_n) (ρ0 : Nat → Nat) (mc ms : Nat),
    am_K M D cA p l s m args meth c A → am_room M R mc ms →
    ∀ (H : Heap) (locs : List Loc) (cells slots : Nat) (ρ : Nat → Nat) (ls : Array Slot) (q : Addr) (ce : Cell), am_T D cA A s n0 ρ0 (am_mL M) n f L st H locs ρ ls → (cells + rc ≤ mc ∧ slots + rs ≤ ms) →
      H[q]? = some ce → ce.vm = .none → s.vm.findClass (am_E E) = some ce.cls →
      vx_W p l e R s m args below meth c H locs cells slots (vx_MQ below (am_Q D cA A n0 ρ0 P) (am_X D cA A n0 ρ0 P) args s mc ms A) (F0 m pc ls (st.map (am_v ρ))) q
theorem am_MQ_mono {below : List Frame} {Qc Qc' : Array Value → State → Outcome → State → Prop} {XC XC' : String → State → State → Prop} {a : Array Value} {s : State} {mc ms : Nat} {A : Nat → Prop} (h1 : ∀ o t, Qc a s o t → Qc' a s o t) (h2 : ∀ E t, XC E s t → XC' E s t) : ∀ t, vx_MQ below Qc XC a s mc ms A t → vx_MQ below Qc' XC' a s mc ms A t := by
  rintro t ⟨o, a1, a2, a3⟩
  refine ⟨o, a1, a2, ?_⟩
  rcases a3 with ⟨b1, b2⟩ | ⟨q, b1, E, ce, L, b2, b3⟩
  · exact Or.inl ⟨h1 o t b1, b2⟩
  · exact Or.inr ⟨q, b1, E, ce, L, h2 E t b2, b3⟩
theorem am_W_mono {p : Program} {l : Launch} {e : Env} {R : Room} {s : State} {m : MethodId} {args : Array Value} {below : List Frame} {meth : Method} {c : Code} {H : Heap} {locs : List Loc} {cells slots : Nat} {Q Q' : State → Prop} {g : JFrame} (h : ∀ t, Q t → Q' t) (k : W p l e R s m args below meth c H locs cells slots Q g) : W p l e R s m args below meth c H locs cells slots Q' g := fun T hT X => by
  obtain ⟨t, a, b⟩ := k T hT X
  exact ⟨t, a, h t b⟩
theorem AW.mono {M : am_M} {rc rs pc n : Nat} {L : List (Option Value)} {st : List Value} {f : Nat → am_C} {P P' : am_P} (h : ∀ o n' f', P o n' f' → P' o n' f') (k : AW M rc rs pc L st n f P) : AW M rc rs pc L st n f P' := by
  intro D cA p l e R s m args below meth c A n0 ρ0 mc ms hC hR H locs cells slots ρ ls hT hcs
  refine am_W_mono (am_MQ_mono ?_ ?_) (k D cA p l e R s m args below meth c A n0 ρ0 mc ms hC hR H locs cells slots ρ ls hT hcs)
  · rintro o t ⟨⟨v, n', f', ρ', h1, h2, h3⟩, h4⟩
    exact ⟨⟨v, n', f', ρ', h1, h _ _ _ h2, h3⟩, h4⟩
  · rintro E t ⟨⟨v, n', f', ρ', h1, h2, h3⟩, h4⟩
    exact ⟨⟨v, n', f', ρ', h1, h _ _ _ h2, h3⟩, h4⟩
theorem AW.more {M : am_M} {rc rs rc' rs' pc n : Nat} {L : List (Option Value)} {st : List Value} {f : Nat → am_C} {P : am_P} (h1 : rc ≤ rc') (h2 : rs ≤ rs') (k : AW M rc rs pc L st n f P) : AW M rc' rs' pc L st n f P := by
  intro D cA p l e R s m args below meth c A n0 ρ0 mc ms hC hR H locs cells slots ρ ls hT hcs
  exact k D cA p l e R s m args below meth c A n0 ρ0 mc ms hC hR H locs cells slots ρ ls hT ⟨by omega, by omega⟩
theorem am_k {M : am_M} {rc rs pc n : Nat} {L : List (Option Value)} {st : List Value} {f : Nat → am_C} {P : am_P} {D : va_G} {cA : Nat → ClassId} {p : Program} {l : Launch} {e : Env} {R : Room} {s : State} {m : MethodId} {args : Array Value} {below : List Frame} {meth : Method} {c : Code} {A : Nat → Prop} {n0 : am_n} {ρ0 : Nat → Nat} {mc ms : Nat} {H : Heap} {locs : List Loc} {cells slots : Nat} {ρ : Nat → Nat} {ls : Array Slot}
    (k : AW M rc rs pc L st n f P) (hC : am_K M D cA p l s m args meth c A) (hR : am_room M R mc ms) (hT : am_T D cA A s n0 ρ0 (am_mL M) n f L st H locs ρ ls) (hcs : cells + rc ≤ mc ∧ slots + rs ≤ ms) :
      W p l e R s m args below meth c H locs cells slots (vx_MQ below (am_Q D cA A n0 ρ0 P) (am_X D cA A n0 ρ0 P) args s mc ms A) (F0 m pc ls (st.map (am_v ρ))) := k D cA p l e R s m args below meth c A n0 ρ0 mc ms hC hR H locs cells slots ρ ls hT hcs
/-- an object is no thing from outside; nor is an array of the world's types -/
theorem am_ownO {n0 : am_n} {n : Nat} {f : Nat → am_C} {A : Nat → Prop} {s : State} {ρ0 : Nat → Nat} {b : Nat} {o : Nat × List Value} (h : n0.1 ≤ n ∧ am_k0 ≤ n0.1 ∧ (∀ i, i < am_k0 → f i = n0.2 i) ∧ am_Ex A s ρ0 n0.2) (hb : f b = .inr o) : am_k0 ≤ b := by
  apply Nat.le_of_not_lt
  intro hk
  have h1 := (h.2.2.2 b hk).1
  rw [← h.2.2.1 b hk, hb] at h1
  cases b with
  | zero => obtain ⟨N, xs, e, -⟩ := h1; cases e
  | succ b => obtain ⟨e, -⟩ := h1; cases e
theorem am_ownA {n0 : am_n} {n : Nat} {f : Nat → am_C} {A : Nat → Prop} {s : State} {ρ0 : Nat → Nat} {b t : Nat} {a : vp_A} (h : n0.1 ≤ n ∧ am_k0 ≤ n0.1 ∧ (∀ i, i < am_k0 → f i = n0.2 i) ∧ am_Ex A s ρ0 n0.2) (hb : f b = .inl (t, a)) (ht : t < 20) : am_k0 ≤ b := by
  apply Nat.le_of_not_lt
  intro hk
  have h1 := (h.2.2.2 b hk).1
  rw [← h.2.2.1 b hk, hb] at h1
  cases b with
  | zero => obtain ⟨N, xs, e, -⟩ := h1; cases e; omega
  | succ b => obtain ⟨e, -⟩ := h1; cases e; omega
theorem am_t20 {t : Nat} {ty : FieldType} (h : am_tyl[t]? = some ty) : t < 20 := Nat.lt_of_lt_of_le (List.getElem?_eq_some_iff.mp h).1 (Nat.le_of_ble_eq_true rfl)
/-- the bundle behind a change of an own cell -/
theorem am_exU {n0 : am_n} {n : Nat} {f : Nat → am_C} {A : Nat → Prop} {s : State} {ρ0 : Nat → Nat} {b : Nat} {c : am_C} (h : n0.1 ≤ n ∧ am_k0 ≤ n0.1 ∧ (∀ i, i < am_k0 → f i = n0.2 i) ∧ am_Ex A s ρ0 n0.2) (hb : am_k0 ≤ b) : n0.1 ≤ n ∧ am_k0 ≤ n0.1 ∧ (∀ i, i < am_k0 → va_up f b c i = n0.2 i) ∧ am_Ex A s ρ0 n0.2 :=
  ⟨h.1, h.2.1, fun i hi => by rw [← h.2.2.1 i hi]; simp [va_up, show ¬ i = b by omega], h.2.2.2⟩
end
section
/-! ===== the instructions that stay in the frame ===== -/
theorem am_iconst (pc : Nat) {M : am_M} {rc rs n : Nat} {L : List (Option Value)} {st : List Value} {f : Nat → am_C} {P : am_P} {i : Int} {v : Int32} (hd : decode (am_by M) pc = .ok (.iconst i, 1)) (hv : Int32.ofInt i = v) (k : AW M rc rs (pc + 1) L (.int v :: st) n f P) : AW M rc rs pc L (st) n f P := by
  intro D cA p l e R s m args below meth c A n0 ρ0 mc ms hC hR H locs cells slots ρ ls hT hcs
  refine lv_iconst hC.1 hC.2.1 hd hv ?_
  exact am_k k hC hR ⟨⟨trivial, hT.1⟩, hT.2⟩ hcs
theorem am_bipush (pc : Nat) {M : am_M} {rc rs n : Nat} {L : List (Option Value)} {st : List Value} {f : Nat → am_C} {P : am_P} {i : Int} {v : Int32} (hd : decode (am_by M) pc = .ok (.bipush i, 2)) (hv : (Int8.ofInt i).toInt32 = v) (k : AW M rc rs (pc + 2) L (.int v :: st) n f P) : AW M rc rs pc L (st) n f P := by
  intro D cA p l e R s m args below meth c A n0 ρ0 mc ms hC hR H locs cells slots ρ ls hT hcs
  refine lv_bipush hC.1 hC.2.1 hd hv ?_
  exact am_k k hC hR ⟨⟨trivial, hT.1⟩, hT.2⟩ hcs
theorem am_sipush (pc : Nat) {M : am_M} {rc rs n : Nat} {L : List (Option Value)} {st : List Value} {f : Nat → am_C} {P : am_P} {i : Int} {v : Int32} (hd : decode (am_by M) pc = .ok (.sipush i, 3)) (hv : (Int16.ofInt i).toInt32 = v) (k : AW M rc rs (pc + 3) L (.int v :: st) n f P) : AW M rc rs pc L (st) n f P := by
  intro D cA p l e R s m args below meth c A n0 ρ0 mc ms hC hR H locs cells slots ρ ls hT hcs
  refine lv_sipush hC.1 hC.2.1 hd hv ?_
  exact am_k k hC hR ⟨⟨trivial, hT.1⟩, hT.2⟩ hcs
theorem am_lconst (pc : Nat) {M : am_M} {rc rs n : Nat} {L : List (Option Value)} {st : List Value} {f : Nat → am_C} {P : am_P} {i : Fin 2} {v : Int64} (hd : decode (am_by M) pc = .ok (.lconst i, 1)) (hv : Int64.ofNat (i : Nat) = v) (k : AW M rc rs (pc + 1) L (.long v :: st) n f P) : AW M rc rs pc L (st) n f P := by
  intro D cA p l e R s m args below meth c A n0 ρ0 mc ms hC hR H locs cells slots ρ ls hT hcs
  refine lv_lconst hC.1 hC.2.1 hd hv ?_
  exact am_k k hC hR ⟨⟨trivial, hT.1⟩, hT.2⟩ hcs
theorem am_fconst0 (pc : Nat) {M : am_M} {rc rs n : Nat} {L : List (Option Value)} {st : List Value} {f : Nat → am_C} {P : am_P}  (hd : decode (am_by M) pc = .ok (.fconst 0, 1)) (k : AW M rc rs (pc + 1) L (.float FP.fconst0 :: st) n f P) : AW M rc rs pc L (st) n f P := by
  intro D cA p l e R s m args below meth c A n0 ρ0 mc ms hC hR H locs cells slots ρ ls hT hcs
  refine lv_fconst0 hC.1 hC.2.1 hd ?_
  exact am_k k hC hR ⟨⟨trivial, hT.1⟩, hT.2⟩ hcs
theorem am_fconst1 (pc : Nat) {M : am_M} {rc rs n : Nat} {L : List (Option Value)} {st : List Value} {f : Nat → am_C} {P : am_P}  (hd : decode (am_by M) pc = .ok (.fconst 1, 1)) (k : AW M rc rs (pc + 1) L (.float FP.fconst1 :: st) n f P) : AW M rc rs pc L (st) n f P := by
  intro D cA p l e R s m args below meth c A n0 ρ0 mc ms hC hR H locs cells slots ρ ls hT hcs
  refine lv_fconst1 hC.1 hC.2.1 hd ?_
  exact am_k k hC hR ⟨⟨trivial, hT.1⟩, hT.2⟩ hcs
theorem am_fconst2 (pc : Nat) {M : am_M} {rc rs n : Nat} {L : List (Option Value)} {st : List Value} {f : Nat → am_C} {P : am_P}  (hd : decode (am_by M) pc = .ok (.fconst 2, 1)) (k : AW M rc rs (pc + 1) L (.float FP.fconst2 :: st) n f P) : AW M rc rs pc L (st) n f P := by
  intro D cA p l e R s m args below meth c A n0 ρ0 mc ms hC hR H locs cells slots ρ ls hT hcs
  refine lv_fconst2 hC.1 hC.2.1 hd ?_
  exact am_k k hC hR ⟨⟨trivial, hT.1⟩, hT.2⟩ hcs
theorem am_dconst0 (pc : Nat) {M : am_M} {rc rs n : Nat} {L : List (Option Value)} {st : List Value} {f : Nat → am_C} {P : am_P}  (hd : decode (am_by M) pc = .ok (.dconst 0, 1)) (k : AW M rc rs (pc + 1) L (.double FP.dconst0 :: st) n f P) : AW M rc rs pc L (st) n f P := by
  intro D cA p l e R s m args below meth c A n0 ρ0 mc ms hC hR H locs cells slots ρ ls hT hcs
  refine lv_dconst0 hC.1 hC.2.1 hd ?_
  exact am_k k hC hR ⟨⟨trivial, hT.1⟩, hT.2⟩ hcs
theorem am_dconst1 (pc : Nat) {M : am_M} {rc rs n : Nat} {L : List (Option Value)} {st : List Value} {f : Nat → am_C} {P : am_P}  (hd : decode (am_by M) pc = .ok (.dconst 1, 1)) (k : AW M rc rs (pc + 1) L (.double FP.dconst1 :: st) n f P) : AW M rc rs pc L (st) n f P := by
  intro D cA p l e R s m args below meth c A n0 ρ0 mc ms hC hR H locs cells slots ρ ls hT hcs
  refine lv_dconst1 hC.1 hC.2.1 hd ?_
  exact am_k k hC hR ⟨⟨trivial, hT.1⟩, hT.2⟩ hcs
theorem am_null (pc : Nat) {M : am_M} {rc rs n : Nat} {L : List (Option Value)} {st : List Value} {f : Nat → am_C} {P : am_P}  (hd : decode (am_by M) pc = .ok (.aconst_null, 1)) (k : AW M rc rs (pc + 1) L (.null :: st) n f P) : AW M rc rs pc L (st) n f P := by
  intro D cA p l e R s m args below meth c A n0 ρ0 mc ms hC hR H locs cells slots ρ ls hT hcs
  refine lv_null hC.1 hC.2.1 hd ?_
  exact am_k k hC hR ⟨⟨trivial, hT.1⟩, hT.2⟩ hcs
theorem am_ldc (pc : Nat) {M : am_M} {rc rs n : Nat} {L : List (Option Value)} {st : List Value} {f : Nat → am_C} {P : am_P} {ix : Nat} {v : Int32} (hd : decode (am_by M) pc = .ok (.ldc ix, 2)) (hw : Cond.constant (am_y M).cls ix v ∈ am_W) (k : AW M rc rs (pc + 2) L (.int v :: st) n f P) : AW M rc rs pc L (st) n f P := by
  intro D cA p l e R s m args below meth c A n0 ρ0 mc ms hC hR H locs cells slots ρ ls hT hcs
  refine lv_ldc hC.1 hC.2.1 hC.2.2.2.2.1 (hC.2.2.2.2.2.1 _ hw) hd ?_
  exact am_k k hC hR ⟨⟨trivial, hT.1⟩, hT.2⟩ hcs
theorem am_ldcw (pc : Nat) {M : am_M} {rc rs n : Nat} {L : List (Option Value)} {st : List Value} {f : Nat → am_C} {P : am_P} {ix : Nat} {v : Int32} (hd : decode (am_by M) pc = .ok (.ldc_w ix, 3)) (hw : Cond.constant (am_y M).cls ix v ∈ am_W) (k : AW M rc rs (pc + 3) L (.int v :: st) n f P) : AW M rc rs pc L (st) n f P := by
  intro D cA p l e R s m args below meth c A n0 ρ0 mc ms hC hR H locs cells slots ρ ls hT hcs
  refine lv_ldcw hC.1 hC.2.1 hC.2.2.2.2.1 (hC.2.2.2.2.2.1 _ hw) hd ?_
  exact am_k k hC hR ⟨⟨trivial, hT.1⟩, hT.2⟩ hcs
theorem am_ldcf (pc : Nat) {M : am_M} {rc rs n : Nat} {L : List (Option Value)} {st : List Value} {f : Nat → am_C} {P : am_P} {ix : Nat} {v : UInt32} (hd : decode (am_by M) pc = .ok (.ldc ix, 2)) (hw : Cond.constantFloat (am_y M).cls ix v ∈ am_W) (k : AW M rc rs (pc + 2) L (.float v :: st) n f P) : AW M rc rs pc L (st) n f P := by
  intro D cA p l e R s m args below meth c A n0 ρ0 mc ms hC hR H locs cells slots ρ ls hT hcs
  refine lv_ldcf hC.1 hC.2.1 hC.2.2.2.2.1 (hC.2.2.2.2.2.1 _ hw) hd ?_
  exact am_k k hC hR ⟨⟨trivial, hT.1⟩, hT.2⟩ hcs
theorem am_ldc2 (pc : Nat) {M : am_M} {rc rs n : Nat} {L : List (Option Value)} {st : List Value} {f : Nat → am_C} {P : am_P} {ix : Nat} {v : Int64} (hd : decode (am_by M) pc = .ok (.ldc2_w ix, 3)) (hw : Cond.constantLong (am_y M).cls ix v ∈ am_W) (k : AW M rc rs (pc + 3) L (.long v :: st) n f P) : AW M rc rs pc L (st) n f P := by
  intro D cA p l e R s m args below meth c A n0 ρ0 mc ms hC hR H locs cells slots ρ ls hT hcs
  refine lv_ldc2 hC.1 hC.2.1 hC.2.2.2.2.1 (hC.2.2.2.2.2.1 _ hw) hd ?_
  exact am_k k hC hR ⟨⟨trivial, hT.1⟩, hT.2⟩ hcs
theorem am_ldc2d (pc : Nat) {M : am_M} {rc rs n : Nat} {L : List (Option Value)} {st : List Value} {f : Nat → am_C} {P : am_P} {ix : Nat} {v : UInt64} (hd : decode (am_by M) pc = .ok (.ldc2_w ix, 3)) (hw : Cond.constantDouble (am_y M).cls ix v ∈ am_W) (k : AW M rc rs (pc + 3) L (.double v :: st) n f P) : AW M rc rs pc L (st) n f P := by
  intro D cA p l e R s m args below meth c A n0 ρ0 mc ms hC hR H locs cells slots ρ ls hT hcs
  refine lv_ldc2d hC.1 hC.2.1 hC.2.2.2.2.1 (hC.2.2.2.2.2.1 _ hw) hd ?_
  exact am_k k hC hR ⟨⟨trivial, hT.1⟩, hT.2⟩ hcs
theorem am_iload_n (pc : Nat) {M : am_M} {rc rs n : Nat} {L : List (Option Value)} {st : List Value} {f : Nat → am_C} {P : am_P} {q : Fin 4} {x : Int32} (hd : decode (am_by M) pc = .ok (.iload_n q, 1)) (hl : L[(q : Nat)]? = some (some (.int x))) (k : AW M rc rs (pc + 1) L (.int x :: st) n f P) : AW M rc rs pc L (st) n f P := by
  intro D cA p l e R s m args below meth c A n0 ρ0 mc ms hC hR H locs cells slots ρ ls hT hcs
  refine lv_iload_n hC.1 hC.2.1 hd rfl (hT.2.1.2.2.2 _ _ hl) ?_
  exact am_k k hC hR ⟨⟨trivial, hT.1⟩, hT.2⟩ hcs
theorem am_iload (pc : Nat) {M : am_M} {rc rs n : Nat} {L : List (Option Value)} {st : List Value} {f : Nat → am_C} {P : am_P} {i : Nat} {x : Int32} (hd : decode (am_by M) pc = .ok (.iload i, 2)) (hl : L[i]? = some (some (.int x))) (k : AW M rc rs (pc + 2) L (.int x :: st) n f P) : AW M rc rs pc L (st) n f P := by
  intro D cA p l e R s m args below meth c A n0 ρ0 mc ms hC hR H locs cells slots ρ ls hT hcs
  refine lv_iload hC.1 hC.2.1 hd (hT.2.1.2.2.2 _ _ hl) ?_
  exact am_k k hC hR ⟨⟨trivial, hT.1⟩, hT.2⟩ hcs
theorem am_lload_n (pc : Nat) {M : am_M} {rc rs n : Nat} {L : List (Option Value)} {st : List Value} {f : Nat → am_C} {P : am_P} {q : Fin 4} {x : Int64} (hd : decode (am_by M) pc = .ok (.lload_n q, 1)) (hl : L[(q : Nat)]? = some (some (.long x))) (k : AW M rc rs (pc + 1) L (.long x :: st) n f P) : AW M rc rs pc L (st) n f P := by
  intro D cA p l e R s m args below meth c A n0 ρ0 mc ms hC hR H locs cells slots ρ ls hT hcs
  refine lv_lload_n hC.1 hC.2.1 hd rfl (hT.2.1.2.2.2 _ _ hl) ?_
  exact am_k k hC hR ⟨⟨trivial, hT.1⟩, hT.2⟩ hcs
theorem am_lload (pc : Nat) {M : am_M} {rc rs n : Nat} {L : List (Option Value)} {st : List Value} {f : Nat → am_C} {P : am_P} {i : Nat} {x : Int64} (hd : decode (am_by M) pc = .ok (.lload i, 2)) (hl : L[i]? = some (some (.long x))) (k : AW M rc rs (pc + 2) L (.long x :: st) n f P) : AW M rc rs pc L (st) n f P := by
  intro D cA p l e R s m args below meth c A n0 ρ0 mc ms hC hR H locs cells slots ρ ls hT hcs
  refine lv_lload hC.1 hC.2.1 hd (hT.2.1.2.2.2 _ _ hl) ?_
  exact am_k k hC hR ⟨⟨trivial, hT.1⟩, hT.2⟩ hcs
theorem am_fload_n (pc : Nat) {M : am_M} {rc rs n : Nat} {L : List (Option Value)} {st : List Value} {f : Nat → am_C} {P : am_P} {q : Fin 4} {x : UInt32} (hd : decode (am_by M) pc = .ok (.fload_n q, 1)) (hl : L[(q : Nat)]? = some (some (.float x))) (k : AW M rc rs (pc + 1) L (.float x :: st) n f P) : AW M rc rs pc L (st) n f P := by
  intro D cA p l e R s m args below meth c A n0 ρ0 mc ms hC hR H locs cells slots ρ ls hT hcs
  refine lv_fload_n hC.1 hC.2.1 hd rfl (hT.2.1.2.2.2 _ _ hl) ?_
  exact am_k k hC hR ⟨⟨trivial, hT.1⟩, hT.2⟩ hcs
theorem am_fload (pc : Nat) {M : am_M} {rc rs n : Nat} {L : List (Option Value)} {st : List Value} {f : Nat → am_C} {P : am_P} {i : Nat} {x : UInt32} (hd : decode (am_by M) pc = .ok (.fload i, 2)) (hl : L[i]? = some (some (.float x))) (k : AW M rc rs (pc + 2) L (.float x :: st) n f P) : AW M rc rs pc L (st) n f P := by
  intro D cA p l e R s m args below meth c A n0 ρ0 mc ms hC hR H locs cells slots ρ ls hT hcs
  refine lv_fload hC.1 hC.2.1 hd (hT.2.1.2.2.2 _ _ hl) ?_
  exact am_k k hC hR ⟨⟨trivial, hT.1⟩, hT.2⟩ hcs
theorem am_dload_n (pc : Nat) {M : am_M} {rc rs n : Nat} {L : List (Option Value)} {st : List Value} {f : Nat → am_C} {P : am_P} {q : Fin 4} {x : UInt64} (hd : decode (am_by M) pc = .ok (.dload_n q, 1)) (hl : L[(q : Nat)]? = some (some (.double x))) (k : AW M rc rs (pc + 1) L (.double x :: st) n f P) : AW M rc rs pc L (st) n f P := by
  intro D cA p l e R s m args below meth c A n0 ρ0 mc ms hC hR H locs cells slots ρ ls hT hcs
  refine lv_dload_n hC.1 hC.2.1 hd rfl (hT.2.1.2.2.2 _ _ hl) ?_
  exact am_k k hC hR ⟨⟨trivial, hT.1⟩, hT.2⟩ hcs
theorem am_dload (pc : Nat) {M : am_M} {rc rs n : Nat} {L : List (Option Value)} {st : List Value} {f : Nat → am_C} {P : am_P} {i : Nat} {x : UInt64} (hd : decode (am_by M) pc = .ok (.dload i, 2)) (hl : L[i]? = some (some (.double x))) (k : AW M rc rs (pc + 2) L (.double x :: st) n f P) : AW M rc rs pc L (st) n f P := by
  intro D cA p l e R s m args below meth c A n0 ρ0 mc ms hC hR H locs cells slots ρ ls hT hcs
  refine lv_dload hC.1 hC.2.1 hd (hT.2.1.2.2.2 _ _ hl) ?_
  exact am_k k hC hR ⟨⟨trivial, hT.1⟩, hT.2⟩ hcs
theorem am_aload_n (pc : Nat) {M : am_M} {rc rs n : Nat} {L : List (Option Value)} {st : List Value} {f : Nat → am_C} {P : am_P} {q : Fin 4} {x : Nat} (hd : decode (am_by M) pc = .ok (.aload_n q, 1)) (hl : L[(q : Nat)]? = some (some (.ref x))) (k : AW M rc rs (pc + 1) L (.ref x :: st) n f P) : AW M rc rs pc L (st) n f P := by
  intro D cA p l e R s m args below meth c A n0 ρ0 mc ms hC hR H locs cells slots ρ ls hT hcs
  refine lv_aload_n hC.1 hC.2.1 hd rfl (hT.2.1.2.2.2 _ _ hl) ?_
  exact am_k k hC hR ⟨⟨hT.2.1.1 _ _ hl, hT.1⟩, hT.2⟩ hcs
theorem am_aload (pc : Nat) {M : am_M} {rc rs n : Nat} {L : List (Option Value)} {st : List Value} {f : Nat → am_C} {P : am_P} {i : Nat} {x : Nat} (hd : decode (am_by M) pc = .ok (.aload i, 2)) (hl : L[i]? = some (some (.ref x))) (k : AW M rc rs (pc + 2) L (.ref x :: st) n f P) : AW M rc rs pc L (st) n f P := by
  intro D cA p l e R s m args below meth c A n0 ρ0 mc ms hC hR H locs cells slots ρ ls hT hcs
  refine lv_aload hC.1 hC.2.1 hd (hT.2.1.2.2.2 _ _ hl) ?_
  exact am_k k hC hR ⟨⟨hT.2.1.1 _ _ hl, hT.1⟩, hT.2⟩ hcs
theorem am_aload_nN (pc : Nat) {M : am_M} {rc rs n : Nat} {L : List (Option Value)} {st : List Value} {f : Nat → am_C} {P : am_P} {q : Fin 4} (hd : decode (am_by M) pc = .ok (.aload_n q, 1)) (hl : L[(q : Nat)]? = some (some .null)) (k : AW M rc rs (pc + 1) L (.null :: st) n f P) : AW M rc rs pc L (st) n f P := by
  intro D cA p l e R s m args below meth c A n0 ρ0 mc ms hC hR H locs cells slots ρ ls hT hcs
  refine lv_aload_nN hC.1 hC.2.1 hd rfl (hT.2.1.2.2.2 _ _ hl) ?_
  exact am_k k hC hR ⟨⟨trivial, hT.1⟩, hT.2⟩ hcs
theorem am_aloadN (pc : Nat) {M : am_M} {rc rs n : Nat} {L : List (Option Value)} {st : List Value} {f : Nat → am_C} {P : am_P} {i : Nat} (hd : decode (am_by M) pc = .ok (.aload i, 2)) (hl : L[i]? = some (some .null)) (k : AW M rc rs (pc + 2) L (.null :: st) n f P) : AW M rc rs pc L (st) n f P := by
  intro D cA p l e R s m args below meth c A n0 ρ0 mc ms hC hR H locs cells slots ρ ls hT hcs
  refine lv_aloadN hC.1 hC.2.1 hd (hT.2.1.2.2.2 _ _ hl) ?_
  exact am_k k hC hR ⟨⟨trivial, hT.1⟩, hT.2⟩ hcs
theorem am_istore_n (pc : Nat) {M : am_M} {rc rs n : Nat} {L : List (Option Value)} {st : List Value} {f : Nat → am_C} {P : am_P} {q : Fin 4} {x : Int32} (hd : decode (am_by M) pc = .ok (.istore_n q, 1)) (hi : (q : Nat) < am_mL M) (k : AW M rc rs (pc + 1) (am_s1 L (q : Nat) (.int x)) st n f P) : AW M rc rs pc L (.int x :: st) n f P := by
  intro D cA p l e R s m args below meth c A n0 ρ0 mc ms hC hR H locs cells slots ρ ls hT hcs
  refine lv_istore_n hC.1 hC.2.1 hd rfl (am_L_has hT.2.1.2) hi rfl ?_
  intro ls hl
  exact am_k k hC hR ⟨hT.1.2, ⟨am_ln_s1 hT.2.1.1 trivial, am_L_s1 rfl hl⟩, hT.2.2⟩ hcs
theorem am_istore (pc : Nat) {M : am_M} {rc rs n : Nat} {L : List (Option Value)} {st : List Value} {f : Nat → am_C} {P : am_P} {i : Nat} {x : Int32} (hd : decode (am_by M) pc = .ok (.istore i, 2)) (hi : i < am_mL M) (k : AW M rc rs (pc + 2) (am_s1 L i (.int x)) st n f P) : AW M rc rs pc L (.int x :: st) n f P := by
  intro D cA p l e R s m args below meth c A n0 ρ0 mc ms hC hR H locs cells slots ρ ls hT hcs
  refine lv_istore hC.1 hC.2.1 hd (am_L_has hT.2.1.2) hi rfl ?_
  intro ls hl
  exact am_k k hC hR ⟨hT.1.2, ⟨am_ln_s1 hT.2.1.1 trivial, am_L_s1 rfl hl⟩, hT.2.2⟩ hcs
theorem am_lstore_n (pc : Nat) {M : am_M} {rc rs n : Nat} {L : List (Option Value)} {st : List Value} {f : Nat → am_C} {P : am_P} {q : Fin 4} {x : Int64} (hd : decode (am_by M) pc = .ok (.lstore_n q, 1)) (hi : (q : Nat) + 1 < am_mL M) (k : AW M rc rs (pc + 1) (am_s2 L (q : Nat) (.long x)) st n f P) : AW M rc rs pc L (.long x :: st) n f P := by
  intro D cA p l e R s m args below meth c A n0 ρ0 mc ms hC hR H locs cells slots ρ ls hT hcs
  refine lv_lstore_n hC.1 hC.2.1 hd rfl (am_L_has hT.2.1.2) hi rfl ?_
  intro ls hl
  exact am_k k hC hR ⟨hT.1.2, ⟨am_ln_s2 hT.2.1.1 trivial, am_L_s2 rfl hl⟩, hT.2.2⟩ hcs
theorem am_lstore (pc : Nat) {M : am_M} {rc rs n : Nat} {L : List (Option Value)} {st : List Value} {f : Nat → am_C} {P : am_P} {i : Nat} {x : Int64} (hd : decode (am_by M) pc = .ok (.lstore i, 2)) (hi : i + 1 < am_mL M) (k : AW M rc rs (pc + 2) (am_s2 L i (.long x)) st n f P) : AW M rc rs pc L (.long x :: st) n f P := by
  intro D cA p l e R s m args below meth c A n0 ρ0 mc ms hC hR H locs cells slots ρ ls hT hcs
  refine lv_lstore hC.1 hC.2.1 hd (am_L_has hT.2.1.2) hi rfl ?_
  intro ls hl
  exact am_k k hC hR ⟨hT.1.2, ⟨am_ln_s2 hT.2.1.1 trivial, am_L_s2 rfl hl⟩, hT.2.2⟩ hcs
theorem am_fstore_n (pc : Nat) {M : am_M} {rc rs n : Nat} {L : List (Option Value)} {st : List Value} {f : Nat → am_C} {P : am_P} {q : Fin 4} {x : UInt32} (hd : decode (am_by M) pc = .ok (.fstore_n q, 1)) (hi : (q : Nat) < am_mL M) (k : AW M rc rs (pc + 1) (am_s1 L (q : Nat) (.float x)) st n f P) : AW M rc rs pc L (.float x :: st) n f P := by
  intro D cA p l e R s m args below meth c A n0 ρ0 mc ms hC hR H locs cells slots ρ ls hT hcs
  refine lv_fstore_n hC.1 hC.2.1 hd rfl (am_L_has hT.2.1.2) hi rfl ?_
  intro ls hl
  exact am_k k hC hR ⟨hT.1.2, ⟨am_ln_s1 hT.2.1.1 trivial, am_L_s1 rfl hl⟩, hT.2.2⟩ hcs
theorem am_fstore (pc : Nat) {M : am_M} {rc rs n : Nat} {L : List (Option Value)} {st : List Value} {f : Nat → am_C} {P : am_P} {i : Nat} {x : UInt32} (hd : decode (am_by M) pc = .ok (.fstore i, 2)) (hi : i < am_mL M) (k : AW M rc rs (pc + 2) (am_s1 L i (.float x)) st n f P) : AW M rc rs pc L (.float x :: st) n f P := by
  intro D cA p l e R s m args below meth c A n0 ρ0 mc ms hC hR H locs cells slots ρ ls hT hcs
  refine lv_fstore hC.1 hC.2.1 hd (am_L_has hT.2.1.2) hi rfl ?_
  intro ls hl
  exact am_k k hC hR ⟨hT.1.2, ⟨am_ln_s1 hT.2.1.1 trivial, am_L_s1 rfl hl⟩, hT.2.2⟩ hcs
theorem am_dstore_n (pc : Nat) {M : am_M} {rc rs n : Nat} {L : List (Option Value)} {st : List Value} {f : Nat → am_C} {P : am_P} {q : Fin 4} {x : UInt64} (hd : decode (am_by M) pc = .ok (.dstore_n q, 1)) (hi : (q : Nat) + 1 < am_mL M) (k : AW M rc rs (pc + 1) (am_s2 L (q : Nat) (.double x)) st n f P) : AW M rc rs pc L (.double x :: st) n f P := by
  intro D cA p l e R s m args below meth c A n0 ρ0 mc ms hC hR H locs cells slots ρ ls hT hcs
  refine lv_dstore_n hC.1 hC.2.1 hd rfl (am_L_has hT.2.1.2) hi rfl ?_
  intro ls hl
  exact am_k k hC hR ⟨hT.1.2, ⟨am_ln_s2 hT.2.1.1 trivial, am_L_s2 rfl hl⟩, hT.2.2⟩ hcs
theorem am_dstore (pc : Nat) {M : am_M} {rc rs n : Nat} {L : List (Option Value)} {st : List Value} {f : Nat → am_C} {P : am_P} {i : Nat} {x : UInt64} (hd : decode (am_by M) pc = .ok (.dstore i, 2)) (hi : i + 1 < am_mL M) (k : AW M rc rs (pc + 2) (am_s2 L i (.double x)) st n f P) : AW M rc rs pc L (.double x :: st) n f P := by
  intro D cA p l e R s m args below meth c A n0 ρ0 mc ms hC hR H locs cells slots ρ ls hT hcs
  refine lv_dstore hC.1 hC.2.1 hd (am_L_has hT.2.1.2) hi rfl ?_
  intro ls hl
  exact am_k k hC hR ⟨hT.1.2, ⟨am_ln_s2 hT.2.1.1 trivial, am_L_s2 rfl hl⟩, hT.2.2⟩ hcs
theorem am_astore_n (pc : Nat) {M : am_M} {rc rs n : Nat} {L : List (Option Value)} {st : List Value} {f : Nat → am_C} {P : am_P} {q : Fin 4} {x : Nat} (hd : decode (am_by M) pc = .ok (.astore_n q, 1)) (hi : (q : Nat) < am_mL M) (k : AW M rc rs (pc + 1) (am_s1 L (q : Nat) (.ref x)) st n f P) : AW M rc rs pc L (.ref x :: st) n f P := by
  intro D cA p l e R s m args below meth c A n0 ρ0 mc ms hC hR H locs cells slots ρ ls hT hcs
  refine lv_astore_n hC.1 hC.2.1 hd rfl (am_L_has hT.2.1.2) hi rfl ?_
  intro ls hl
  exact am_k k hC hR ⟨hT.1.2, ⟨am_ln_s1 hT.2.1.1 hT.1.1, am_L_s1 rfl hl⟩, hT.2.2⟩ hcs
theorem am_astore (pc : Nat) {M : am_M} {rc rs n : Nat} {L : List (Option Value)} {st : List Value} {f : Nat → am_C} {P : am_P} {i x : Nat} (hd : decode (am_by M) pc = .ok (.astore i, 2)) (hi : i < am_mL M) (k : AW M rc rs (pc + 2) (am_s1 L i (.ref x)) st n f P) : AW M rc rs pc L (.ref x :: st) n f P := by
  intro D cA p l e R s m args below meth c A n0 ρ0 mc ms hC hR H locs cells slots ρ ls hT hcs
  refine lv_astore hC.1 hC.2.1 hd (am_L_has hT.2.1.2) hi rfl ?_
  intro ls hl
  exact am_k k hC hR ⟨hT.1.2, ⟨am_ln_s1 hT.2.1.1 hT.1.1, am_L_s1 rfl hl⟩, hT.2.2⟩ hcs
theorem am_astore_nN (pc : Nat) {M : am_M} {rc rs n : Nat} {L : List (Option Value)} {st : List Value} {f : Nat → am_C} {P : am_P} {q : Fin 4} (hd : decode (am_by M) pc = .ok (.astore_n q, 1)) (hi : (q : Nat) < am_mL M) (k : AW M rc rs (pc + 1) (am_s1 L (q : Nat) (.null)) st n f P) : AW M rc rs pc L (.null :: st) n f P := by
  intro D cA p l e R s m args below meth c A n0 ρ0 mc ms hC hR H locs cells slots ρ ls hT hcs
  refine lv_astore_nN hC.1 hC.2.1 hd rfl (am_L_has hT.2.1.2) hi rfl ?_
  intro ls hl
  exact am_k k hC hR ⟨hT.1.2, ⟨am_ln_s1 hT.2.1.1 trivial, am_L_s1 rfl hl⟩, hT.2.2⟩ hcs
theorem am_astoreN (pc : Nat) {M : am_M} {rc rs n : Nat} {L : List (Option Value)} {st : List Value} {f : Nat → am_C} {P : am_P} {i : Nat} (hd : decode (am_by M) pc = .ok (.astore i, 2)) (hi : i < am_mL M) (k : AW M rc rs (pc + 2) (am_s1 L i (.null)) st n f P) : AW M rc rs pc L (.null :: st) n f P := by
  intro D cA p l e R s m args below meth c A n0 ρ0 mc ms hC hR H locs cells slots ρ ls hT hcs
  refine lv_astoreN hC.1 hC.2.1 hd (am_L_has hT.2.1.2) hi rfl ?_
  intro ls hl
  exact am_k k hC hR ⟨hT.1.2, ⟨am_ln_s1 hT.2.1.1 trivial, am_L_s1 rfl hl⟩, hT.2.2⟩ hcs
theorem am_iinc (pc : Nat) {M : am_M} {rc rs n : Nat} {L : List (Option Value)} {st : List Value} {f : Nat → am_C} {P : am_P} {i : Nat} {d : Int} {x v : Int32} (hd : decode (am_by M) pc = .ok (.iinc i d, 3)) (hl : L[i]? = some (some (.int x))) (hv : x + Int32.ofInt d = v) (hi : i < am_mL M) (k : AW M rc rs (pc + 3) (am_s1 L i (.int v)) st n f P) : AW M rc rs pc L st n f P := by
  intro D cA p l e R s m args below meth c A n0 ρ0 mc ms hC hR H locs cells slots ρ ls hT hcs
  obtain ⟨kk, hkk⟩ := List.getElem?_of_mem (am_ll_mem ρ L 0 i _ hl)
  rw [Nat.zero_add] at hkk
  refine lv_iinc hC.1 hC.2.1 hd (am_L_has hT.2.1.2) hkk hv hi rfl ?_
  intro ls hl
  exact am_k k hC hR ⟨hT.1, ⟨am_ln_s1 hT.2.1.1 trivial, am_L_s1 rfl hl⟩, hT.2.2⟩ hcs
theorem am_iadd (pc : Nat) {M : am_M} {rc rs n : Nat} {L : List (Option Value)} {st : List Value} {f : Nat → am_C} {P : am_P} {x y : Int32} (hd : decode (am_by M) pc = .ok (.iadd, 1)) (k : AW M rc rs (pc + 1) L (.int (x + y) :: st) n f P) : AW M rc rs pc L (.int y :: .int x :: st) n f P := by
  intro D cA p l e R s m args below meth c A n0 ρ0 mc ms hC hR H locs cells slots ρ ls hT hcs
  refine lv_iadd hC.1 hC.2.1 hd ?_
  exact am_k k hC hR ⟨⟨trivial, hT.1.2.2⟩, hT.2⟩ hcs
theorem am_isub (pc : Nat) {M : am_M} {rc rs n : Nat} {L : List (Option Value)} {st : List Value} {f : Nat → am_C} {P : am_P} {x y : Int32} (hd : decode (am_by M) pc = .ok (.isub, 1)) (k : AW M rc rs (pc + 1) L (.int (x - y) :: st) n f P) : AW M rc rs pc L (.int y :: .int x :: st) n f P := by
  intro D cA p l e R s m args below meth c A n0 ρ0 mc ms hC hR H locs cells slots ρ ls hT hcs
  refine lv_isub hC.1 hC.2.1 hd ?_
  exact am_k k hC hR ⟨⟨trivial, hT.1.2.2⟩, hT.2⟩ hcs
theorem am_imul (pc : Nat) {M : am_M} {rc rs n : Nat} {L : List (Option Value)} {st : List Value} {f : Nat → am_C} {P : am_P} {x y : Int32} (hd : decode (am_by M) pc = .ok (.imul, 1)) (k : AW M rc rs (pc + 1) L (.int (x * y) :: st) n f P) : AW M rc rs pc L (.int y :: .int x :: st) n f P := by
  intro D cA p l e R s m args below meth c A n0 ρ0 mc ms hC hR H locs cells slots ρ ls hT hcs
  refine lv_imul hC.1 hC.2.1 hd ?_
  exact am_k k hC hR ⟨⟨trivial, hT.1.2.2⟩, hT.2⟩ hcs
theorem am_iand (pc : Nat) {M : am_M} {rc rs n : Nat} {L : List (Option Value)} {st : List Value} {f : Nat → am_C} {P : am_P} {x y : Int32} (hd : decode (am_by M) pc = .ok (.iand, 1)) (k : AW M rc rs (pc + 1) L (.int (x &&& y) :: st) n f P) : AW M rc rs pc L (.int y :: .int x :: st) n f P := by
  intro D cA p l e R s m args below meth c A n0 ρ0 mc ms hC hR H locs cells slots ρ ls hT hcs
  refine lv_iand hC.1 hC.2.1 hd ?_
  exact am_k k hC hR ⟨⟨trivial, hT.1.2.2⟩, hT.2⟩ hcs
theorem am_ior (pc : Nat) {M : am_M} {rc rs n : Nat} {L : List (Option Value)} {st : List Value} {f : Nat → am_C} {P : am_P} {x y : Int32} (hd : decode (am_by M) pc = .ok (.ior, 1)) (k : AW M rc rs (pc + 1) L (.int (x ||| y) :: st) n f P) : AW M rc rs pc L (.int y :: .int x :: st) n f P := by
  intro D cA p l e R s m args below meth c A n0 ρ0 mc ms hC hR H locs cells slots ρ ls hT hcs
  refine lv_ior hC.1 hC.2.1 hd ?_
  exact am_k k hC hR ⟨⟨trivial, hT.1.2.2⟩, hT.2⟩ hcs
theorem am_ixor (pc : Nat) {M : am_M} {rc rs n : Nat} {L : List (Option Value)} {st : List Value} {f : Nat → am_C} {P : am_P} {x y : Int32} (hd : decode (am_by M) pc = .ok (.ixor, 1)) (k : AW M rc rs (pc + 1) L (.int (x ^^^ y) :: st) n f P) : AW M rc rs pc L (.int y :: .int x :: st) n f P := by
  intro D cA p l e R s m args below meth c A n0 ρ0 mc ms hC hR H locs cells slots ρ ls hT hcs
  refine lv_ixor hC.1 hC.2.1 hd ?_
  exact am_k k hC hR ⟨⟨trivial, hT.1.2.2⟩, hT.2⟩ hcs
theorem am_ishl (pc : Nat) {M : am_M} {rc rs n : Nat} {L : List (Option Value)} {st : List Value} {f : Nat → am_C} {P : am_P} {x y : Int32} (hd : decode (am_by M) pc = .ok (.ishl, 1)) (k : AW M rc rs (pc + 1) L (.int (x <<< (y &&& 31)) :: st) n f P) : AW M rc rs pc L (.int y :: .int x :: st) n f P := by
  intro D cA p l e R s m args below meth c A n0 ρ0 mc ms hC hR H locs cells slots ρ ls hT hcs
  refine lv_ishl hC.1 hC.2.1 hd ?_
  exact am_k k hC hR ⟨⟨trivial, hT.1.2.2⟩, hT.2⟩ hcs
theorem am_ishr (pc : Nat) {M : am_M} {rc rs n : Nat} {L : List (Option Value)} {st : List Value} {f : Nat → am_C} {P : am_P} {x y : Int32} (hd : decode (am_by M) pc = .ok (.ishr, 1)) (k : AW M rc rs (pc + 1) L (.int (x >>> (y &&& 31)) :: st) n f P) : AW M rc rs pc L (.int y :: .int x :: st) n f P := by
  intro D cA p l e R s m args below meth c A n0 ρ0 mc ms hC hR H locs cells slots ρ ls hT hcs
  refine lv_ishr hC.1 hC.2.1 hd ?_
  exact am_k k hC hR ⟨⟨trivial, hT.1.2.2⟩, hT.2⟩ hcs
theorem am_idiv (pc : Nat) {M : am_M} {rc rs n : Nat} {L : List (Option Value)} {st : List Value} {f : Nat → am_C} {P : am_P} {x y : Int32} (hd : decode (am_by M) pc = .ok (.idiv, 1)) (hne : ¬ y = 0) (k : AW M rc rs (pc + 1) L (.int (x / y) :: st) n f P) : AW M rc rs pc L (.int y :: .int x :: st) n f P := by
  intro D cA p l e R s m args below meth c A n0 ρ0 mc ms hC hR H locs cells slots ρ ls hT hcs
  refine lv_idiv hC.1 hC.2.1 hd hne ?_
  exact am_k k hC hR ⟨⟨trivial, hT.1.2.2⟩, hT.2⟩ hcs
theorem am_irem (pc : Nat) {M : am_M} {rc rs n : Nat} {L : List (Option Value)} {st : List Value} {f : Nat → am_C} {P : am_P} {x y : Int32} (hd : decode (am_by M) pc = .ok (.irem, 1)) (hne : ¬ y = 0) (k : AW M rc rs (pc + 1) L (.int (x - x / y * y) :: st) n f P) : AW M rc rs pc L (.int y :: .int x :: st) n f P := by
  intro D cA p l e R s m args below meth c A n0 ρ0 mc ms hC hR H locs cells slots ρ ls hT hcs
  refine lv_irem hC.1 hC.2.1 hd hne ?_
  exact am_k k hC hR ⟨⟨trivial, hT.1.2.2⟩, hT.2⟩ hcs
theorem am_ladd (pc : Nat) {M : am_M} {rc rs n : Nat} {L : List (Option Value)} {st : List Value} {f : Nat → am_C} {P : am_P} {x y : Int64} (hd : decode (am_by M) pc = .ok (.ladd, 1)) (k : AW M rc rs (pc + 1) L (.long (x + y) :: st) n f P) : AW M rc rs pc L (.long y :: .long x :: st) n f P := by
  intro D cA p l e R s m args below meth c A n0 ρ0 mc ms hC hR H locs cells slots ρ ls hT hcs
  refine lv_ladd hC.1 hC.2.1 hd ?_
  exact am_k k hC hR ⟨⟨trivial, hT.1.2.2⟩, hT.2⟩ hcs
theorem am_lsub (pc : Nat) {M : am_M} {rc rs n : Nat} {L : List (Option Value)} {st : List Value} {f : Nat → am_C} {P : am_P} {x y : Int64} (hd : decode (am_by M) pc = .ok (.lsub, 1)) (k : AW M rc rs (pc + 1) L (.long (x - y) :: st) n f P) : AW M rc rs pc L (.long y :: .long x :: st) n f P := by
  intro D cA p l e R s m args below meth c A n0 ρ0 mc ms hC hR H locs cells slots ρ ls hT hcs
  refine lv_lsub hC.1 hC.2.1 hd ?_
  exact am_k k hC hR ⟨⟨trivial, hT.1.2.2⟩, hT.2⟩ hcs
theorem am_lmul (pc : Nat) {M : am_M} {rc rs n : Nat} {L : List (Option Value)} {st : List Value} {f : Nat → am_C} {P : am_P} {x y : Int64} (hd : decode (am_by M) pc = .ok (.lmul, 1)) (k : AW M rc rs (pc + 1) L (.long (x * y) :: st) n f P) : AW M rc rs pc L (.long y :: .long x :: st) n f P := by
  intro D cA p l e R s m args below meth c A n0 ρ0 mc ms hC hR H locs cells slots ρ ls hT hcs
  refine lv_lmul hC.1 hC.2.1 hd ?_
  exact am_k k hC hR ⟨⟨trivial, hT.1.2.2⟩, hT.2⟩ hcs
theorem am_land (pc : Nat) {M : am_M} {rc rs n : Nat} {L : List (Option Value)} {st : List Value} {f : Nat → am_C} {P : am_P} {x y : Int64} (hd : decode (am_by M) pc = .ok (.land, 1)) (k : AW M rc rs (pc + 1) L (.long (x &&& y) :: st) n f P) : AW M rc rs pc L (.long y :: .long x :: st) n f P := by
  intro D cA p l e R s m args below meth c A n0 ρ0 mc ms hC hR H locs cells slots ρ ls hT hcs
  refine lv_land hC.1 hC.2.1 hd ?_
  exact am_k k hC hR ⟨⟨trivial, hT.1.2.2⟩, hT.2⟩ hcs
theorem am_lor (pc : Nat) {M : am_M} {rc rs n : Nat} {L : List (Option Value)} {st : List Value} {f : Nat → am_C} {P : am_P} {x y : Int64} (hd : decode (am_by M) pc = .ok (.lor, 1)) (k : AW M rc rs (pc + 1) L (.long (x ||| y) :: st) n f P) : AW M rc rs pc L (.long y :: .long x :: st) n f P := by
  intro D cA p l e R s m args below meth c A n0 ρ0 mc ms hC hR H locs cells slots ρ ls hT hcs
  refine lv_lor hC.1 hC.2.1 hd ?_
  exact am_k k hC hR ⟨⟨trivial, hT.1.2.2⟩, hT.2⟩ hcs
theorem am_lxor (pc : Nat) {M : am_M} {rc rs n : Nat} {L : List (Option Value)} {st : List Value} {f : Nat → am_C} {P : am_P} {x y : Int64} (hd : decode (am_by M) pc = .ok (.lxor, 1)) (k : AW M rc rs (pc + 1) L (.long (x ^^^ y) :: st) n f P) : AW M rc rs pc L (.long y :: .long x :: st) n f P := by
  intro D cA p l e R s m args below meth c A n0 ρ0 mc ms hC hR H locs cells slots ρ ls hT hcs
  refine lv_lxor hC.1 hC.2.1 hd ?_
  exact am_k k hC hR ⟨⟨trivial, hT.1.2.2⟩, hT.2⟩ hcs
theorem am_ldiv (pc : Nat) {M : am_M} {rc rs n : Nat} {L : List (Option Value)} {st : List Value} {f : Nat → am_C} {P : am_P} {x y : Int64} (hd : decode (am_by M) pc = .ok (.ldiv, 1)) (hne : ¬ y = 0) (k : AW M rc rs (pc + 1) L (.long (x / y) :: st) n f P) : AW M rc rs pc L (.long y :: .long x :: st) n f P := by
  intro D cA p l e R s m args below meth c A n0 ρ0 mc ms hC hR H locs cells slots ρ ls hT hcs
  refine lv_ldiv hC.1 hC.2.1 hd hne ?_
  exact am_k k hC hR ⟨⟨trivial, hT.1.2.2⟩, hT.2⟩ hcs
theorem am_lrem (pc : Nat) {M : am_M} {rc rs n : Nat} {L : List (Option Value)} {st : List Value} {f : Nat → am_C} {P : am_P} {x y : Int64} (hd : decode (am_by M) pc = .ok (.lrem, 1)) (hne : ¬ y = 0) (k : AW M rc rs (pc + 1) L (.long (x - x / y * y) :: st) n f P) : AW M rc rs pc L (.long y :: .long x :: st) n f P := by
  intro D cA p l e R s m args below meth c A n0 ρ0 mc ms hC hR H locs cells slots ρ ls hT hcs
  refine lv_lrem hC.1 hC.2.1 hd hne ?_
  exact am_k k hC hR ⟨⟨trivial, hT.1.2.2⟩, hT.2⟩ hcs
theorem am_fadd (pc : Nat) {M : am_M} {rc rs n : Nat} {L : List (Option Value)} {st : List Value} {f : Nat → am_C} {P : am_P} {x y : UInt32} (hd : decode (am_by M) pc = .ok (.fadd, 1)) (hne : vf_n32 (FP.fadd x y)) (k : AW M rc rs (pc + 1) L (.float (FP.fadd x y) :: st) n f P) : AW M rc rs pc L (.float y :: .float x :: st) n f P := by
  intro D cA p l e R s m args below meth c A n0 ρ0 mc ms hC hR H locs cells slots ρ ls hT hcs
  refine lv_fadd hC.1 hC.2.1 hd hne ?_
  exact am_k k hC hR ⟨⟨trivial, hT.1.2.2⟩, hT.2⟩ hcs
theorem am_fsub (pc : Nat) {M : am_M} {rc rs n : Nat} {L : List (Option Value)} {st : List Value} {f : Nat → am_C} {P : am_P} {x y : UInt32} (hd : decode (am_by M) pc = .ok (.fsub, 1)) (hne : vf_n32 (FP.fsub x y)) (k : AW M rc rs (pc + 1) L (.float (FP.fsub x y) :: st) n f P) : AW M rc rs pc L (.float y :: .float x :: st) n f P := by
  intro D cA p l e R s m args below meth c A n0 ρ0 mc ms hC hR H locs cells slots ρ ls hT hcs
  refine lv_fsub hC.1 hC.2.1 hd hne ?_
  exact am_k k hC hR ⟨⟨trivial, hT.1.2.2⟩, hT.2⟩ hcs
theorem am_fmul (pc : Nat) {M : am_M} {rc rs n : Nat} {L : List (Option Value)} {st : List Value} {f : Nat → am_C} {P : am_P} {x y : UInt32} (hd : decode (am_by M) pc = .ok (.fmul, 1)) (hne : vf_n32 (FP.fmul x y)) (k : AW M rc rs (pc + 1) L (.float (FP.fmul x y) :: st) n f P) : AW M rc rs pc L (.float y :: .float x :: st) n f P := by
  intro D cA p l e R s m args below meth c A n0 ρ0 mc ms hC hR H locs cells slots ρ ls hT hcs
  refine lv_fmul hC.1 hC.2.1 hd hne ?_
  exact am_k k hC hR ⟨⟨trivial, hT.1.2.2⟩, hT.2⟩ hcs
theorem am_fdiv (pc : Nat) {M : am_M} {rc rs n : Nat} {L : List (Option Value)} {st : List Value} {f : Nat → am_C} {P : am_P} {x y : UInt32} (hd : decode (am_by M) pc = .ok (.fdiv, 1)) (hne : vf_n32 (FP.fdiv x y)) (k : AW M rc rs (pc + 1) L (.float (FP.fdiv x y) :: st) n f P) : AW M rc rs pc L (.float y :: .float x :: st) n f P := by
  intro D cA p l e R s m args below meth c A n0 ρ0 mc ms hC hR H locs cells slots ρ ls hT hcs
  refine lv_fdiv hC.1 hC.2.1 hd hne ?_
  exact am_k k hC hR ⟨⟨trivial, hT.1.2.2⟩, hT.2⟩ hcs
theorem am_dadd (pc : Nat) {M : am_M} {rc rs n : Nat} {L : List (Option Value)} {st : List Value} {f : Nat → am_C} {P : am_P} {x y : UInt64} (hd : decode (am_by M) pc = .ok (.dadd, 1)) (hne : vf_n64 (FP.dadd x y)) (k : AW M rc rs (pc + 1) L (.double (FP.dadd x y) :: st) n f P) : AW M rc rs pc L (.double y :: .double x :: st) n f P := by
  intro D cA p l e R s m args below meth c A n0 ρ0 mc ms hC hR H locs cells slots ρ ls hT hcs
  refine lv_dadd hC.1 hC.2.1 hd hne ?_
  exact am_k k hC hR ⟨⟨trivial, hT.1.2.2⟩, hT.2⟩ hcs
theorem am_dsub (pc : Nat) {M : am_M} {rc rs n : Nat} {L : List (Option Value)} {st : List Value} {f : Nat → am_C} {P : am_P} {x y : UInt64} (hd : decode (am_by M) pc = .ok (.dsub, 1)) (hne : vf_n64 (FP.dsub x y)) (k : AW M rc rs (pc + 1) L (.double (FP.dsub x y) :: st) n f P) : AW M rc rs pc L (.double y :: .double x :: st) n f P := by
  intro D cA p l e R s m args below meth c A n0 ρ0 mc ms hC hR H locs cells slots ρ ls hT hcs
  refine lv_dsub hC.1 hC.2.1 hd hne ?_
  exact am_k k hC hR ⟨⟨trivial, hT.1.2.2⟩, hT.2⟩ hcs
theorem am_dmul (pc : Nat) {M : am_M} {rc rs n : Nat} {L : List (Option Value)} {st : List Value} {f : Nat → am_C} {P : am_P} {x y : UInt64} (hd : decode (am_by M) pc = .ok (.dmul, 1)) (hne : vf_n64 (FP.dmul x y)) (k : AW M rc rs (pc + 1) L (.double (FP.dmul x y) :: st) n f P) : AW M rc rs pc L (.double y :: .double x :: st) n f P := by
  intro D cA p l e R s m args below meth c A n0 ρ0 mc ms hC hR H locs cells slots ρ ls hT hcs
  refine lv_dmul hC.1 hC.2.1 hd hne ?_
  exact am_k k hC hR ⟨⟨trivial, hT.1.2.2⟩, hT.2⟩ hcs
theorem am_ddiv (pc : Nat) {M : am_M} {rc rs n : Nat} {L : List (Option Value)} {st : List Value} {f : Nat → am_C} {P : am_P} {x y : UInt64} (hd : decode (am_by M) pc = .ok (.ddiv, 1)) (hne : vf_n64 (FP.ddiv x y)) (k : AW M rc rs (pc + 1) L (.double (FP.ddiv x y) :: st) n f P) : AW M rc rs pc L (.double y :: .double x :: st) n f P := by
  intro D cA p l e R s m args below meth c A n0 ρ0 mc ms hC hR H locs cells slots ρ ls hT hcs
  refine lv_ddiv hC.1 hC.2.1 hd hne ?_
  exact am_k k hC hR ⟨⟨trivial, hT.1.2.2⟩, hT.2⟩ hcs
theorem am_lshl (pc : Nat) {M : am_M} {rc rs n : Nat} {L : List (Option Value)} {st : List Value} {f : Nat → am_C} {P : am_P} {x : Int64} {y : Int32} (hd : decode (am_by M) pc = .ok (.lshl, 1)) (k : AW M rc rs (pc + 1) L (.long (x <<< (y.toInt64 &&& 63)) :: st) n f P) : AW M rc rs pc L (.int y :: .long x :: st) n f P := by
  intro D cA p l e R s m args below meth c A n0 ρ0 mc ms hC hR H locs cells slots ρ ls hT hcs
  refine lv_lshl hC.1 hC.2.1 hd rfl ?_
  exact am_k k hC hR ⟨⟨trivial, hT.1.2.2⟩, hT.2⟩ hcs
theorem am_lshr (pc : Nat) {M : am_M} {rc rs n : Nat} {L : List (Option Value)} {st : List Value} {f : Nat → am_C} {P : am_P} {x : Int64} {y : Int32} (hd : decode (am_by M) pc = .ok (.lshr, 1)) (k : AW M rc rs (pc + 1) L (.long (x >>> (y.toInt64 &&& 63)) :: st) n f P) : AW M rc rs pc L (.int y :: .long x :: st) n f P := by
  intro D cA p l e R s m args below meth c A n0 ρ0 mc ms hC hR H locs cells slots ρ ls hT hcs
  refine lv_lshr hC.1 hC.2.1 hd rfl ?_
  exact am_k k hC hR ⟨⟨trivial, hT.1.2.2⟩, hT.2⟩ hcs
theorem am_lushr (pc : Nat) {M : am_M} {rc rs n : Nat} {L : List (Option Value)} {st : List Value} {f : Nat → am_C} {P : am_P} {x : Int64} {y : Int32} (hd : decode (am_by M) pc = .ok (.lushr, 1)) (k : AW M rc rs (pc + 1) L (.long ((x.toUInt64 >>> (y.toInt64.toUInt64 &&& Int64.toUInt64 63)).toInt64) :: st) n f P) : AW M rc rs pc L (.int y :: .long x :: st) n f P := by
  intro D cA p l e R s m args below meth c A n0 ρ0 mc ms hC hR H locs cells slots ρ ls hT hcs
  refine lv_lushr hC.1 hC.2.1 hd rfl ?_
  exact am_k k hC hR ⟨⟨trivial, hT.1.2.2⟩, hT.2⟩ hcs
theorem am_lcmp (pc : Nat) {M : am_M} {rc rs n : Nat} {L : List (Option Value)} {st : List Value} {f : Nat → am_C} {P : am_P} {x y : Int64} (hd : decode (am_by M) pc = .ok (.lcmp, 1)) (k : AW M rc rs (pc + 1) L (.int (lg_cmp x y) :: st) n f P) : AW M rc rs pc L (.long y :: .long x :: st) n f P := by
  intro D cA p l e R s m args below meth c A n0 ρ0 mc ms hC hR H locs cells slots ρ ls hT hcs
  refine W.lcmp hC.1 hC.2.1 hd ?_
  exact am_k k hC hR ⟨⟨trivial, hT.1.2.2⟩, hT.2⟩ hcs
theorem am_fcmp (pc : Nat) {M : am_M} {rc rs n : Nat} {L : List (Option Value)} {st : List Value} {f : Nat → am_C} {P : am_P} {x y : UInt32} {op : CmpOp} (hd : decode (am_by M) pc = .ok (.fcmp op, 1)) (k : AW M rc rs (pc + 1) L (.int (Op.cmpValue (FP.fcmp x y) op) :: st) n f P) : AW M rc rs pc L (.float y :: .float x :: st) n f P := by
  intro D cA p l e R s m args below meth c A n0 ρ0 mc ms hC hR H locs cells slots ρ ls hT hcs
  refine lv_fcmp hC.1 hC.2.1 hd ?_
  exact am_k k hC hR ⟨⟨trivial, hT.1.2.2⟩, hT.2⟩ hcs
theorem am_dcmp (pc : Nat) {M : am_M} {rc rs n : Nat} {L : List (Option Value)} {st : List Value} {f : Nat → am_C} {P : am_P} {x y : UInt64} {op : CmpOp} (hd : decode (am_by M) pc = .ok (.dcmp op, 1)) (k : AW M rc rs (pc + 1) L (.int (Op.cmpValue (FP.dcmp x y) op) :: st) n f P) : AW M rc rs pc L (.double y :: .double x :: st) n f P := by
  intro D cA p l e R s m args below meth c A n0 ρ0 mc ms hC hR H locs cells slots ρ ls hT hcs
  refine lv_dcmp hC.1 hC.2.1 hd ?_
  exact am_k k hC hR ⟨⟨trivial, hT.1.2.2⟩, hT.2⟩ hcs
theorem am_ineg (pc : Nat) {M : am_M} {rc rs n : Nat} {L : List (Option Value)} {st : List Value} {f : Nat → am_C} {P : am_P} {x : Int32} (hd : decode (am_by M) pc = .ok (.ineg, 1)) (k : AW M rc rs (pc + 1) L (.int (-x) :: st) n f P) : AW M rc rs pc L (.int x :: st) n f P := by
  intro D cA p l e R s m args below meth c A n0 ρ0 mc ms hC hR H locs cells slots ρ ls hT hcs
  refine lv_ineg hC.1 hC.2.1 hd  ?_
  exact am_k k hC hR ⟨⟨trivial, hT.1.2⟩, hT.2⟩ hcs
theorem am_lneg (pc : Nat) {M : am_M} {rc rs n : Nat} {L : List (Option Value)} {st : List Value} {f : Nat → am_C} {P : am_P} {x : Int64} (hd : decode (am_by M) pc = .ok (.lneg, 1)) (k : AW M rc rs (pc + 1) L (.long (-x) :: st) n f P) : AW M rc rs pc L (.long x :: st) n f P := by
  intro D cA p l e R s m args below meth c A n0 ρ0 mc ms hC hR H locs cells slots ρ ls hT hcs
  refine lv_lneg hC.1 hC.2.1 hd  ?_
  exact am_k k hC hR ⟨⟨trivial, hT.1.2⟩, hT.2⟩ hcs
theorem am_fneg (pc : Nat) {M : am_M} {rc rs n : Nat} {L : List (Option Value)} {st : List Value} {f : Nat → am_C} {P : am_P} {x : UInt32} (hd : decode (am_by M) pc = .ok (.fneg, 1)) (k : AW M rc rs (pc + 1) L (.float (FP.fneg x) :: st) n f P) : AW M rc rs pc L (.float x :: st) n f P := by
  intro D cA p l e R s m args below meth c A n0 ρ0 mc ms hC hR H locs cells slots ρ ls hT hcs
  refine lv_fneg hC.1 hC.2.1 hd  ?_
  exact am_k k hC hR ⟨⟨trivial, hT.1.2⟩, hT.2⟩ hcs
theorem am_dneg (pc : Nat) {M : am_M} {rc rs n : Nat} {L : List (Option Value)} {st : List Value} {f : Nat → am_C} {P : am_P} {x : UInt64} (hd : decode (am_by M) pc = .ok (.dneg, 1)) (k : AW M rc rs (pc + 1) L (.double (FP.dneg x) :: st) n f P) : AW M rc rs pc L (.double x :: st) n f P := by
  intro D cA p l e R s m args below meth c A n0 ρ0 mc ms hC hR H locs cells slots ρ ls hT hcs
  refine lv_dneg hC.1 hC.2.1 hd  ?_
  exact am_k k hC hR ⟨⟨trivial, hT.1.2⟩, hT.2⟩ hcs
theorem am_i2l (pc : Nat) {M : am_M} {rc rs n : Nat} {L : List (Option Value)} {st : List Value} {f : Nat → am_C} {P : am_P} {x : Int32} (hd : decode (am_by M) pc = .ok (.i2l, 1)) (k : AW M rc rs (pc + 1) L (.long (x.toInt64) :: st) n f P) : AW M rc rs pc L (.int x :: st) n f P := by
  intro D cA p l e R s m args below meth c A n0 ρ0 mc ms hC hR H locs cells slots ρ ls hT hcs
  refine lv_i2l hC.1 hC.2.1 hd rfl ?_
  exact am_k k hC hR ⟨⟨trivial, hT.1.2⟩, hT.2⟩ hcs
theorem am_l2i (pc : Nat) {M : am_M} {rc rs n : Nat} {L : List (Option Value)} {st : List Value} {f : Nat → am_C} {P : am_P} {x : Int64} (hd : decode (am_by M) pc = .ok (.l2i, 1)) (k : AW M rc rs (pc + 1) L (.int (x.toInt32) :: st) n f P) : AW M rc rs pc L (.long x :: st) n f P := by
  intro D cA p l e R s m args below meth c A n0 ρ0 mc ms hC hR H locs cells slots ρ ls hT hcs
  refine lv_l2i hC.1 hC.2.1 hd rfl ?_
  exact am_k k hC hR ⟨⟨trivial, hT.1.2⟩, hT.2⟩ hcs
theorem am_i2b (pc : Nat) {M : am_M} {rc rs n : Nat} {L : List (Option Value)} {st : List Value} {f : Nat → am_C} {P : am_P} {x : Int32} (hd : decode (am_by M) pc = .ok (.i2b, 1)) (k : AW M rc rs (pc + 1) L (.int (x.toInt8.toInt32) :: st) n f P) : AW M rc rs pc L (.int x :: st) n f P := by
  intro D cA p l e R s m args below meth c A n0 ρ0 mc ms hC hR H locs cells slots ρ ls hT hcs
  refine lv_i2b hC.1 hC.2.1 hd rfl ?_
  exact am_k k hC hR ⟨⟨trivial, hT.1.2⟩, hT.2⟩ hcs
theorem am_i2s (pc : Nat) {M : am_M} {rc rs n : Nat} {L : List (Option Value)} {st : List Value} {f : Nat → am_C} {P : am_P} {x : Int32} (hd : decode (am_by M) pc = .ok (.i2s, 1)) (k : AW M rc rs (pc + 1) L (.int (x.toInt16.toInt32) :: st) n f P) : AW M rc rs pc L (.int x :: st) n f P := by
  intro D cA p l e R s m args below meth c A n0 ρ0 mc ms hC hR H locs cells slots ρ ls hT hcs
  refine lv_i2s hC.1 hC.2.1 hd rfl ?_
  exact am_k k hC hR ⟨⟨trivial, hT.1.2⟩, hT.2⟩ hcs
theorem am_i2c (pc : Nat) {M : am_M} {rc rs n : Nat} {L : List (Option Value)} {st : List Value} {f : Nat → am_C} {P : am_P} {x : Int32} (hd : decode (am_by M) pc = .ok (.i2c, 1)) (k : AW M rc rs (pc + 1) L (.int ((x.toUInt32 % 65536).toInt32) :: st) n f P) : AW M rc rs pc L (.int x :: st) n f P := by
  intro D cA p l e R s m args below meth c A n0 ρ0 mc ms hC hR H locs cells slots ρ ls hT hcs
  refine lv_i2c hC.1 hC.2.1 hd rfl ?_
  exact am_k k hC hR ⟨⟨trivial, hT.1.2⟩, hT.2⟩ hcs
theorem am_i2f (pc : Nat) {M : am_M} {rc rs n : Nat} {L : List (Option Value)} {st : List Value} {f : Nat → am_C} {P : am_P} {x : Int32} (hd : decode (am_by M) pc = .ok (.i2f, 1)) (k : AW M rc rs (pc + 1) L (.float (FP.i2f x) :: st) n f P) : AW M rc rs pc L (.int x :: st) n f P := by
  intro D cA p l e R s m args below meth c A n0 ρ0 mc ms hC hR H locs cells slots ρ ls hT hcs
  refine lv_i2f hC.1 hC.2.1 hd  ?_
  exact am_k k hC hR ⟨⟨trivial, hT.1.2⟩, hT.2⟩ hcs
theorem am_i2d (pc : Nat) {M : am_M} {rc rs n : Nat} {L : List (Option Value)} {st : List Value} {f : Nat → am_C} {P : am_P} {x : Int32} (hd : decode (am_by M) pc = .ok (.i2d, 1)) (k : AW M rc rs (pc + 1) L (.double (FP.i2d x) :: st) n f P) : AW M rc rs pc L (.int x :: st) n f P := by
  intro D cA p l e R s m args below meth c A n0 ρ0 mc ms hC hR H locs cells slots ρ ls hT hcs
  refine lv_i2d hC.1 hC.2.1 hd  ?_
  exact am_k k hC hR ⟨⟨trivial, hT.1.2⟩, hT.2⟩ hcs
theorem am_l2f (pc : Nat) {M : am_M} {rc rs n : Nat} {L : List (Option Value)} {st : List Value} {f : Nat → am_C} {P : am_P} {x : Int64} (hd : decode (am_by M) pc = .ok (.l2f, 1)) (k : AW M rc rs (pc + 1) L (.float (FP.l2f x) :: st) n f P) : AW M rc rs pc L (.long x :: st) n f P := by
  intro D cA p l e R s m args below meth c A n0 ρ0 mc ms hC hR H locs cells slots ρ ls hT hcs
  refine lv_l2f hC.1 hC.2.1 hd  ?_
  exact am_k k hC hR ⟨⟨trivial, hT.1.2⟩, hT.2⟩ hcs
theorem am_l2d (pc : Nat) {M : am_M} {rc rs n : Nat} {L : List (Option Value)} {st : List Value} {f : Nat → am_C} {P : am_P} {x : Int64} (hd : decode (am_by M) pc = .ok (.l2d, 1)) (k : AW M rc rs (pc + 1) L (.double (FP.l2d x) :: st) n f P) : AW M rc rs pc L (.long x :: st) n f P := by
  intro D cA p l e R s m args below meth c A n0 ρ0 mc ms hC hR H locs cells slots ρ ls hT hcs
  refine lv_l2d hC.1 hC.2.1 hd  ?_
  exact am_k k hC hR ⟨⟨trivial, hT.1.2⟩, hT.2⟩ hcs
theorem am_f2i (pc : Nat) {M : am_M} {rc rs n : Nat} {L : List (Option Value)} {st : List Value} {f : Nat → am_C} {P : am_P} {x : UInt32} (hd : decode (am_by M) pc = .ok (.f2i, 1)) (k : AW M rc rs (pc + 1) L (.int (FP.f2i x) :: st) n f P) : AW M rc rs pc L (.float x :: st) n f P := by
  intro D cA p l e R s m args below meth c A n0 ρ0 mc ms hC hR H locs cells slots ρ ls hT hcs
  refine lv_f2i hC.1 hC.2.1 hd  ?_
  exact am_k k hC hR ⟨⟨trivial, hT.1.2⟩, hT.2⟩ hcs
theorem am_f2l (pc : Nat) {M : am_M} {rc rs n : Nat} {L : List (Option Value)} {st : List Value} {f : Nat → am_C} {P : am_P} {x : UInt32} (hd : decode (am_by M) pc = .ok (.f2l, 1)) (k : AW M rc rs (pc + 1) L (.long (FP.f2l x) :: st) n f P) : AW M rc rs pc L (.float x :: st) n f P := by
  intro D cA p l e R s m args below meth c A n0 ρ0 mc ms hC hR H locs cells slots ρ ls hT hcs
  refine lv_f2l hC.1 hC.2.1 hd  ?_
  exact am_k k hC hR ⟨⟨trivial, hT.1.2⟩, hT.2⟩ hcs
theorem am_d2i (pc : Nat) {M : am_M} {rc rs n : Nat} {L : List (Option Value)} {st : List Value} {f : Nat → am_C} {P : am_P} {x : UInt64} (hd : decode (am_by M) pc = .ok (.d2i, 1)) (k : AW M rc rs (pc + 1) L (.int (FP.d2i x) :: st) n f P) : AW M rc rs pc L (.double x :: st) n f P := by
  intro D cA p l e R s m args below meth c A n0 ρ0 mc ms hC hR H locs cells slots ρ ls hT hcs
  refine lv_d2i hC.1 hC.2.1 hd  ?_
  exact am_k k hC hR ⟨⟨trivial, hT.1.2⟩, hT.2⟩ hcs
theorem am_d2l (pc : Nat) {M : am_M} {rc rs n : Nat} {L : List (Option Value)} {st : List Value} {f : Nat → am_C} {P : am_P} {x : UInt64} (hd : decode (am_by M) pc = .ok (.d2l, 1)) (k : AW M rc rs (pc + 1) L (.long (FP.d2l x) :: st) n f P) : AW M rc rs pc L (.double x :: st) n f P := by
  intro D cA p l e R s m args below meth c A n0 ρ0 mc ms hC hR H locs cells slots ρ ls hT hcs
  refine lv_d2l hC.1 hC.2.1 hd  ?_
  exact am_k k hC hR ⟨⟨trivial, hT.1.2⟩, hT.2⟩ hcs
theorem am_f2d (pc : Nat) {M : am_M} {rc rs n : Nat} {L : List (Option Value)} {st : List Value} {f : Nat → am_C} {P : am_P} {x : UInt32} (hd : decode (am_by M) pc = .ok (.f2d, 1)) (hne : vf_n64 (FP.f2d x)) (k : AW M rc rs (pc + 1) L (.double (FP.f2d x) :: st) n f P) : AW M rc rs pc L (.float x :: st) n f P := by
  intro D cA p l e R s m args below meth c A n0 ρ0 mc ms hC hR H locs cells slots ρ ls hT hcs
  refine lv_f2d hC.1 hC.2.1 hd hne ?_
  exact am_k k hC hR ⟨⟨trivial, hT.1.2⟩, hT.2⟩ hcs
theorem am_d2f (pc : Nat) {M : am_M} {rc rs n : Nat} {L : List (Option Value)} {st : List Value} {f : Nat → am_C} {P : am_P} {x : UInt64} (hd : decode (am_by M) pc = .ok (.d2f, 1)) (hne : vf_n32 (FP.d2f x)) (k : AW M rc rs (pc + 1) L (.float (FP.d2f x) :: st) n f P) : AW M rc rs pc L (.double x :: st) n f P := by
  intro D cA p l e R s m args below meth c A n0 ρ0 mc ms hC hR H locs cells slots ρ ls hT hcs
  refine lv_d2f hC.1 hC.2.1 hd hne ?_
  exact am_k k hC hR ⟨⟨trivial, hT.1.2⟩, hT.2⟩ hcs
theorem am_dup (pc : Nat) {M : am_M} {rc rs n : Nat} {L : List (Option Value)} {st : List Value} {f : Nat → am_C} {P : am_P} {va : Value} (hd : decode (am_by M) pc = .ok (.dup, 1)) (hva : va.category = 1) (k : AW M rc rs (pc + 1) L (va :: va :: st) n f P) : AW M rc rs pc L (va :: st) n f P := by
  intro D cA p l e R s m args below meth c A n0 ρ0 mc ms hC hR H locs cells slots ρ ls hT hcs
  refine lv_dup hC.1 hC.2.1 hd (by rw [am_cat]; exact hva) ?_
  exact am_k k hC hR ⟨⟨hT.1.1, ⟨hT.1.1, hT.1.2⟩⟩, hT.2⟩ hcs
theorem am_pop (pc : Nat) {M : am_M} {rc rs n : Nat} {L : List (Option Value)} {st : List Value} {f : Nat → am_C} {P : am_P} {va : Value} (hd : decode (am_by M) pc = .ok (.pop, 1)) (hva : va.category = 1) (k : AW M rc rs (pc + 1) L (st) n f P) : AW M rc rs pc L (va :: st) n f P := by
  intro D cA p l e R s m args below meth c A n0 ρ0 mc ms hC hR H locs cells slots ρ ls hT hcs
  refine lv_pop hC.1 hC.2.1 hd (by rw [am_cat]; exact hva) ?_
  exact am_k k hC hR ⟨hT.1.2, hT.2⟩ hcs
theorem am_dup_x1 (pc : Nat) {M : am_M} {rc rs n : Nat} {L : List (Option Value)} {st : List Value} {f : Nat → am_C} {P : am_P} {va vb : Value} (hd : decode (am_by M) pc = .ok (.dup_x1, 1)) (hva : va.category = 1) (hvb : vb.category = 1) (k : AW M rc rs (pc + 1) L (va :: vb :: va :: st) n f P) : AW M rc rs pc L (va :: vb :: st) n f P := by
  intro D cA p l e R s m args below meth c A n0 ρ0 mc ms hC hR H locs cells slots ρ ls hT hcs
  refine lv_dup_x1 hC.1 hC.2.1 hd (by rw [am_cat]; exact hva) (by rw [am_cat]; exact hvb) ?_
  exact am_k k hC hR ⟨⟨hT.1.1, ⟨hT.1.2.1, ⟨hT.1.1, hT.1.2.2⟩⟩⟩, hT.2⟩ hcs
theorem am_dup2 (pc : Nat) {M : am_M} {rc rs n : Nat} {L : List (Option Value)} {st : List Value} {f : Nat → am_C} {P : am_P} {va vb : Value} (hd : decode (am_by M) pc = .ok (.dup2, 1)) (hva : va.category = 1) (hvb : vb.category = 1) (k : AW M rc rs (pc + 1) L (va :: vb :: va :: vb :: st) n f P) : AW M rc rs pc L (va :: vb :: st) n f P := by
  intro D cA p l e R s m args below meth c A n0 ρ0 mc ms hC hR H locs cells slots ρ ls hT hcs
  refine lv_dup2_11 hC.1 hC.2.1 hd (by rw [am_cat]; exact hva) (by rw [am_cat]; exact hvb) ?_
  exact am_k k hC hR ⟨⟨hT.1.1, ⟨hT.1.2.1, ⟨hT.1.1, ⟨hT.1.2.1, hT.1.2.2⟩⟩⟩⟩, hT.2⟩ hcs
theorem am_dup2_2 (pc : Nat) {M : am_M} {rc rs n : Nat} {L : List (Option Value)} {st : List Value} {f : Nat → am_C} {P : am_P} {va : Value} (hd : decode (am_by M) pc = .ok (.dup2, 1)) (hva : va.category = 2) (k : AW M rc rs (pc + 1) L (va :: va :: st) n f P) : AW M rc rs pc L (va :: st) n f P := by
  intro D cA p l e R s m args below meth c A n0 ρ0 mc ms hC hR H locs cells slots ρ ls hT hcs
  refine lv_dup2_2 hC.1 hC.2.1 hd (by rw [am_cat]; exact hva) ?_
  exact am_k k hC hR ⟨⟨hT.1.1, ⟨hT.1.1, hT.1.2⟩⟩, hT.2⟩ hcs
theorem am_pop2_2 (pc : Nat) {M : am_M} {rc rs n : Nat} {L : List (Option Value)} {st : List Value} {f : Nat → am_C} {P : am_P} {va : Value} (hd : decode (am_by M) pc = .ok (.pop2, 1)) (hva : va.category = 2) (k : AW M rc rs (pc + 1) L (st) n f P) : AW M rc rs pc L (va :: st) n f P := by
  intro D cA p l e R s m args below meth c A n0 ρ0 mc ms hC hR H locs cells slots ρ ls hT hcs
  refine lv_pop2_2 hC.1 hC.2.1 hd (by rw [am_cat]; exact hva) ?_
  exact am_k k hC hR ⟨hT.1.2, hT.2⟩ hcs
theorem am_if_eq (pc tgt : Nat) {M : am_M} {rc rs n : Nat} {L : List (Option Value)} {st : List Value} {f : Nat → am_C} {P : am_P} {x : Int32} {off : Int} (hd : decode (am_by M) pc = .ok (.ifCond .eq off, 3)) (ht : (pc : Int) + off = (tgt : Int)) (kt : x = 0 → AW M rc rs tgt L st n f P) (kf : ¬ (x = 0) → AW M rc rs (pc + 3) L st n f P) : AW M rc rs pc L (.int x :: st) n f P := by
  intro D cA p l e R s m args below meth c A n0 ρ0 mc ms hC hR H locs cells slots ρ ls hT hcs
  refine lv_if_eq hC.1 hC.2.1 hd ht (fun q => ?_) (fun q => ?_)
  · exact am_k (kt q) hC hR ⟨hT.1.2, hT.2⟩ hcs
  · exact am_k (kf q) hC hR ⟨hT.1.2, hT.2⟩ hcs
theorem am_icmp_eq (pc tgt : Nat) {M : am_M} {rc rs n : Nat} {L : List (Option Value)} {st : List Value} {f : Nat → am_C} {P : am_P} {x y : Int32} {off : Int} (hd : decode (am_by M) pc = .ok (.if_icmp .eq off, 3)) (ht : (pc : Int) + off = (tgt : Int)) (kt : x = y → AW M rc rs tgt L st n f P) (kf : ¬ (x = y) → AW M rc rs (pc + 3) L st n f P) : AW M rc rs pc L (.int y :: .int x :: st) n f P := by
  intro D cA p l e R s m args below meth c A n0 ρ0 mc ms hC hR H locs cells slots ρ ls hT hcs
  refine lv_icmp_eq hC.1 hC.2.1 hd ht (fun q => ?_) (fun q => ?_)
  · exact am_k (kt q) hC hR ⟨hT.1.2.2, hT.2⟩ hcs
  · exact am_k (kf q) hC hR ⟨hT.1.2.2, hT.2⟩ hcs
theorem am_if_ne (pc tgt : Nat) {M : am_M} {rc rs n : Nat} {L : List (Option Value)} {st : List Value} {f : Nat → am_C} {P : am_P} {x : Int32} {off : Int} (hd : decode (am_by M) pc = .ok (.ifCond .ne off, 3)) (ht : (pc : Int) + off = (tgt : Int)) (kt : x ≠ 0 → AW M rc rs tgt L st n f P) (kf : x = 0 → AW M rc rs (pc + 3) L st n f P) : AW M rc rs pc L (.int x :: st) n f P := by
  intro D cA p l e R s m args below meth c A n0 ρ0 mc ms hC hR H locs cells slots ρ ls hT hcs
  refine lv_if_ne hC.1 hC.2.1 hd ht (fun q => ?_) (fun q => ?_)
  · exact am_k (kt q) hC hR ⟨hT.1.2, hT.2⟩ hcs
  · exact am_k (kf q) hC hR ⟨hT.1.2, hT.2⟩ hcs
theorem am_icmp_ne (pc tgt : Nat) {M : am_M} {rc rs n : Nat} {L : List (Option Value)} {st : List Value} {f : Nat → am_C} {P : am_P} {x y : Int32} {off : Int} (hd : decode (am_by M) pc = .ok (.if_icmp .ne off, 3)) (ht : (pc : Int) + off = (tgt : Int)) (kt : x ≠ y → AW M rc rs tgt L st n f P) (kf : x = y → AW M rc rs (pc + 3) L st n f P) : AW M rc rs pc L (.int y :: .int x :: st) n f P := by
  intro D cA p l e R s m args below meth c A n0 ρ0 mc ms hC hR H locs cells slots ρ ls hT hcs
  refine lv_icmp_ne hC.1 hC.2.1 hd ht (fun q => ?_) (fun q => ?_)
  · exact am_k (kt q) hC hR ⟨hT.1.2.2, hT.2⟩ hcs
  · exact am_k (kf q) hC hR ⟨hT.1.2.2, hT.2⟩ hcs
theorem am_if_lt (pc tgt : Nat) {M : am_M} {rc rs n : Nat} {L : List (Option Value)} {st : List Value} {f : Nat → am_C} {P : am_P} {x : Int32} {off : Int} (hd : decode (am_by M) pc = .ok (.ifCond .lt off, 3)) (ht : (pc : Int) + off = (tgt : Int)) (kt : x < 0 → AW M rc rs tgt L st n f P) (kf : ¬ (x < 0) → AW M rc rs (pc + 3) L st n f P) : AW M rc rs pc L (.int x :: st) n f P := by
  intro D cA p l e R s m args below meth c A n0 ρ0 mc ms hC hR H locs cells slots ρ ls hT hcs
  refine lv_if_lt hC.1 hC.2.1 hd ht (fun q => ?_) (fun q => ?_)
  · exact am_k (kt q) hC hR ⟨hT.1.2, hT.2⟩ hcs
  · exact am_k (kf q) hC hR ⟨hT.1.2, hT.2⟩ hcs
theorem am_icmp_lt (pc tgt : Nat) {M : am_M} {rc rs n : Nat} {L : List (Option Value)} {st : List Value} {f : Nat → am_C} {P : am_P} {x y : Int32} {off : Int} (hd : decode (am_by M) pc = .ok (.if_icmp .lt off, 3)) (ht : (pc : Int) + off = (tgt : Int)) (kt : x < y → AW M rc rs tgt L st n f P) (kf : ¬ (x < y) → AW M rc rs (pc + 3) L st n f P) : AW M rc rs pc L (.int y :: .int x :: st) n f P := by
  intro D cA p l e R s m args below meth c A n0 ρ0 mc ms hC hR H locs cells slots ρ ls hT hcs
  refine lv_icmp_lt hC.1 hC.2.1 hd ht (fun q => ?_) (fun q => ?_)
  · exact am_k (kt q) hC hR ⟨hT.1.2.2, hT.2⟩ hcs
  · exact am_k (kf q) hC hR ⟨hT.1.2.2, hT.2⟩ hcs
theorem am_if_ge (pc tgt : Nat) {M : am_M} {rc rs n : Nat} {L : List (Option Value)} {st : List Value} {f : Nat → am_C} {P : am_P} {x : Int32} {off : Int} (hd : decode (am_by M) pc = .ok (.ifCond .ge off, 3)) (ht : (pc : Int) + off = (tgt : Int)) (kt : 0 ≤ x → AW M rc rs tgt L st n f P) (kf : ¬ (0 ≤ x) → AW M rc rs (pc + 3) L st n f P) : AW M rc rs pc L (.int x :: st) n f P := by
  intro D cA p l e R s m args below meth c A n0 ρ0 mc ms hC hR H locs cells slots ρ ls hT hcs
  refine lv_if_ge hC.1 hC.2.1 hd ht (fun q => ?_) (fun q => ?_)
  · exact am_k (kt q) hC hR ⟨hT.1.2, hT.2⟩ hcs
  · exact am_k (kf q) hC hR ⟨hT.1.2, hT.2⟩ hcs
theorem am_icmp_ge (pc tgt : Nat) {M : am_M} {rc rs n : Nat} {L : List (Option Value)} {st : List Value} {f : Nat → am_C} {P : am_P} {x y : Int32} {off : Int} (hd : decode (am_by M) pc = .ok (.if_icmp .ge off, 3)) (ht : (pc : Int) + off = (tgt : Int)) (kt : y ≤ x → AW M rc rs tgt L st n f P) (kf : ¬ (y ≤ x) → AW M rc rs (pc + 3) L st n f P) : AW M rc rs pc L (.int y :: .int x :: st) n f P := by
  intro D cA p l e R s m args below meth c A n0 ρ0 mc ms hC hR H locs cells slots ρ ls hT hcs
  refine lv_icmp_ge hC.1 hC.2.1 hd ht (fun q => ?_) (fun q => ?_)
  · exact am_k (kt q) hC hR ⟨hT.1.2.2, hT.2⟩ hcs
  · exact am_k (kf q) hC hR ⟨hT.1.2.2, hT.2⟩ hcs
theorem am_if_gt (pc tgt : Nat) {M : am_M} {rc rs n : Nat} {L : List (Option Value)} {st : List Value} {f : Nat → am_C} {P : am_P} {x : Int32} {off : Int} (hd : decode (am_by M) pc = .ok (.ifCond .gt off, 3)) (ht : (pc : Int) + off = (tgt : Int)) (kt : 0 < x → AW M rc rs tgt L st n f P) (kf : ¬ (0 < x) → AW M rc rs (pc + 3) L st n f P) : AW M rc rs pc L (.int x :: st) n f P := by
  intro D cA p l e R s m args below meth c A n0 ρ0 mc ms hC hR H locs cells slots ρ ls hT hcs
  refine lv_if_gt hC.1 hC.2.1 hd ht (fun q => ?_) (fun q => ?_)
  · exact am_k (kt q) hC hR ⟨hT.1.2, hT.2⟩ hcs
  · exact am_k (kf q) hC hR ⟨hT.1.2, hT.2⟩ hcs
theorem am_icmp_gt (pc tgt : Nat) {M : am_M} {rc rs n : Nat} {L : List (Option Value)} {st : List Value} {f : Nat → am_C} {P : am_P} {x y : Int32} {off : Int} (hd : decode (am_by M) pc = .ok (.if_icmp .gt off, 3)) (ht : (pc : Int) + off = (tgt : Int)) (kt : y < x → AW M rc rs tgt L st n f P) (kf : ¬ (y < x) → AW M rc rs (pc + 3) L st n f P) : AW M rc rs pc L (.int y :: .int x :: st) n f P := by
  intro D cA p l e R s m args below meth c A n0 ρ0 mc ms hC hR H locs cells slots ρ ls hT hcs
  refine lv_icmp_gt hC.1 hC.2.1 hd ht (fun q => ?_) (fun q => ?_)
  · exact am_k (kt q) hC hR ⟨hT.1.2.2, hT.2⟩ hcs
  · exact am_k (kf q) hC hR ⟨hT.1.2.2, hT.2⟩ hcs
theorem am_if_le (pc tgt : Nat) {M : am_M} {rc rs n : Nat} {L : List (Option Value)} {st : List Value} {f : Nat → am_C} {P : am_P} {x : Int32} {off : Int} (hd : decode (am_by M) pc = .ok (.ifCond .le off, 3)) (ht : (pc : Int) + off = (tgt : Int)) (kt : x ≤ 0 → AW M rc rs tgt L st n f P) (kf : ¬ (x ≤ 0) → AW M rc rs (pc + 3) L st n f P) : AW M rc rs pc L (.int x :: st) n f P := by
  intro D cA p l e R s m args below meth c A n0 ρ0 mc ms hC hR H locs cells slots ρ ls hT hcs
  refine lv_if_le hC.1 hC.2.1 hd ht (fun q => ?_) (fun q => ?_)
  · exact am_k (kt q) hC hR ⟨hT.1.2, hT.2⟩ hcs
  · exact am_k (kf q) hC hR ⟨hT.1.2, hT.2⟩ hcs
theorem am_icmp_le (pc tgt : Nat) {M : am_M} {rc rs n : Nat} {L : List (Option Value)} {st : List Value} {f : Nat → am_C} {P : am_P} {x y : Int32} {off : Int} (hd : decode (am_by M) pc = .ok (.if_icmp .le off, 3)) (ht : (pc : Int) + off = (tgt : Int)) (kt : x ≤ y → AW M rc rs tgt L st n f P) (kf : ¬ (x ≤ y) → AW M rc rs (pc + 3) L st n f P) : AW M rc rs pc L (.int y :: .int x :: st) n f P := by
  intro D cA p l e R s m args below meth c A n0 ρ0 mc ms hC hR H locs cells slots ρ ls hT hcs
  refine lv_icmp_le hC.1 hC.2.1 hd ht (fun q => ?_) (fun q => ?_)
  · exact am_k (kt q) hC hR ⟨hT.1.2.2, hT.2⟩ hcs
  · exact am_k (kf q) hC hR ⟨hT.1.2.2, hT.2⟩ hcs
theorem am_goto (pc : Nat) {M : am_M} {rc rs n : Nat} {L : List (Option Value)} {st : List Value} {f : Nat → am_C} {P : am_P} {off : Int} {tgt : Nat} (hd : decode (am_by M) pc = .ok (.goto off, 3)) (ht : (pc : Int) + off = (tgt : Int)) (k : AW M rc rs (tgt) L (st) n f P) : AW M rc rs pc L (st) n f P := by
  intro D cA p l e R s m args below meth c A n0 ρ0 mc ms hC hR H locs cells slots ρ ls hT hcs
  refine lv_goto hC.1 hC.2.1 hd ht ?_
  exact am_k k hC hR ⟨hT.1, hT.2⟩ hcs
theorem am_ifnull (pc : Nat) {M : am_M} {rc rs n : Nat} {L : List (Option Value)} {st : List Value} {f : Nat → am_C} {P : am_P} {x : Nat} {off : Int} (hd : decode (am_by M) pc = .ok (.ifnull off, 3)) (k : AW M rc rs (pc + 3) L (st) n f P) : AW M rc rs pc L (.ref x :: st) n f P := by
  intro D cA p l e R s m args below meth c A n0 ρ0 mc ms hC hR H locs cells slots ρ ls hT hcs
  refine lv_ifnull hC.1 hC.2.1 hd ?_
  exact am_k k hC hR ⟨hT.1.2, hT.2⟩ hcs
theorem am_ifnullN (pc : Nat) {M : am_M} {rc rs n : Nat} {L : List (Option Value)} {st : List Value} {f : Nat → am_C} {P : am_P} {off : Int} {tgt : Nat} (hd : decode (am_by M) pc = .ok (.ifnull off, 3)) (ht : (pc : Int) + off = (tgt : Int)) (k : AW M rc rs (tgt) L (st) n f P) : AW M rc rs pc L (.null :: st) n f P := by
  intro D cA p l e R s m args below meth c A n0 ρ0 mc ms hC hR H locs cells slots ρ ls hT hcs
  refine lv_ifnullN hC.1 hC.2.1 hd ht ?_
  exact am_k k hC hR ⟨hT.1.2, hT.2⟩ hcs
theorem am_ifnonnull (pc : Nat) {M : am_M} {rc rs n : Nat} {L : List (Option Value)} {st : List Value} {f : Nat → am_C} {P : am_P} {x : Nat} {off : Int} {tgt : Nat} (hd : decode (am_by M) pc = .ok (.ifnonnull off, 3)) (ht : (pc : Int) + off = (tgt : Int)) (k : AW M rc rs (tgt) L (st) n f P) : AW M rc rs pc L (.ref x :: st) n f P := by
  intro D cA p l e R s m args below meth c A n0 ρ0 mc ms hC hR H locs cells slots ρ ls hT hcs
  refine lv_ifnonnull hC.1 hC.2.1 hd ht ?_
  exact am_k k hC hR ⟨hT.1.2, hT.2⟩ hcs
theorem am_ifnonnullN (pc : Nat) {M : am_M} {rc rs n : Nat} {L : List (Option Value)} {st : List Value} {f : Nat → am_C} {P : am_P} {off : Int} (hd : decode (am_by M) pc = .ok (.ifnonnull off, 3)) (k : AW M rc rs (pc + 3) L (st) n f P) : AW M rc rs pc L (.null :: st) n f P := by
  intro D cA p l e R s m args below meth c A n0 ρ0 mc ms hC hR H locs cells slots ρ ls hT hcs
  refine lv_ifnonnullN hC.1 hC.2.1 hd ?_
  exact am_k k hC hR ⟨hT.1.2, hT.2⟩ hcs
theorem am_tableOut (pc : Nat) {M : am_M} {rc rs n : Nat} {L : List (Option Value)} {st : List Value} {f : Nat → am_C} {P : am_P} {dflt lo hi : Int} {offs : Array Int} {len : Nat} {x : Int32} {tgt : Nat} (hd : decode (am_by M) pc = .ok (.tableswitch dflt lo hi offs, len)) (h : x.toInt < lo ∨ hi < x.toInt) (ht : (pc : Int) + dflt = (tgt : Int)) (k : AW M rc rs (tgt) L (st) n f P) : AW M rc rs pc L (.int x :: st) n f P := by
  intro D cA p l e R s m args below meth c A n0 ρ0 mc ms hC hR H locs cells slots ρ ls hT hcs
  refine lv_tableOut hC.1 hC.2.1 hd h ht ?_
  exact am_k k hC hR ⟨hT.1.2, hT.2⟩ hcs
theorem am_tableIn (pc : Nat) {M : am_M} {rc rs n : Nat} {L : List (Option Value)} {st : List Value} {f : Nat → am_C} {P : am_P} {dflt lo hi : Int} {offs : Array Int} {len : Nat} {x : Int32} {off : Int} {tgt : Nat} (hd : decode (am_by M) pc = .ok (.tableswitch dflt lo hi offs, len)) (h1 : ¬ x.toInt < lo) (h2 : ¬ hi < x.toInt) (ho : offs[(x.toInt - lo).toNat]? = some off) (ht : (pc : Int) + off = (tgt : Int)) (k : AW M rc rs (tgt) L (st) n f P) : AW M rc rs pc L (.int x :: st) n f P := by
  intro D cA p l e R s m args below meth c A n0 ρ0 mc ms hC hR H locs cells slots ρ ls hT hcs
  refine lv_tableIn hC.1 hC.2.1 hd h1 h2 ho ht ?_
  exact am_k k hC hR ⟨hT.1.2, hT.2⟩ hcs
theorem am_lookup (pc : Nat) {M : am_M} {rc rs n : Nat} {L : List (Option Value)} {st : List Value} {f : Nat → am_C} {P : am_P} {dflt : Int} {ps : Array (Int × Int)} {len : Nat} {x : Int32} {off : Int} {tgt : Nat} (hd : decode (am_by M) pc = .ok (.lookupswitch dflt ps, len)) (hp : (ps.toList.zip (ps.toList.drop 1)).all (fun (a, next) => a.1 < next.1) = true) (ho : Op.lookupswitch.offset ps.toList dflt x.toInt = off) (ht : (pc : Int) + off = (tgt : Int)) (k : AW M rc rs (tgt) L (st) n f P) : AW M rc rs pc L (.int x :: st) n f P := by
  intro D cA p l e R s m args below meth c A n0 ρ0 mc ms hC hR H locs cells slots ρ ls hT hcs
  refine lv_lookup hC.1 hC.2.1 hd hp ho ht ?_
  exact am_k k hC hR ⟨hT.1.2, hT.2⟩ hcs
theorem am_ireturn (pc : Nat) {M : am_M} {rc rs n : Nat} {L : List (Option Value)} {f : Nat → am_C} {P : am_P} {x : Int32} {ty : FieldType} (hd : decode (am_by M) pc = .ok (.ireturn, 1)) (hr : am_rt M = some ty) (hn : narrow ty (.int x) = .int x) (hP : P (.inl (some (.int x))) n f) : AW M rc rs pc L [.int x] n f P := by
  intro D cA p l e R s m args below meth c A n0 ρ0 mc ms hC hR H locs cells slots ρ ls hT hcs
  refine vx_ret (W.widen (k := mc) (n := ms) (by omega) (by omega) ?_)
  exact W.zret hC.1 hC.2.1 (hC.2.2.1.trans hr) hn (fun t ht hW => ⟨⟨some (.int x), n, f, ρ, rfl, hP, ⟨trivial, trivial⟩, by rw [ht]; exact hT.2.2.1, hT.2.2.2.1, ⟨hT.2.2.2.2.2.1.1, hT.2.2.2.2.2.1.2.2.1⟩, hT.2.2.2.2.2.2.1, hT.2.2.2.2.2.2.2⟩, va_S.F hT.2.2.2.2.1 ht⟩) hT.2.2.2.2.1.2.2 hd hC.2.2.2.2.2.2.1
theorem am_lreturn (pc : Nat) {M : am_M} {rc rs n : Nat} {L : List (Option Value)} {f : Nat → am_C} {P : am_P} {x : Int64} (hd : decode (am_by M) pc = .ok (.lreturn, 1)) (hr : am_rt M = some .long) (hP : P (.inl (some (.long x))) n f) : AW M rc rs pc L [.long x] n f P := by
  intro D cA p l e R s m args below meth c A n0 ρ0 mc ms hC hR H locs cells slots ρ ls hT hcs
  refine vx_ret (W.widen (k := mc) (n := ms) (by omega) (by omega) ?_)
  exact W.lret hC.1 hC.2.1 (hC.2.2.1.trans hr) (fun t ht hW => ⟨⟨some (.long x), n, f, ρ, rfl, hP, ⟨trivial, trivial⟩, by rw [ht]; exact hT.2.2.1, hT.2.2.2.1, ⟨hT.2.2.2.2.2.1.1, hT.2.2.2.2.2.1.2.2.1⟩, hT.2.2.2.2.2.2.1, hT.2.2.2.2.2.2.2⟩, va_S.F hT.2.2.2.2.1 ht⟩) hT.2.2.2.2.1.2.2 hd hC.2.2.2.2.2.2.1
theorem am_freturn (pc : Nat) {M : am_M} {rc rs n : Nat} {L : List (Option Value)} {f : Nat → am_C} {P : am_P} {x : UInt32} (hd : decode (am_by M) pc = .ok (.freturn, 1)) (hr : am_rt M = some .float) (hP : P (.inl (some (.float x))) n f) : AW M rc rs pc L [.float x] n f P := by
  intro D cA p l e R s m args below meth c A n0 ρ0 mc ms hC hR H locs cells slots ρ ls hT hcs
  refine vx_ret (W.widen (k := mc) (n := ms) (by omega) (by omega) ?_)
  exact W.fret hC.1 hC.2.1 (hC.2.2.1.trans hr) (fun t ht hW => ⟨⟨some (.float x), n, f, ρ, rfl, hP, ⟨trivial, trivial⟩, by rw [ht]; exact hT.2.2.1, hT.2.2.2.1, ⟨hT.2.2.2.2.2.1.1, hT.2.2.2.2.2.1.2.2.1⟩, hT.2.2.2.2.2.2.1, hT.2.2.2.2.2.2.2⟩, va_S.F hT.2.2.2.2.1 ht⟩) hT.2.2.2.2.1.2.2 hd hC.2.2.2.2.2.2.1
theorem am_dreturn (pc : Nat) {M : am_M} {rc rs n : Nat} {L : List (Option Value)} {f : Nat → am_C} {P : am_P} {x : UInt64} (hd : decode (am_by M) pc = .ok (.dreturn, 1)) (hr : am_rt M = some .double) (hP : P (.inl (some (.double x))) n f) : AW M rc rs pc L [.double x] n f P := by
  intro D cA p l e R s m args below meth c A n0 ρ0 mc ms hC hR H locs cells slots ρ ls hT hcs
  refine vx_ret (W.widen (k := mc) (n := ms) (by omega) (by omega) ?_)
  exact W.dret hC.1 hC.2.1 (hC.2.2.1.trans hr) (fun t ht hW => ⟨⟨some (.double x), n, f, ρ, rfl, hP, ⟨trivial, trivial⟩, by rw [ht]; exact hT.2.2.1, hT.2.2.2.1, ⟨hT.2.2.2.2.2.1.1, hT.2.2.2.2.2.1.2.2.1⟩, hT.2.2.2.2.2.2.1, hT.2.2.2.2.2.2.2⟩, va_S.F hT.2.2.2.2.1 ht⟩) hT.2.2.2.2.1.2.2 hd hC.2.2.2.2.2.2.1
theorem am_areturn (pc : Nat) {M : am_M} {rc rs n : Nat} {L : List (Option Value)} {f : Nat → am_C} {P : am_P} {x : Nat} {ty : FieldType} (hd : decode (am_by M) pc = .ok (.areturn, 1)) (hr : am_rt M = some ty) (hrt : (∃ z, ty = .object z) ∨ ∃ z, ty = .array z) (hP : P (.inl (some (.ref x))) n f) : AW M rc rs pc L [.ref x] n f P := by
  intro D cA p l e R s m args below meth c A n0 ρ0 mc ms hC hR H locs cells slots ρ ls hT hcs
  refine vx_ret (W.widen (k := mc) (n := ms) (by omega) (by omega) ?_)
  exact W.aret hC.1 hC.2.1 (hC.2.2.1.trans hr) hrt (Or.inr ⟨_, rfl⟩) (fun t ht hW => ⟨⟨some (.ref x), n, f, ρ, rfl, hP, ⟨hT.1.1, trivial⟩, by rw [ht]; exact hT.2.2.1, hT.2.2.2.1, ⟨hT.2.2.2.2.2.1.1, hT.2.2.2.2.2.1.2.2.1⟩, hT.2.2.2.2.2.2.1, hT.2.2.2.2.2.2.2⟩, va_S.F hT.2.2.2.2.1 ht⟩) hT.2.2.2.2.1.2.2 hd hC.2.2.2.2.2.2.1
theorem am_return (pc : Nat) {M : am_M} {rc rs n : Nat} {L : List (Option Value)} {f : Nat → am_C} {P : am_P} (hd : decode (am_by M) pc = .ok (.return_, 1)) (hr : am_rt M = none) (hP : P (.inl none) n f) : AW M rc rs pc L [] n f P := by
  intro D cA p l e R s m args below meth c A n0 ρ0 mc ms hC hR H locs cells slots ρ ls hT hcs
  refine vx_ret (W.widen (k := mc) (n := ms) (by omega) (by omega) ?_)
  exact W.vret hC.1 hC.2.1 (hC.2.2.1.trans hr) (fun t ht hW => ⟨⟨none, n, f, ρ, rfl, hP, trivial, by rw [ht]; exact hT.2.2.1, hT.2.2.2.1, ⟨hT.2.2.2.2.2.1.1, hT.2.2.2.2.2.1.2.2.1⟩, hT.2.2.2.2.2.2.1, hT.2.2.2.2.2.2.2⟩, va_S.F hT.2.2.2.2.1 ht⟩) hT.2.2.2.2.1.2.2 hd hC.2.2.2.2.2.2.1
end
section
/-! ===== calls ===== -/
abbrev am_ws (N : am_M) : List Cond := Cond.code (am_y N) (am_by N) (am_mL N) (am_rt N) :: am_W
/-- what the tables say of a method that is called: how many parameters, its code is a word, it has no handlers -/
def am_G (N : am_M) (k : Nat) : Prop := am_hh N = [] ∧ plainName (am_y N).cls = true ∧ Cond.code (am_y N) (am_by N) (am_mL N) (am_rt N) ∈ am_W ∧ Cond.initialized (am_y N).cls ∈ am_W ∧ ((am_y N).cls ≠ "java/lang/invoke/MethodHandle" ∧ (am_y N).cls ≠ "java/lang/invoke/VarHandle") ∧ (parseMethodDescriptor (am_y N).desc).map (fun d => d.parameters.length) = some k
/-- the room that it needs -/
def am_G2 (M N : am_M) : Prop := am_fr N + 1 ≤ am_fr M ∧ 8 + (am_mL N + 11) + am_lo N ≤ am_lo M
def am_Pc (D : va_G) (cA : Nat → ClassId) (ρ : Nat → Nat) (n : Nat) (f : Nat → am_C) (sz : Nat) (vs : List Value) : Array Value → State → Prop := va_Pc vs (fun U => U.heap.size = sz ∧ va_P D vwCl (am_w cA ρ n f) U.heap ∧ va_D (fun _ => True) (am_w cA ρ n f) ∧ (am_S D cA (va_A (am_w cA ρ n f) sz) U ∧ am_k0 ≤ n ∧ am_Ex (va_A (am_w cA ρ n f) sz) U ρ f))
abbrev am_rm (N : am_M) (mc ms : Nat) : Room := { frames := am_fr N, cells := mc, slots := ms, locals := am_lo N }
theorem am_Pc_blind {D : va_G} {cA : Nat → ClassId} {ρ : Nat → Nat} {n : Nat} {f : Nat → am_C} {sz : Nat} {vs : List Value} : FrameBlind (am_Pc D cA ρ n f sz vs) := fun a U g mk q => ⟨q.1, q.2.1, q.2.2.1, q.2.2.2.1, am_S_blind q.2.2.2.2.1, q.2.2.2.2.2.1, am_Ex_blind q.2.2.2.2.2.2⟩
theorem am_body {N : am_M} {mc' ms' n : Nat} {vs : List Value} {f : Nat → am_C} {P : am_P} (hhh : am_hh N = []) (k : AW N mc' ms' 0 (am_en (am_mL N) vs) [] n f P) {D : va_G} {cA : Nat → ClassId} {ρ : Nat → Nat} {l : Launch} (hl : l.stackTraces = false) (hvs : am_sn n vs) (hf : ∀ i, i < n → am_cn n (f i)) (hlen : (lg_sl vs).length ≤ am_mL N) {sz : Nat}
    {p : Program} {e : Env} {s : State} {m : MethodId} {args : Array Value} {below : List Frame} {meth : Method} {c : Code} {s₁ : State} (B : BodyLoose p l (am_y N) (headSpec (am_ws N) (am_rm N mc' ms')) (am_by N) (am_mL N) (am_rt N) e s m args below meth c s₁) (hml : c.maxLocals = am_mL N) (ht : ∀ x ∈ c.exceptionTable.toList, False) (hv : am_Pc D cA ρ n f sz (vs.map (am_v ρ)) args s) :
    W p l e (headSpec (am_ws N) (am_rm N mc' ms')).room s m args below meth c s.heap [] 0 0 (vx_MQ below (am_Q D cA (va_A (am_w cA ρ n f) sz) (n, f) ρ P) (am_X D cA (va_A (am_w cA ρ n f) sz) (n, f) ρ P) args s mc' ms' (va_A (am_w cA ρ n f) sz)) (entryFrame m args (am_mL N)) := by
  obtain ⟨rfl, hsz, hP, hD0, hS0, hk0, hE0⟩ := hv
  subst hsz
  rw [lg_entry_eq]
  have hts := atoms_spec (ws := am_ws N) B.pre
  have htab : c.exceptionTable.toList = tableOf (am_hh N) := by
    rw [hhh]
    exact List.eq_nil_iff_forall_not_mem.mpr (fun x hx => ht x hx)
  have hC : am_K N D cA p l s m (vs.map (am_v ρ)).toArray meth c (va_A (am_w cA ρ n f) s.heap.size) :=
    ⟨B.exec, B.bytes, B.returns, hml, findClass_of_methodNamed B.named, fun w h => hts w (List.mem_cons_of_mem _ h), B.notSynchronized, htab, hl, (name_of_methodNamed B.named B.method).1, fun q h => Or.inr h, hS0⟩
  exact am_k k hC ⟨Nat.le_refl _, Nat.le_refl _, Nat.le_refl _, Nat.le_refl _⟩
    ⟨trivial, ⟨am_en_n hvs, am_en_L (by rw [am_sl_len]; exact hlen)⟩, hP, hD0.self, va_S.rf, ⟨Nat.le_refl _, hk0, fun _ _ => rfl, hE0⟩, fun _ _ => rfl, hf⟩ ⟨by omega, by omega⟩
theorem am_met {N : am_M} {mc' ms' n : Nat} {vs : List Value} {f : Nat → am_C} {P : am_P} (hhh : am_hh N = []) (hpl : plainName (am_y N).cls = true) (k : AW N mc' ms' 0 (am_en (am_mL N) vs) [] n f P) {D : va_G} {cA : Nat → ClassId} {ρ : Nat → Nat} {l : Launch} (hl : l.stackTraces = false) (hvs : am_sn n vs) (hf : ∀ i, i < n → am_cn n (f i)) (hlen : (lg_sl vs).length ≤ am_mL N) (sz : Nat) :
    vx_Met l (am_y N) (am_ws N) (am_rm N mc' ms') (am_Pc D cA ρ n f sz (vs.map (am_v ρ))) (am_Q D cA (va_A (am_w cA ρ n f) sz) (n, f) ρ P) (am_X D cA (va_A (am_w cA ρ n f) sz) (n, f) ρ P) mc' ms' (va_A (am_w cA ρ n f) sz) :=
  vx_ofW (cc := am_by N) (maxL := am_mL N) (ret := am_rt N) hpl rfl fun _ _ _ _ _ _ _ _ _ B hml ht hv => am_body hhh k hl hvs hf hlen B hml ht hv
/-- the same for a method that doesn't throw -/
theorem am_metN {N : am_M} {mc' ms' n : Nat} {vs : List Value} {f : Nat → am_C} {P : am_P} (hhh : am_hh N = []) (hpl : plainName (am_y N).cls = true) (hno : ∀ E n' f', ¬ P (.inr E) n' f') (k : AW N mc' ms' 0 (am_en (am_mL N) vs) [] n f P) {D : va_G} {cA : Nat → ClassId} {ρ : Nat → Nat} {l : Launch} (hl : l.stackTraces = false) (hvs : am_sn n vs) (hf : ∀ i, i < n → am_cn n (f i)) (hlen : (lg_sl vs).length ≤ am_mL N) (sz : Nat) :
    Met l (am_y N) (am_ws N) (am_rm N mc' ms') (am_Pc D cA ρ n f sz (vs.map (am_v ρ))) (am_Q D cA (va_A (am_w cA ρ n f) sz) (n, f) ρ P) mc' ms' (va_A (am_w cA ρ n f) sz) := by
  have h := am_met hhh hpl k (D := D) (cA := cA) (ρ := ρ) hl hvs hf hlen sz
  intro p e ha hc hk s m args below hfr happ hP hKK
  obtain ⟨x, o, h1, h2, h3, h4⟩ := h p e ha hc hk s m args below hfr happ hP hKK
  refine ⟨x, o, h1, h2, h3, ?_⟩
  rcases h4 with h4 | ⟨q, -, E, ce, LL, ⟨⟨kk, n', f', ρ', -, hx, -⟩, -⟩, -⟩
  · exact h4
  · exact absurd hx (hno _ _ _)
theorem am_room8 {m : MethodId} {pc : Nat} {ls : Array Slot} {st rest : List Value} {ρ : Nat → Nat} (h : (rest.map fun v => v.category).sum ≤ 8) : 2 * (F0 m pc ls st).monitorRoom + ((rest.map (am_v ρ)).map fun v => v.category).sum ≤ 8 := by
  have e : (rest.map (am_v ρ)).map (fun v => v.category) = rest.map fun v => v.category := by
    rw [List.map_map]
    exact List.map_congr_left fun v _ => am_cat ρ v
  rw [e]
  exact lv_room h
/-- behind a call -/
def am_ct (M : am_M) (rc rs pc : Nat) (L : List (Option Value)) (rest : List Value) (P : am_P) : am_P := fun o n f => match o with
  | .inl v => AW M rc rs (pc + 3) L (v.toList ++ rest) n f P
  | .inr E => AX M rc rs pc L rest E n f P
section AMGO
variable {M : am_M} {rc rs mc' ms' pc n : Nat} {L : List (Option Value)} {rest : List Value} {f : Nat → am_C} {P : am_P} {D : va_G} {cA : Nat → ClassId} {p : Program} {l : Launch} {e : Env} {R : Room} {s : State} {m : MethodId} {args : Array Value} {below : List Frame} {meth : Method} {c : Code} {A : Nat → Prop} {n0 : am_n} {ρ0 : Nat → Nat} {mc ms : Nat} {H : Heap} {locs : List Loc} {cells slots : Nat} {ρ : Nat → Nat} {ls : Array Slot} {st0 : List Value} {a : Array Value}
theorem am_sub {A' : Nat → Prop} (hA' : A' = va_A (am_w cA ρ n f) H.size) (hC : am_K M D cA p l s m args meth c A) (hU : am_U D cA A s n0 ρ0 n f H locs ρ) : ∀ q, A' q → A q := by
  subst hA'
  rintro q (⟨k, x, h⟩ | h)
  · exact hU.2.1.2 k (q, x) h
  · exact hC.2.2.2.2.2.2.2.2.2.2.1 q (Nat.le_trans hU.2.2.1.1 h)
/-- the state behind a call -/
theorem am_back {n' : Nat} {f' : Nat → am_C} {ρ' : Nat → Nat} {H1 : Heap} {locs1 : List Loc} {t : State} (hC : am_K M D cA p l s m args meth c A) (hT : am_T D cA A s n0 ρ0 (am_mL M) n f L rest H locs ρ ls) (ht : t.heap = H1) (hR : am_R D cA (va_A (am_w cA ρ n f) H.size) (n, f) ρ n' f' ρ' t) (hS : va_S A s.heap H1 locs1) :
    am_T D cA A s n0 ρ0 (am_mL M) n' f' L rest H1 locs1 ρ' ls ∧ rest.map (am_v ρ') = rest.map (am_v ρ) := by
  obtain ⟨r1, r2, r3, r4, r5⟩ := hR
  subst ht
  have hin := am_sub (H := H) rfl hC hT.2.2
  refine ⟨⟨am_sn_mono r3.1 hT.1, ⟨am_ln_mono r3.1 hT.2.1.1, am_L_congr r4 hT.2.1.1 hT.2.1.2⟩, r1, r2.weaken (fun k q _ h => hin q.1 h), hS, ⟨Nat.le_trans hT.2.2.2.2.2.1.1 r3.1, hT.2.2.2.2.2.1.2.1, fun i hi => (r3.2 i hi).trans (hT.2.2.2.2.2.1.2.2.1 i hi), hT.2.2.2.2.2.1.2.2.2⟩, fun i hi => ?_, r5⟩, am_s_congr r4 hT.1⟩
  rw [r4 i (Nat.lt_of_lt_of_le hi hT.2.2.2.2.2.1.1), hT.2.2.2.2.2.2.1 i hi]
theorem am_goX (hr : vx_Run p l e R s m args below meth c H locs cells slots mc' ms' (F0 m pc ls st0) (rest.map (am_v ρ)) (am_Q D cA (va_A (am_w cA ρ n f) H.size) (n, f) ρ (am_ct M rc rs pc L rest P) a) (am_X D cA (va_A (am_w cA ρ n f) H.size) (n, f) ρ (am_ct M rc rs pc L rest P)) (va_A (am_w cA ρ n f) H.size))
    (hC : am_K M D cA p l s m args meth c A) (hR : am_room M R mc ms) (hT : am_T D cA A s n0 ρ0 (am_mL M) n f L rest H locs ρ ls) (hcs : cells + mc' + rc ≤ mc ∧ slots + ms' + rs ≤ ms) :
    W p l e R s m args below meth c H locs cells slots (vx_MQ below (am_Q D cA A n0 ρ0 P) (am_X D cA A n0 ρ0 P) args s mc ms A) (F0 m pc ls st0) := by
  intro T hTT X
  have hin := am_sub (H := H) rfl hC hT.2.2
  rcases hr T hTT X with ⟨v, st₀, t, T', LL, h0, X', hL, e1, e2, ⟨⟨v', n', f', ρ', hv, hk, hvn, hRR⟩, hF⟩, st⟩ | ⟨q, st₀, t, T', LL, E, ce, h0, X', hL, e1, e2, ⟨⟨kk, n', f', ρ', hE, hk, hRR⟩, hF⟩, hce, hcv, hcl, st⟩
  · obtain ⟨k1, k2, k3⟩ := vx_keep h0 e1 hT.2.2.2.2.1 (fun q _ h => hin q h) hin hL hF
    obtain ⟨b1, b2⟩ := am_back hC hT e1.symm hRR k3
    have e9 : v.toList ++ rest.map (am_v ρ) = (v'.toList ++ rest).map (am_v ρ') := by
      rw [List.map_append, b2]
      have hv9 : v = v'.map (am_v ρ') := by
        have := hv
        injection this
      rw [hv9]
      cases v' <;> rfl
    have hk' : AW M rc rs (pc + 3) L (v'.toList ++ rest) n' f' P := hk
    have hsn : am_sn n' (v'.toList ++ rest) := by
      cases v' with
      | none => exact b1.1
      | some w => exact ⟨hvn.1, b1.1⟩
    obtain ⟨t2, a1, b3⟩ := am_k hk' hC hR ⟨hsn, b1.2⟩ hcs T' rfl X'
    refine ⟨t2, st t2 ?_, b3⟩
    have e8 : ({ (F0 m pc ls st0) with pc := (F0 m pc ls st0).pc + 3, stack := v.toList ++ rest.map (am_v ρ) } : JFrame) = F0 m (pc + 3) ls ((v'.toList ++ rest).map (am_v ρ')) := by rw [e9]
    rw [e8]
    exact a1
  · obtain ⟨k1, k2, k3⟩ := vx_keep h0 e1 hT.2.2.2.2.1 (fun q _ h => hin q h) hin hL hF
    obtain ⟨b1, b2⟩ := am_back hC hT e1.symm hRR k3
    have hk' : AX M rc rs pc L rest kk n' f' P := hk
    obtain ⟨t2, a1, b3⟩ := hk' D cA p l e R s m args below meth c A n0 ρ0 mc ms hC hR T'.heap (locs ++ LL) (cells + mc') (slots + ms') ρ' ls q ce b1 hcs (by rw [e1]; exact hce) hcv (by rw [hE]; exact hcl) T' rfl X'
    refine ⟨t2, st.trans ?_, b3⟩
    have e8 : ({ (F0 m pc ls st0) with stack := rest.map (am_v ρ) } : JFrame) = F0 m pc ls (rest.map (am_v ρ')) := by rw [b2]
    rw [e8]
    exact a1
theorem am_goN (hr : va_Run p l e R s m args below meth c H locs cells slots mc' ms' (F0 m pc ls st0) (rest.map (am_v ρ)) (am_Q D cA (va_A (am_w cA ρ n f) H.size) (n, f) ρ (am_ct M rc rs pc L rest P) a) (va_A (am_w cA ρ n f) H.size))
    (hC : am_K M D cA p l s m args meth c A) (hR : am_room M R mc ms) (hT : am_T D cA A s n0 ρ0 (am_mL M) n f L rest H locs ρ ls) (hcs : cells + mc' + rc ≤ mc ∧ slots + ms' + rs ≤ ms) :
    W p l e R s m args below meth c H locs cells slots (vx_MQ below (am_Q D cA A n0 ρ0 P) (am_X D cA A n0 ρ0 P) args s mc ms A) (F0 m pc ls st0) := by
  refine am_goX (a := a) ?_ hC hR hT hcs
  intro T hTT X
  obtain ⟨v, st₀, t, T', LL, h0, X', hL, e1, e2, hq, st⟩ := hr T hTT X
  exact Or.inl ⟨v, st₀, t, T', LL, h0, X', hL, e1, e2, hq, st⟩
end AMGO
/-- the callee's start is met -/
theorem am_pre {M : am_M} {n : Nat} {L : List (Option Value)} {st vs : List Value} {f : Nat → am_C} {D : va_G} {cA : Nat → ClassId} {p : Program} {l : Launch} {s : State} {m : MethodId} {args : Array Value} {meth : Method} {c : Code} {A : Nat → Prop} {n0 : am_n} {ρ0 : Nat → Nat} {H : Heap} {locs : List Loc} {ρ : Nat → Nat} {ls : Array Slot}
    (hC : am_K M D cA p l s m args meth c A) (hT : am_T D cA A s n0 ρ0 (am_mL M) n f L st H locs ρ ls) : ∀ U : State, U.heap = H → s.WarmedH U.vm → am_Pc D cA ρ n f H.size (vs.map (am_v ρ)) (vs.map (am_v ρ)).toArray U := by
  intro U hU hW
  subst hU
  exact ⟨rfl, rfl, hT.2.2.1, hT.2.2.2.1.weaken (fun _ _ _ _ => trivial), am_S_at hC.2.2.2.2.2.2.2.2.2.2.2 hT.2.2.2.2.1 hW (am_sub (H := U.heap) rfl hC hT.2.2), Nat.le_trans hT.2.2.2.2.2.1.2.1 hT.2.2.2.2.2.1.1, am_Ex_at hT.2.2.2.2.2.1.2.2.2 hT.2.2.2.2.1 hW (am_sub (H := U.heap) rfl hC hT.2.2) (fun i hi => hT.2.2.2.2.2.2.1 i (Nat.lt_of_lt_of_le hi hT.2.2.2.2.2.1.2.1)) (fun i hi => hT.2.2.2.2.2.1.2.2.1 i hi)⟩
theorem am_calB {M N : am_M} {k mc' ms' : Nat} {R : Room} {s : State} {args : Array Value} {own : String} {idx : Nat} {rs mc ms : Nat} (hG : am_G N k) (hG2 : am_G2 M N) (hR : am_fr M ≤ R.frames ∧ am_lo M ≤ R.locals) (hts : ∀ w ∈ am_W, w.before args s = true) (hl : Cond.methodLink own idx (am_y N) ∈ am_W) :
    CallB R s args own idx (am_y N) (am_by N) (am_mL N) (am_rt N) (am_ws N) (am_rm N mc' ms') mc' ms' k := by
  obtain ⟨-, -, g1, g2, g3, g4⟩ := hG
  have hgood : GoodIn am_W (am_ws N) := fun w hw => (List.mem_cons.mp hw).elim (fun e => by rw [e]; exact ⟨g1, am_good _ g1⟩) (fun h => ⟨h, am_good _ h⟩)
  refine ⟨rfl, rfl, Nat.le_trans hG2.1 hR.1, Nat.le_trans hG2.2 hR.2, pay_in hts hgood, List.mem_cons_self, hts _ g1, hts _ g2, g3, fun sig h => ?_, hts _ hl⟩
  rw [h] at g4
  exact (Option.some.inj g4).symm
theorem am_calN {M N : am_M} {k mc' ms' : Nat} {R : Room} {s : State} {args : Array Value} {own host : String} {idx : Nat} (hG : am_G N k) (hG2 : am_G2 M N) (hR : am_fr M ≤ R.frames ∧ am_lo M ≤ R.locals) (hts : ∀ w ∈ am_W, w.before args s = true) (hl : va_Nw (.methodLinkNest own idx (am_y N) host) s) :
    va_CN R s args own idx (am_y N) host (am_by N) (am_mL N) (am_rt N) (am_ws N) (am_rm N mc' ms') mc' ms' k := by
  obtain ⟨-, -, g1, g2, g3, g4⟩ := hG
  have hgood : GoodIn am_W (am_ws N) := fun w hw => (List.mem_cons.mp hw).elim (fun e => by rw [e]; exact ⟨g1, am_good _ g1⟩) (fun h => ⟨h, am_good _ h⟩)
  refine ⟨⟨rfl, rfl, Nat.le_trans hG2.1 hR.1, Nat.le_trans hG2.2 hR.2, pay_in hts hgood, List.mem_cons_self⟩, hts _ g1, hts _ g2, g3, fun sig h => ?_, va_Nw.use rfl hl⟩
  rw [h] at g4
  exact (Option.some.inj g4).symm
theorem am_sn_app {n : Nat} : ∀ {a b : List Value}, am_sn n (a ++ b) ↔ am_sn n a ∧ am_sn n b
  | [], b => ⟨fun h => ⟨trivial, h⟩, fun h => h.2⟩
  | x :: a, b => by
    simp only [List.cons_append, am_sn, am_sn_app (a := a) (b := b), and_assoc]
theorem am_sn_rev {n : Nat} : ∀ {a : List Value}, am_sn n a.reverse ↔ am_sn n a
  | [] => Iff.rfl
  | x :: a => by
    rw [List.reverse_cons, am_sn_app, am_sn_rev (a := a)]
    simp only [am_sn, and_true]
    exact And.comm
theorem am_recv {n b ci : Nat} {fs : List Value} {f : Nat → am_C} {D : va_G} {cA : Nat → ClassId} {s : State} {H : Heap} {ρ : Nat → Nat} {q : vw_C} {tys : List (ClassId × FieldType)} (hK : va_K D vwCl tys s) (hP : va_P D vwCl (am_w cA ρ n f) H) (hb : f b = .inr (ci, fs)) (hn : b < n) (h0 : am_k0 ≤ b) (hc : vwCl[ci]? = some q) : ∃ cell : Cell, H[ρ b]? = some cell ∧ cell.vm.isStatics = false ∧ s.vm.findClass q.1 = some cell.cls :=
  va_recv hK hP hc (q0 := b - am_k0) (a := ρ b) (ci := ci) (fs := fs.map (am_v ρ)) (by rw [am_w_at hn h0, hb]; rfl)
/-- invokevirtual -/
theorem am_invV (pc : Nat) {M N : am_M} {rc rs mc' ms' n idx k b ci : Nat} {L : List (Option Value)} {as rest fs : List Value} {f : Nat → am_C} {P : am_P} {q : vw_C} (hd : decode (am_by M) pc = .ok (.invokevirtual idx, 3)) (hG : am_G N k) (hG2 : am_G2 M N) (hl : Cond.methodLink (am_y M).cls idx (am_y N) ∈ am_W) (hi : Cond.instanceMethod (am_y N) ∈ am_W) (hse : Cond.selects (am_y N).cls (am_y N) (am_y N) ∈ am_W)
    (hb : f b = .inr (ci, fs)) (hq : vwCl[ci]? = some q) (hqn : q.1 = (am_y N).cls) (hk : as.length = k) (hr : (rest.map fun v => v.category).sum ≤ 8) (hlen : (lg_sl (.ref b :: as)).length ≤ am_mL N)
    (kk : AW N mc' ms' 0 (am_en (am_mL N) (.ref b :: as)) [] n f (am_ct M rc rs pc L rest P)) : AW M (mc' + rc) (ms' + rs) pc L (as.reverse ++ .ref b :: rest) n f P := by
  intro D cA p l e R s m args below meth c A n0 ρ0 mc ms hC hR H locs cells slots ρ ls hT hcs
  have hst := am_sn_app.mp hT.1
  have hbn : b < n := hst.2.1
  have hT2 : am_T D cA A s n0 ρ0 (am_mL M) n f L rest H locs ρ ls := ⟨hst.2.2, hT.2⟩
  have hvs : am_sn n (.ref b :: as) := ⟨hbn, am_sn_rev.mp hst.1⟩
  obtain ⟨cell, c1, c2, c3⟩ := am_recv hC.2.2.2.2.2.2.2.2.2.2.2.1 hT.2.2.1 hb hbn (am_ownO hT.2.2.2.2.2.1 hb) hq
  rw [hqn] at c3
  refine am_goX (mc' := mc') (ms' := ms') (a := (Value.ref (ρ b) :: as.map (am_v ρ)).toArray) (vx_runV (As := as.map (am_v ρ)) (b := ρ b) (n := k) (nL := am_mL M) ⟨hC.1, hC.2.1, hC.2.2.2.1, hC.2.2.2.2.1, hC.2.2.2.2.2.1⟩ (am_met hG.1 hG.2.1 kk (ρ := ρ) (D := D) (cA := cA) hC.2.2.2.2.2.2.2.2.1 hvs hT.2.2.2.2.2.2.2 hlen H.size)
    ⟨am_calB (mc' := mc') (ms' := ms') (rs := 0) (mc := 0) (ms := 0) hG hG2 ⟨hR.1, hR.2.1⟩ hC.2.2.2.2.2.1 hl, hC.2.2.2.2.2.1 _ hi, hC.2.2.2.2.2.1 _ hse⟩ ⟨am_Pc_blind, ⟨cell, c1, c2, c3⟩, am_pre (vs := .ref b :: as) hC hT⟩
    rfl (by rw [List.length_map]; exact hk) hT.2.1.2.1 (by rw [← List.map_reverse, List.map_append]; rfl) (am_room8 hr) hd ⟨by have := hR.2.2.1; omega, by have := hR.2.2.2; omega⟩) hC hR hT2 ⟨by omega, by omega⟩
/-- invokestatic -/
theorem am_invS (pc : Nat) {M N : am_M} {rc rs mc' ms' n idx k : Nat} {L : List (Option Value)} {as rest : List Value} {f : Nat → am_C} {P : am_P} (hd : decode (am_by M) pc = .ok (.invokestatic idx, 3)) (hG : am_G N k) (hG2 : am_G2 M N) (hl : Cond.methodLink (am_y M).cls idx (am_y N) ∈ am_W) (hi : Cond.static (am_y N) ∈ am_W)
    (hk : as.length = k) (hr : (rest.map fun v => v.category).sum ≤ 8) (hlen : (lg_sl as).length ≤ am_mL N)
    (kk : AW N mc' ms' 0 (am_en (am_mL N) as) [] n f (am_ct M rc rs pc L rest P)) : AW M (mc' + rc) (ms' + rs) pc L (as.reverse ++ rest) n f P := by
  intro D cA p l e R s m args below meth c A n0 ρ0 mc ms hC hR H locs cells slots ρ ls hT hcs
  have hst := am_sn_app.mp hT.1
  have hT2 : am_T D cA A s n0 ρ0 (am_mL M) n f L rest H locs ρ ls := ⟨hst.2, hT.2⟩
  have hvs : am_sn n as := am_sn_rev.mp hst.1
  refine am_goX (mc' := mc') (ms' := ms') (a := (as.map (am_v ρ)).toArray) (vx_runS (As := as.map (am_v ρ)) (n := k) (nL := am_mL M) ⟨hC.1, hC.2.1, hC.2.2.2.1, hC.2.2.2.2.1, hC.2.2.2.2.2.1⟩ (am_met hG.1 hG.2.1 kk (ρ := ρ) (D := D) (cA := cA) hC.2.2.2.2.2.2.2.2.1 hvs hT.2.2.2.2.2.2.2 hlen H.size)
    ⟨am_calB (mc' := mc') (ms' := ms') (rs := 0) (mc := 0) (ms := 0) hG hG2 ⟨hR.1, hR.2.1⟩ hC.2.2.2.2.2.1 hl, hC.2.2.2.2.2.1 _ hi⟩ ⟨am_Pc_blind, am_pre (vs := as) hC hT⟩
    rfl (by rw [List.length_map]; exact hk) hT.2.1.2.1 (by rw [← List.map_reverse, List.map_append]) (am_room8 hr) hd ⟨by have := hR.2.2.1; omega, by have := hR.2.2.2; omega⟩) hC hR hT2 ⟨by omega, by omega⟩
/-- invokespecial of a constructor -/
theorem am_invI (pc : Nat) {M N : am_M} {rc rs mc' ms' n idx k b : Nat} {L : List (Option Value)} {as rest : List Value} {f : Nat → am_C} {P : am_P} (hd : decode (am_by M) pc = .ok (.invokespecial idx, 3)) (hG : am_G N k) (hG2 : am_G2 M N) (hv : am_rt N = none) (hy : (am_y N).name = "<init>") (hl : Cond.methodLink (am_y M).cls idx (am_y N) ∈ am_W) (hi : Cond.instanceMethod (am_y N) ∈ am_W)
    (hk : as.length = k) (hr : (rest.map fun v => v.category).sum ≤ 8) (hlen : (lg_sl (.ref b :: as)).length ≤ am_mL N)
    (kk : AW N mc' ms' 0 (am_en (am_mL N) (.ref b :: as)) [] n f (fun o n' f' => match o with | .inl v => AW M rc rs (pc + 3) L (v.toList ++ rest) n' f' P | .inr _ => False)) : AW M (mc' + rc) (ms' + rs) pc L (as.reverse ++ .ref b :: rest) n f P := by
  intro D cA p l e R s m args below meth c A n0 ρ0 mc ms hC hR H locs cells slots ρ ls hT hcs
  have hst := am_sn_app.mp hT.1
  have hT2 : am_T D cA A s n0 ρ0 (am_mL M) n f L rest H locs ρ ls := ⟨hst.2.2, hT.2⟩
  have hvs : am_sn n (.ref b :: as) := ⟨hst.2.1, am_sn_rev.mp hst.1⟩
  have hB := am_calB (mc' := mc') (ms' := ms') (rs := 0) (mc := 0) (ms := 0) hG hG2 ⟨hR.1, hR.2.1⟩ hC.2.2.2.2.2.1 hl
  have hM := am_metN hG.1 hG.2.1 (fun _ _ _ h => h) kk (ρ := ρ) (D := D) (cA := cA) hC.2.2.2.2.2.2.2.2.1 hvs hT.2.2.2.2.2.2.2 hlen H.size
  rw [hv] at hB
  have hM2 : Met l (am_y N) (am_ws N) (am_rm N mc' ms') (am_Pc D cA ρ n f H.size ((Value.ref b :: as).map (am_v ρ))) (am_Q D cA (va_A (am_w cA ρ n f) H.size) (n, f) ρ (am_ct M rc rs pc L rest P)) mc' ms' (va_A (am_w cA ρ n f) H.size) := by
    intro p e ha hc hk s m args below hfr happ hP hKK
    obtain ⟨x, o, h1, h2, h3, ⟨⟨v, n', f', ρ', h4, h5, h6⟩, h7⟩, h8⟩ := hM p e ha hc hk s m args below hfr happ hP hKK
    exact ⟨x, o, h1, h2, h3, ⟨⟨v, n', f', ρ', h4, h5, h6⟩, h7⟩, h8⟩
  refine am_goN (mc' := mc') (ms' := ms') (a := (Value.ref (ρ b) :: as.map (am_v ρ)).toArray) (va_runI (As := as.map (am_v ρ)) (b := ρ b) (n := k) (nL := am_mL M) ⟨hC.1, hC.2.1, hC.2.2.2.1, hC.2.2.2.2.1, hC.2.2.2.2.2.1⟩ hM2
    ⟨hB, hy, hC.2.2.2.2.2.1 _ hi⟩ ⟨am_Pc_blind, am_pre (vs := .ref b :: as) hC hT⟩
    rfl (by rw [List.length_map]; exact hk) hT.2.1.2.1 (by rw [← List.map_reverse, List.map_append]; rfl) (am_room8 hr) hd ⟨by have := hR.2.2.1; omega, by have := hR.2.2.2; omega⟩) hC hR hT2 ⟨by omega, by omega⟩
/-- a nest mate's private constructor -/
theorem am_invIN (pc : Nat) {M N : am_M} {rc rs mc' ms' n idx k b : Nat} {host : String} {L : List (Option Value)} {as rest : List Value} {f : Nat → am_C} {P : am_P} (hd : decode (am_by M) pc = .ok (.invokespecial idx, 3)) (hG : am_G N k) (hG2 : am_G2 M N) (hv : am_rt N = none) (hy : (am_y N).name = "<init>") (hl : ((am_y M).cls, idx, am_y N, host) ∈ am_nst) (hi : Cond.instanceMethod (am_y N) ∈ am_W)
    (hk : as.length = k) (hr : (rest.map fun v => v.category).sum ≤ 8) (hlen : (lg_sl (.ref b :: as)).length ≤ am_mL N)
    (kk : AW N mc' ms' 0 (am_en (am_mL N) (.ref b :: as)) [] n f (fun o n' f' => match o with | .inl v => AW M rc rs (pc + 3) L (v.toList ++ rest) n' f' P | .inr _ => False)) : AW M (mc' + rc) (ms' + rs) pc L (as.reverse ++ .ref b :: rest) n f P := by
  intro D cA p l e R s m args below meth c A n0 ρ0 mc ms hC hR H locs cells slots ρ ls hT hcs
  have hst := am_sn_app.mp hT.1
  have hT2 : am_T D cA A s n0 ρ0 (am_mL M) n f L rest H locs ρ ls := ⟨hst.2.2, hT.2⟩
  have hvs : am_sn n (.ref b :: as) := ⟨hst.2.1, am_sn_rev.mp hst.1⟩
  have hB := am_calN (mc' := mc') (ms' := ms') hG hG2 ⟨hR.1, hR.2.1⟩ hC.2.2.2.2.2.1 (hC.2.2.2.2.2.2.2.2.2.2.2.2.1 _ hl)
  have hM := am_metN hG.1 hG.2.1 (fun _ _ _ h => h) kk (ρ := ρ) (D := D) (cA := cA) hC.2.2.2.2.2.2.2.2.1 hvs hT.2.2.2.2.2.2.2 hlen H.size
  rw [hv] at hB
  have hM2 : Met l (am_y N) (am_ws N) (am_rm N mc' ms') (am_Pc D cA ρ n f H.size ((Value.ref b :: as).map (am_v ρ))) (am_Q D cA (va_A (am_w cA ρ n f) H.size) (n, f) ρ (am_ct M rc rs pc L rest P)) mc' ms' (va_A (am_w cA ρ n f) H.size) := by
    intro p e ha hc hk s m args below hfr happ hP hKK
    obtain ⟨x, o, h1, h2, h3, ⟨⟨v, n', f', ρ', h4, h5, h6⟩, h7⟩, h8⟩ := hM p e ha hc hk s m args below hfr happ hP hKK
    exact ⟨x, o, h1, h2, h3, ⟨⟨v, n', f', ρ', h4, h5, h6⟩, h7⟩, h8⟩
  refine am_goN (mc' := mc') (ms' := ms') (a := (Value.ref (ρ b) :: as.map (am_v ρ)).toArray) (va_runIN (As := as.map (am_v ρ)) (b := ρ b) (n := k) (nL := am_mL M) ⟨hC.1, hC.2.1, hC.2.2.2.1, hC.2.2.2.2.1, hC.2.2.2.2.2.1⟩ hM2
    ⟨hB, hy, hC.2.2.2.2.2.1 _ hi⟩ ⟨am_Pc_blind, am_pre (vs := .ref b :: as) hC hT⟩
    rfl (by rw [List.length_map]; exact hk) hT.2.1.2.1 (by rw [← List.map_reverse, List.map_append]; rfl) (am_room8 hr) hd ⟨by have := hR.2.2.1; omega, by have := hR.2.2.2; omega⟩) hC hR hT2 ⟨by omega, by omega⟩
/-- a nest mate's private static method -/
theorem am_invSN (pc : Nat) {M N : am_M} {rc rs mc' ms' n idx k : Nat} {host : String} {L : List (Option Value)} {as rest : List Value} {f : Nat → am_C} {P : am_P} (hd : decode (am_by M) pc = .ok (.invokestatic idx, 3)) (hG : am_G N k) (hG2 : am_G2 M N) (hl : ((am_y M).cls, idx, am_y N, host) ∈ am_nst) (hi : Cond.static (am_y N) ∈ am_W)
    (hk : as.length = k) (hr : (rest.map fun v => v.category).sum ≤ 8) (hlen : (lg_sl as).length ≤ am_mL N)
    (kk : AW N mc' ms' 0 (am_en (am_mL N) as) [] n f (fun o n' f' => match o with | .inl v => AW M rc rs (pc + 3) L (v.toList ++ rest) n' f' P | .inr _ => False)) : AW M (mc' + rc) (ms' + rs) pc L (as.reverse ++ rest) n f P := by
  intro D cA p l e R s m args below meth c A n0 ρ0 mc ms hC hR H locs cells slots ρ ls hT hcs
  have hst := am_sn_app.mp hT.1
  have hT2 : am_T D cA A s n0 ρ0 (am_mL M) n f L rest H locs ρ ls := ⟨hst.2, hT.2⟩
  have hvs : am_sn n as := am_sn_rev.mp hst.1
  have hB := am_calN (mc' := mc') (ms' := ms') hG hG2 ⟨hR.1, hR.2.1⟩ hC.2.2.2.2.2.1 (hC.2.2.2.2.2.2.2.2.2.2.2.2.1 _ hl)
  have hM := am_metN hG.1 hG.2.1 (fun _ _ _ h => h) kk (ρ := ρ) (D := D) (cA := cA) hC.2.2.2.2.2.2.2.2.1 hvs hT.2.2.2.2.2.2.2 hlen H.size
  have hM2 : Met l (am_y N) (am_ws N) (am_rm N mc' ms') (am_Pc D cA ρ n f H.size (as.map (am_v ρ))) (am_Q D cA (va_A (am_w cA ρ n f) H.size) (n, f) ρ (am_ct M rc rs pc L rest P)) mc' ms' (va_A (am_w cA ρ n f) H.size) := by
    intro p e ha hc hk s m args below hfr happ hP hKK
    obtain ⟨x, o, h1, h2, h3, ⟨⟨v, n', f', ρ', h4, h5, h6⟩, h7⟩, h8⟩ := hM p e ha hc hk s m args below hfr happ hP hKK
    exact ⟨x, o, h1, h2, h3, ⟨⟨v, n', f', ρ', h4, h5, h6⟩, h7⟩, h8⟩
  refine am_goN (mc' := mc') (ms' := ms') (a := (as.map (am_v ρ)).toArray) (va_runSN (As := as.map (am_v ρ)) (n := k) (nL := am_mL M) ⟨hC.1, hC.2.1, hC.2.2.2.1, hC.2.2.2.2.1, hC.2.2.2.2.2.1⟩ hM2
    ⟨hB, hC.2.2.2.2.2.1 _ hi, trivial⟩ ⟨am_Pc_blind, am_pre (vs := as) hC hT⟩
    rfl (by rw [List.length_map]; exact hk) hT.2.1.2.1 (by rw [← List.map_reverse, List.map_append]) (am_room8 hr) hd ⟨by have := hR.2.2.1; omega, by have := hR.2.2.2; omega⟩) hC hR hT2 ⟨by omega, by omega⟩
/-- Object.<init> -/
theorem am_objInit (pc : Nat) {M : am_M} {rc rs n idx b : Nat} {L : List (Option Value)} {st : List Value} {f : Nat → am_C} {P : am_P} (hd : decode (am_by M) pc = .ok (.invokespecial idx, 3)) (hl : Cond.methodLink (am_y M).cls idx objectInit ∈ am_W) (hi : Cond.instanceMethod objectInit ∈ am_W) (hc : Cond.code objectInit ⟨#[0xb1]⟩ 1 none ∈ am_W) (hfr : 1 ≤ am_fr M) (hlo : (st.map fun v => v.category).sum + 12 ≤ am_lo M) (k : AW M rc rs (pc + 3) L st n f P) : AW M rc rs pc L (.ref b :: st) n f P := by
  intro D cA p l e R s m args below meth c A n0 ρ0 mc ms hC hR H locs cells slots ρ ls hT hcs
  have hlo2 : 2 * (F0 m pc ls ((Value.ref b :: st).map (am_v ρ))).monitorRoom + ((st.map (am_v ρ)).map fun v => v.category).sum + 12 ≤ R.locals := by
    have e : (st.map (am_v ρ)).map (fun v => v.category) = st.map fun v => v.category := by
      rw [List.map_map]
      exact List.map_congr_left fun v _ => am_cat ρ v
    rw [e]
    show 2 * 0 + _ + 12 ≤ _
    have := hR.2.1
    omega
  refine W.objInit hC.1 hC.2.1 hC.2.2.2.2.1 (hC.2.2.2.2.2.1 _ hl) (hC.2.2.2.2.2.1 _ hi) (hC.2.2.2.2.2.1 _ hc) rfl (by rw [hC.2.2.2.1]; exact hT.2.1.2.1) rfl hd (Nat.le_trans hfr hR.1) hlo2 ?_
  exact am_k k hC hR ⟨hT.1.2, hT.2⟩ hcs
theorem AX.out {M : am_M} {rc rs pc E n : Nat} {L : List (Option Value)} {st : List Value} {f : Nat → am_C} {P : am_P} (hh : am_hh M = []) (hP : P (.inr E) n f) : AX M rc rs pc L st E n f P := by
  intro D cA p l e R s m args below meth c A n0 ρ0 mc ms hC hR H locs cells slots ρ ls q ce hT hcs hq hv hcl
  refine vx_out (by rw [hC.2.2.2.2.2.2.2.1, hh]; intro x hx; cases hx) hC.2.2.2.2.2.2.1 hq hv hcl (fun t ht _ => ⟨⟨E, n, f, ρ, rfl, hP, by rw [ht]; exact hT.2.2.1, hT.2.2.2.1, ⟨hT.2.2.2.2.2.1.1, hT.2.2.2.2.2.1.2.2.1⟩, hT.2.2.2.2.2.2.1, hT.2.2.2.2.2.2.2⟩, va_S.F hT.2.2.2.2.1 ht⟩) hT.2.2.2.2.1.2.2 (by omega) (by omega)
end
section
/-! ===== fields, arrays, new ones ===== -/
def am_F (own : String) (ix ci k : Nat) : Prop := ∃ (C : String) (T : u_T) (N : Nat), vwCl[ci]? = some (C, T, N) ∧ k < N ∧ Cond.fieldLink own ix (T k).1 (T k).2.1 (T k).2.2.1 ∈ am_W ∧ ∀ w ∈ u_ws C T N, w ∈ am_W
/-- a field that may be written: no final one; or a final one of the constructor's own class -/
def am_Fp (own : String) (ix ci k : Nat) (ty : FieldType) : Prop := ∃ (C : String) (T : u_T) (N : Nat) (ty0 : Nat → FieldType), vwCl[ci]? = some (C, T, N) ∧ k < N ∧ Cond.fieldLink own ix (T k).1 (T k).2.1 (T k).2.2.1 ∈ am_W ∧ (∀ w ∈ u_ws C T N, w ∈ am_W) ∧
  (∀ k, k < N → parseFieldDescriptor (T k).2.2.1 = some (ty0 k)) ∧ (∀ a, a < N → ∀ b, b < N → a ≠ b → (T a).2.1 ≠ (T b).2.1) ∧ (T k).2.2.2 = false ∧ parseFieldDescriptor (T k).2.2.1 = some ty
def am_Ff (own : String) (ix ci k : Nat) (ty : FieldType) : Prop := ∃ (C : String) (T : u_T) (N : Nat) (ty0 : Nat → FieldType), vwCl[ci]? = some (C, T, N) ∧ k < N ∧ Cond.fieldLink own ix (T k).1 (T k).2.1 (T k).2.2.1 ∈ am_W ∧ (∀ w ∈ u_ws C T N, w ∈ am_W) ∧
  (∀ k, k < N → parseFieldDescriptor (T k).2.2.1 = some (ty0 k)) ∧ (∀ a, a < N → ∀ b, b < N → a ≠ b → (T a).2.1 ≠ (T b).2.1) ∧ (T k).2.2.2 = true ∧ (T k).1 = own ∧ parseFieldDescriptor (T k).2.2.1 = some ty
theorem am_fits {ty : FieldType} {v : Value} (ρ : Nat → Nat) (h : fits ty v = true) : fits ty (am_v ρ v) = true := by
  cases v <;> cases ty <;> first | exact h | rfl
theorem am_narrow {ty : FieldType} {v : Value} (ρ : Nat → Nat) (h : narrow ty v = v) : narrow ty (am_v ρ v) = am_v ρ v := by
  cases v <;> cases ty <;> first | exact h | rfl
theorem am_cn_up {n b : Nat} {f : Nat → am_C} {c : am_C} (h : ∀ i, i < n → am_cn n (f i)) (hc : am_cn n c) : ∀ i, i < n → am_cn n (va_up f b c i) := by
  intro i hi
  unfold va_up
  split
  · exact hc
  · exact h i hi
theorem am_cn_push {n : Nat} {f : Nat → am_C} {c : am_C} (h : ∀ i, i < n → am_cn n (f i)) (hc : am_cn (n + 1) c) : ∀ i, i < n + 1 → am_cn (n + 1) (va_up f n c i) := by
  intro i hi
  unfold va_up
  split
  · exact hc
  · exact am_cn_mono (Nat.le_succ n) (h i (by omega))
theorem am_v_rf (ρ : Nat → Nat) (r : Option Nat) : am_v ρ (va_rf r) = va_rf (r.map ρ) := by cases r <;> rfl
theorem am_getfield (pc : Nat) {M : am_M} {rc rs n ix ci k b : Nat} {L : List (Option Value)} {st fs : List Value} {f : Nat → am_C} {P : am_P} {v : Value} (hd : decode (am_by M) pc = .ok (.getfield ix, 3)) (hF : am_F (am_y M).cls ix ci k) (hb : f b = .inr (ci, fs)) (hv : fs[k]? = some v) (kk : AW M rc rs (pc + 3) L (v :: st) n f P) : AW M rc rs pc L (.ref b :: st) n f P := by
  intro D cA p l e R s m args below meth c A n0 ρ0 mc ms hC hR H locs cells slots ρ ls hT hcs
  obtain ⟨C, T, N, f1, f2, f3, f4⟩ := hF
  have hbn : b < n := hT.1.1
  have hb0 : am_k0 ≤ b := am_ownO hT.2.2.2.2.2.1 hb
  have hcn : am_cn n (f b) := hT.2.2.2.2.2.2.2 b hbn
  rw [hb] at hcn
  have hvn : am_vn n v := hcn v (List.mem_of_getElem? hv)
  refine va_get (D := D) (cl := vwCl) (tys := am_tys cA) (ws := am_w cA ρ n f) (q0 := b - am_k0) (fs := fs.map (am_v ρ)) (ci := ci) (C := C) (T := T) (N := N) (v := am_v ρ v) hC.1 hC.2.1 hC.2.2.2.2.2.1 f4 hC.2.2.2.2.1 hC.2.2.2.2.2.2.2.2.2.2.2.1 hT.2.2.1 (by rw [am_w_at hbn hb0, hb]; rfl) f1 k f2 (hC.2.2.2.2.2.1 _ f3) (fun _ h9 => h9) (by rw [List.getElem?_map, hv]; rfl) hd ?_
  exact am_k kk hC hR ⟨⟨hvn, hT.1.2⟩, hT.2⟩ hcs
theorem am_putfield (pc : Nat) {M : am_M} {rc rs n ix ci k b : Nat} {L : List (Option Value)} {st fs : List Value} {f : Nat → am_C} {P : am_P} {v : Value} {ty : FieldType} (hd : decode (am_by M) pc = .ok (.putfield ix, 3)) (hF : am_Fp (am_y M).cls ix ci k ty) (hb : f b = .inr (ci, fs)) (hn : narrow ty v = v) (hfit : fits ty v = true) (hl : k < fs.length) (kk : AW M rc rs (pc + 3) L st n (va_up f b (.inr (ci, fs.set k v))) P) : AW M rc rs pc L (v :: .ref b :: st) n f P := by
  intro D cA p l e R s m args below meth c A n0 ρ0 mc ms hC hR H locs cells slots ρ ls hT hcs
  obtain ⟨C, T, N, ty0, f1, f2, f3, f4, f5, f6, f7, f8⟩ := hF
  have hbn : b < n := hT.1.2.1
  have hb0 : am_k0 ≤ b := am_ownO hT.2.2.2.2.2.1 hb
  have hcn : am_cn n (f b) := hT.2.2.2.2.2.2.2 b hbn
  rw [hb] at hcn
  have hc2 : am_cn n (.inr (ci, fs.set k v)) := fun w hw => by
    rcases List.mem_or_eq_of_mem_set hw with h | h
    · exact hcn w h
    · rw [h]; exact hT.1.1
  refine va_put (D := D) (cl := vwCl) (tys := am_tys cA) (ws := am_w cA ρ n f) (q0 := b - am_k0) (fs := fs.map (am_v ρ)) (ci := ci) (C := C) (T := T) (N := N) (v := am_v ρ v) hC.1 hC.2.1 hC.2.2.2.2.2.1 f4 ty0 f5 f6 hC.2.2.2.2.1 hC.2.2.2.2.2.2.2.2.2.2.2.1 hT.2.2.1 hT.2.2.2.1 hT.2.2.2.2.1 (by rw [am_w_at hbn hb0, hb]; rfl) f1 k f2 (hC.2.2.2.2.2.1 _ f3) (fun _ h9 => h9) f7 f8 (am_narrow ρ hn) (am_fits ρ hfit) (by rw [List.length_map]; exact hl) hd ?_
  intro H1 locs1 hP hD hS
  rw [am_w_set (h0 := hb0) (c := .inr (ci, fs.set k v)) (by simp only [am_e, List.map_set])] at hP hD
  exact am_k kk hC hR ⟨hT.1.2.2, hT.2.1, hP, hD, hS, am_exU hT.2.2.2.2.2.1 hb0, hT.2.2.2.2.2.2.1, am_cn_up hT.2.2.2.2.2.2.2 hc2⟩ hcs
theorem am_putfinal (pc : Nat) {M : am_M} {rc rs n ix ci k b : Nat} {L : List (Option Value)} {st fs : List Value} {f : Nat → am_C} {P : am_P} {v : Value} {ty : FieldType} (hd : decode (am_by M) pc = .ok (.putfield ix, 3)) (hy : (am_y M).name = "<init>") (hF : am_Ff (am_y M).cls ix ci k ty) (hb : f b = .inr (ci, fs)) (hn : narrow ty v = v) (hfit : fits ty v = true) (hl : k < fs.length) (kk : AW M rc rs (pc + 3) L st n (va_up f b (.inr (ci, fs.set k v))) P) : AW M rc rs pc L (v :: .ref b :: st) n f P := by
  intro D cA p l e R s m args below meth c A n0 ρ0 mc ms hC hR H locs cells slots ρ ls hT hcs
  obtain ⟨C, T, N, ty0, f1, f2, f3, f4, f5, f6, f7, f9, f8⟩ := hF
  have hbn : b < n := hT.1.2.1
  have hb0 : am_k0 ≤ b := am_ownO hT.2.2.2.2.2.1 hb
  have hcn : am_cn n (f b) := hT.2.2.2.2.2.2.2 b hbn
  rw [hb] at hcn
  have hc2 : am_cn n (.inr (ci, fs.set k v)) := fun w hw => by
    rcases List.mem_or_eq_of_mem_set hw with h | h
    · exact hcn w h
    · rw [h]; exact hT.1.1
  refine va_putF (D := D) (cl := vwCl) (tys := am_tys cA) (ws := am_w cA ρ n f) (q0 := b - am_k0) (fs := fs.map (am_v ρ)) (ci := ci) (C := C) (T := T) (N := N) (v := am_v ρ v) hC.1 hC.2.1 hC.2.2.2.2.2.1 f4 ty0 f5 f6 hC.2.2.2.2.1 hC.2.2.2.2.2.2.2.2.2.2.2.1 hT.2.2.1 hT.2.2.2.1 hT.2.2.2.2.1 (by rw [am_w_at hbn hb0, hb]; rfl) f1 k f2 (hC.2.2.2.2.2.1 _ f3) (fun _ h9 => h9) f7 (hC.2.2.2.2.2.2.2.2.2.1.trans hy) f9 f8 (am_narrow ρ hn) (am_fits ρ hfit) (by rw [List.length_map]; exact hl) hd ?_
  intro H1 locs1 hP hD hS
  rw [am_w_set (h0 := hb0) (c := .inr (ci, fs.set k v)) (by simp only [am_e, List.map_set])] at hP hD
  exact am_k kk hC hR ⟨hT.1.2.2, hT.2.1, hP, hD, hS, am_exU hT.2.2.2.2.2.1 hb0, hT.2.2.2.2.2.2.1, am_cn_up hT.2.2.2.2.2.2.2 hc2⟩ hcs
theorem am_iaload (pc : Nat) {M : am_M} {rc rs n t b N : Nat} {L : List (Option Value)} {st : List Value} {f : Nat → am_C} {P : am_P} {i : Int32} {g : Nat → Int32} (hd : decode (am_by M) pc = .ok (.iaload, 1)) (ht : am_tyl[t]? = some .int) (hb : f b = .inl (t, N, .inl g)) (hin : vp_in i N) (kk : AW M rc rs (pc + 1) L (.int (g i.toNatClampNeg) :: st) n f P) : AW M rc rs pc L (.int i :: .ref b :: st) n f P := by
  intro D cA p l e R s m args below meth c A n0 ρ0 mc ms hC hR H locs cells slots ρ ls hT hcs
  have hbn : b < n := hT.1.2.1
  have hb0 : am_k0 ≤ b := am_ownA hT.2.2.2.2.2.1 hb (am_t20 ht)
  refine va_iald (D := D) (cl := vwCl) (tys := am_tys cA) (ws := am_w cA ρ n f) (q0 := b - am_k0) (t0 := t) (cA := cA t) (n := N) (f := g) hC.1 hC.2.1 hC.2.2.2.2.2.2.2.2.2.2.2.1 hT.2.2.1 (by rw [am_w_at hbn hb0, hb]; rfl) (am_tys_at ht) hin hd ?_
  exact am_k kk hC hR ⟨⟨trivial, hT.1.2.2⟩, hT.2⟩ hcs
theorem am_zaload (pc : Nat) {M : am_M} {rc rs n t b N : Nat} {L : List (Option Value)} {st : List Value} {f : Nat → am_C} {P : am_P} {i : Int32} {g : Nat → Int32} (hd : decode (am_by M) pc = .ok (.baload, 1)) (ht : am_tyl[t]? = some .boolean) (hb : f b = .inl (t, N, .inl g)) (hin : vp_in i N) (kk : AW M rc rs (pc + 1) L (.int (g i.toNatClampNeg) :: st) n f P) : AW M rc rs pc L (.int i :: .ref b :: st) n f P := by
  intro D cA p l e R s m args below meth c A n0 ρ0 mc ms hC hR H locs cells slots ρ ls hT hcs
  have hbn : b < n := hT.1.2.1
  have hb0 : am_k0 ≤ b := am_ownA hT.2.2.2.2.2.1 hb (am_t20 ht)
  refine va_zald (D := D) (cl := vwCl) (tys := am_tys cA) (ws := am_w cA ρ n f) (q0 := b - am_k0) (t0 := t) (cA := cA t) (n := N) (f := g) hC.1 hC.2.1 hC.2.2.2.2.2.2.2.2.2.2.2.1 hT.2.2.1 (by rw [am_w_at hbn hb0, hb]; rfl) (am_tys_at ht) hin hd ?_
  exact am_k kk hC hR ⟨⟨trivial, hT.1.2.2⟩, hT.2⟩ hcs
theorem am_laload (pc : Nat) {M : am_M} {rc rs n t b N : Nat} {L : List (Option Value)} {st : List Value} {f : Nat → am_C} {P : am_P} {i : Int32} {g : Nat → Int64} (hd : decode (am_by M) pc = .ok (.laload, 1)) (ht : am_tyl[t]? = some .long) (hb : f b = .inl (t, N, .inr (.inl g))) (hin : vp_in i N) (kk : AW M rc rs (pc + 1) L (.long (g i.toNatClampNeg) :: st) n f P) : AW M rc rs pc L (.int i :: .ref b :: st) n f P := by
  intro D cA p l e R s m args below meth c A n0 ρ0 mc ms hC hR H locs cells slots ρ ls hT hcs
  have hbn : b < n := hT.1.2.1
  have hb0 : am_k0 ≤ b := am_ownA hT.2.2.2.2.2.1 hb (am_t20 ht)
  refine va_lald (D := D) (cl := vwCl) (tys := am_tys cA) (ws := am_w cA ρ n f) (q0 := b - am_k0) (t0 := t) (cA := cA t) (n := N) (f := g) hC.1 hC.2.1 hC.2.2.2.2.2.2.2.2.2.2.2.1 hT.2.2.1 (by rw [am_w_at hbn hb0, hb]; rfl) (am_tys_at ht) hin hd ?_
  exact am_k kk hC hR ⟨⟨trivial, hT.1.2.2⟩, hT.2⟩ hcs
theorem am_faload (pc : Nat) {M : am_M} {rc rs n t b N : Nat} {L : List (Option Value)} {st : List Value} {f : Nat → am_C} {P : am_P} {i : Int32} {g : Nat → UInt32} (hd : decode (am_by M) pc = .ok (.faload, 1)) (ht : am_tyl[t]? = some .float) (hb : f b = .inl (t, N, .inr (.inr (.inl g)))) (hin : vp_in i N) (kk : AW M rc rs (pc + 1) L (.float (g i.toNatClampNeg) :: st) n f P) : AW M rc rs pc L (.int i :: .ref b :: st) n f P := by
  intro D cA p l e R s m args below meth c A n0 ρ0 mc ms hC hR H locs cells slots ρ ls hT hcs
  have hbn : b < n := hT.1.2.1
  have hb0 : am_k0 ≤ b := am_ownA hT.2.2.2.2.2.1 hb (am_t20 ht)
  refine va_fald (D := D) (cl := vwCl) (tys := am_tys cA) (ws := am_w cA ρ n f) (q0 := b - am_k0) (t0 := t) (cA := cA t) (n := N) (f := g) hC.1 hC.2.1 hC.2.2.2.2.2.2.2.2.2.2.2.1 hT.2.2.1 (by rw [am_w_at hbn hb0, hb]; rfl) (am_tys_at ht) hin hd ?_
  exact am_k kk hC hR ⟨⟨trivial, hT.1.2.2⟩, hT.2⟩ hcs
theorem am_daload (pc : Nat) {M : am_M} {rc rs n t b N : Nat} {L : List (Option Value)} {st : List Value} {f : Nat → am_C} {P : am_P} {i : Int32} {g : Nat → UInt64} (hd : decode (am_by M) pc = .ok (.daload, 1)) (ht : am_tyl[t]? = some .double) (hb : f b = .inl (t, N, .inr (.inr (.inr (.inl g))))) (hin : vp_in i N) (kk : AW M rc rs (pc + 1) L (.double (g i.toNatClampNeg) :: st) n f P) : AW M rc rs pc L (.int i :: .ref b :: st) n f P := by
  intro D cA p l e R s m args below meth c A n0 ρ0 mc ms hC hR H locs cells slots ρ ls hT hcs
  have hbn : b < n := hT.1.2.1
  have hb0 : am_k0 ≤ b := am_ownA hT.2.2.2.2.2.1 hb (am_t20 ht)
  refine va_dald (D := D) (cl := vwCl) (tys := am_tys cA) (ws := am_w cA ρ n f) (q0 := b - am_k0) (t0 := t) (cA := cA t) (n := N) (f := g) hC.1 hC.2.1 hC.2.2.2.2.2.2.2.2.2.2.2.1 hT.2.2.1 (by rw [am_w_at hbn hb0, hb]; rfl) (am_tys_at ht) hin hd ?_
  exact am_k kk hC hR ⟨⟨trivial, hT.1.2.2⟩, hT.2⟩ hcs
theorem am_iastore (pc : Nat) {M : am_M} {rc rs n t b N : Nat} {L : List (Option Value)} {st : List Value} {f : Nat → am_C} {P : am_P} {i : Int32} {x : Int32} {g : Nat → Int32} (hd : decode (am_by M) pc = .ok (.iastore, 1)) (ht : am_tyl[t]? = some .int) (hb : f b = .inl (t, N, .inl g)) (hin : vp_in i N) (kk : AW M rc rs (pc + 1) L st n (va_up f b (.inl (t, N, .inl (va_up g i.toNatClampNeg x)))) P) : AW M rc rs pc L (.int x :: .int i :: .ref b :: st) n f P := by
  intro D cA p l e R s m args below meth c A n0 ρ0 mc ms hC hR H locs cells slots ρ ls hT hcs
  have hbn : b < n := hT.1.2.2.1
  have hb0 : am_k0 ≤ b := am_ownA hT.2.2.2.2.2.1 hb (am_t20 ht)
  refine va_iast (D := D) (cl := vwCl) (tys := am_tys cA) (ws := am_w cA ρ n f) (q0 := b - am_k0) (t0 := t) (cA := cA t) (n := N) (f := g) hC.1 hC.2.1 hC.2.2.2.2.2.2.2.2.2.2.2.1 hT.2.2.1 hT.2.2.2.1 hT.2.2.2.2.1 (by rw [am_w_at hbn hb0, hb]; rfl) (am_tys_at ht) hin hd ?_
  intro H1 locs1 hP hD hS
  rw [am_w_set (h0 := hb0) (e := .inl (cA t, N, .inl (upd g i.toNatClampNeg x))) (c := .inl (t, N, .inl (va_up g i.toNatClampNeg x))) rfl] at hP hD
  exact am_k kk hC hR ⟨hT.1.2.2.2, hT.2.1, hP, hD, hS, am_exU hT.2.2.2.2.2.1 hb0, hT.2.2.2.2.2.2.1, am_cn_up hT.2.2.2.2.2.2.2 trivial⟩ hcs
theorem am_zastore (pc : Nat) {M : am_M} {rc rs n t b N : Nat} {L : List (Option Value)} {st : List Value} {f : Nat → am_C} {P : am_P} {i : Int32} {x : Int32} {g : Nat → Int32} (hd : decode (am_by M) pc = .ok (.bastore, 1)) (ht : am_tyl[t]? = some .boolean) (hb : f b = .inl (t, N, .inl g)) (hin : vp_in i N) (kk : AW M rc rs (pc + 1) L st n (va_up f b (.inl (t, N, .inl (va_up g i.toNatClampNeg (vp_nar .boolean x))))) P) : AW M rc rs pc L (.int x :: .int i :: .ref b :: st) n f P := by
  intro D cA p l e R s m args below meth c A n0 ρ0 mc ms hC hR H locs cells slots ρ ls hT hcs
  have hbn : b < n := hT.1.2.2.1
  have hb0 : am_k0 ≤ b := am_ownA hT.2.2.2.2.2.1 hb (am_t20 ht)
  refine va_zast (D := D) (cl := vwCl) (tys := am_tys cA) (ws := am_w cA ρ n f) (q0 := b - am_k0) (t0 := t) (cA := cA t) (n := N) (f := g) hC.1 hC.2.1 hC.2.2.2.2.2.2.2.2.2.2.2.1 hT.2.2.1 hT.2.2.2.1 hT.2.2.2.2.1 (by rw [am_w_at hbn hb0, hb]; rfl) (am_tys_at ht) hin hd ?_
  intro H1 locs1 hP hD hS
  rw [am_w_set (h0 := hb0) (e := .inl (cA t, N, .inl (upd g i.toNatClampNeg (vp_nar .boolean x)))) (c := .inl (t, N, .inl (va_up g i.toNatClampNeg (vp_nar .boolean x)))) rfl] at hP hD
  exact am_k kk hC hR ⟨hT.1.2.2.2, hT.2.1, hP, hD, hS, am_exU hT.2.2.2.2.2.1 hb0, hT.2.2.2.2.2.2.1, am_cn_up hT.2.2.2.2.2.2.2 trivial⟩ hcs
theorem am_lastore (pc : Nat) {M : am_M} {rc rs n t b N : Nat} {L : List (Option Value)} {st : List Value} {f : Nat → am_C} {P : am_P} {i : Int32} {x : Int64} {g : Nat → Int64} (hd : decode (am_by M) pc = .ok (.lastore, 1)) (ht : am_tyl[t]? = some .long) (hb : f b = .inl (t, N, .inr (.inl g))) (hin : vp_in i N) (kk : AW M rc rs (pc + 1) L st n (va_up f b (.inl (t, N, .inr (.inl (va_up g i.toNatClampNeg x))))) P) : AW M rc rs pc L (.long x :: .int i :: .ref b :: st) n f P := by
  intro D cA p l e R s m args below meth c A n0 ρ0 mc ms hC hR H locs cells slots ρ ls hT hcs
  have hbn : b < n := hT.1.2.2.1
  have hb0 : am_k0 ≤ b := am_ownA hT.2.2.2.2.2.1 hb (am_t20 ht)
  refine va_last (D := D) (cl := vwCl) (tys := am_tys cA) (ws := am_w cA ρ n f) (q0 := b - am_k0) (t0 := t) (cA := cA t) (n := N) (f := g) hC.1 hC.2.1 hC.2.2.2.2.2.2.2.2.2.2.2.1 hT.2.2.1 hT.2.2.2.1 hT.2.2.2.2.1 (by rw [am_w_at hbn hb0, hb]; rfl) (am_tys_at ht) hin hd ?_
  intro H1 locs1 hP hD hS
  rw [am_w_set (h0 := hb0) (e := .inl (cA t, N, .inr (.inl (vp_updL g i.toNatClampNeg x)))) (c := .inl (t, N, .inr (.inl (va_up g i.toNatClampNeg x)))) rfl] at hP hD
  exact am_k kk hC hR ⟨hT.1.2.2.2, hT.2.1, hP, hD, hS, am_exU hT.2.2.2.2.2.1 hb0, hT.2.2.2.2.2.2.1, am_cn_up hT.2.2.2.2.2.2.2 trivial⟩ hcs
theorem am_fastore (pc : Nat) {M : am_M} {rc rs n t b N : Nat} {L : List (Option Value)} {st : List Value} {f : Nat → am_C} {P : am_P} {i : Int32} {x : UInt32} {g : Nat → UInt32} (hd : decode (am_by M) pc = .ok (.fastore, 1)) (ht : am_tyl[t]? = some .float) (hb : f b = .inl (t, N, .inr (.inr (.inl g)))) (hin : vp_in i N) (kk : AW M rc rs (pc + 1) L st n (va_up f b (.inl (t, N, .inr (.inr (.inl (va_up g i.toNatClampNeg x)))))) P) : AW M rc rs pc L (.float x :: .int i :: .ref b :: st) n f P := by
  intro D cA p l e R s m args below meth c A n0 ρ0 mc ms hC hR H locs cells slots ρ ls hT hcs
  have hbn : b < n := hT.1.2.2.1
  have hb0 : am_k0 ≤ b := am_ownA hT.2.2.2.2.2.1 hb (am_t20 ht)
  refine va_fast (D := D) (cl := vwCl) (tys := am_tys cA) (ws := am_w cA ρ n f) (q0 := b - am_k0) (t0 := t) (cA := cA t) (n := N) (f := g) hC.1 hC.2.1 hC.2.2.2.2.2.2.2.2.2.2.2.1 hT.2.2.1 hT.2.2.2.1 hT.2.2.2.2.1 (by rw [am_w_at hbn hb0, hb]; rfl) (am_tys_at ht) hin hd ?_
  intro H1 locs1 hP hD hS
  rw [am_w_set (h0 := hb0) (e := .inl (cA t, N, .inr (.inr (.inl (vf_upd g i.toNatClampNeg x))))) (c := .inl (t, N, .inr (.inr (.inl (va_up g i.toNatClampNeg x))))) rfl] at hP hD
  exact am_k kk hC hR ⟨hT.1.2.2.2, hT.2.1, hP, hD, hS, am_exU hT.2.2.2.2.2.1 hb0, hT.2.2.2.2.2.2.1, am_cn_up hT.2.2.2.2.2.2.2 trivial⟩ hcs
theorem am_dastore (pc : Nat) {M : am_M} {rc rs n t b N : Nat} {L : List (Option Value)} {st : List Value} {f : Nat → am_C} {P : am_P} {i : Int32} {x : UInt64} {g : Nat → UInt64} (hd : decode (am_by M) pc = .ok (.dastore, 1)) (ht : am_tyl[t]? = some .double) (hb : f b = .inl (t, N, .inr (.inr (.inr (.inl g))))) (hin : vp_in i N) (kk : AW M rc rs (pc + 1) L st n (va_up f b (.inl (t, N, .inr (.inr (.inr (.inl (va_up g i.toNatClampNeg x))))))) P) : AW M rc rs pc L (.double x :: .int i :: .ref b :: st) n f P := by
  intro D cA p l e R s m args below meth c A n0 ρ0 mc ms hC hR H locs cells slots ρ ls hT hcs
  have hbn : b < n := hT.1.2.2.1
  have hb0 : am_k0 ≤ b := am_ownA hT.2.2.2.2.2.1 hb (am_t20 ht)
  refine va_dast (D := D) (cl := vwCl) (tys := am_tys cA) (ws := am_w cA ρ n f) (q0 := b - am_k0) (t0 := t) (cA := cA t) (n := N) (f := g) hC.1 hC.2.1 hC.2.2.2.2.2.2.2.2.2.2.2.1 hT.2.2.1 hT.2.2.2.1 hT.2.2.2.2.1 (by rw [am_w_at hbn hb0, hb]; rfl) (am_tys_at ht) hin hd ?_
  intro H1 locs1 hP hD hS
  rw [am_w_set (h0 := hb0) (e := .inl (cA t, N, .inr (.inr (.inr (.inl (vf_upd g i.toNatClampNeg x)))))) (c := .inl (t, N, .inr (.inr (.inr (.inl (va_up g i.toNatClampNeg x)))))) rfl] at hP hD
  exact am_k kk hC hR ⟨hT.1.2.2.2, hT.2.1, hP, hD, hS, am_exU hT.2.2.2.2.2.1 hb0, hT.2.2.2.2.2.2.1, am_cn_up hT.2.2.2.2.2.2.2 trivial⟩ hcs
theorem am_aaload (pc : Nat) {M : am_M} {rc rs n t b N : Nat} {C : String} {L : List (Option Value)} {st : List Value} {f : Nat → am_C} {P : am_P} {i : Int32} {g : Nat → Option Nat} (hd : decode (am_by M) pc = .ok (.aaload, 1)) (ht : am_tyl[t]? = some (.object C)) (hb : f b = .inl (t, N, .inr (.inr (.inr (.inr g))))) (hin : vp_in i N) (kk : AW M rc rs (pc + 1) L (va_rf (g i.toNatClampNeg) :: st) n f P) : AW M rc rs pc L (.int i :: .ref b :: st) n f P := by
  intro D cA p l e R s m args below meth c A n0 ρ0 mc ms hC hR H locs cells slots ρ ls hT hcs
  have hbn : b < n := hT.1.2.1
  have hb0 : am_k0 ≤ b := am_ownA hT.2.2.2.2.2.1 hb (am_t20 ht)
  have hcn : am_cn n (f b) := hT.2.2.2.2.2.2.2 b hbn
  rw [hb] at hcn
  refine va_aldq (D := D) (cl := vwCl) (tys := am_tys cA) (ws := am_w cA ρ n f) (q0 := b - am_k0) (t0 := t) (cA := cA t) (n := N) (f := fun j => (g j).map ρ) hC.1 hC.2.1 hC.2.2.2.2.2.2.2.2.2.2.2.1 hT.2.2.1 (by rw [am_w_at hbn hb0, hb]; rfl) (am_tys_at ht) hin hd ?_
  have hvn : am_vn n (va_rf (g i.toNatClampNeg)) := by
    cases hg : g i.toNatClampNeg with
    | none => trivial
    | some x => exact hcn _ x hg
  have e9 : va_rf ((g i.toNatClampNeg).map ρ) = am_v ρ (va_rf (g i.toNatClampNeg)) := (am_v_rf ρ _).symm
  show W p l e R s m args below meth c H locs cells slots _ (F0 m (pc + 1) ls (va_rf ((g i.toNatClampNeg).map ρ) :: st.map (am_v ρ)))
  rw [e9]
  exact am_k kk hC hR ⟨⟨hvn, hT.1.2.2⟩, hT.2⟩ hcs
theorem am_aastore (pc : Nat) {M : am_M} {rc rs n t b N x ci : Nat} {r : vw_C} {L : List (Option Value)} {st vs : List Value} {f : Nat → am_C} {P : am_P} {i : Int32} {g : Nat → Option Nat} (hd : decode (am_by M) pc = .ok (.aastore, 1)) (ht : am_tyl[t]? = some (.object r.1)) (hb : f b = .inl (t, N, .inr (.inr (.inr (.inr g))))) (hx : f x = .inr (ci, vs)) (hr : vwCl[ci]? = some r) (hin : vp_in i N) (kk : AW M rc rs (pc + 1) L st n (va_up f b (.inl (t, N, .inr (.inr (.inr (.inr (va_up g i.toNatClampNeg (some x)))))))) P) : AW M rc rs pc L (.ref x :: .int i :: .ref b :: st) n f P := by
  intro D cA p l e R s m args below meth c A n0 ρ0 mc ms hC hR H locs cells slots ρ ls hT hcs
  have hbn : b < n := hT.1.2.2.1
  have hb0 : am_k0 ≤ b := am_ownA hT.2.2.2.2.2.1 hb (am_t20 ht)
  have hxn : x < n := hT.1.1
  have hcn : am_cn n (f b) := hT.2.2.2.2.2.2.2 b hbn
  rw [hb] at hcn
  refine va_astq (D := D) (cl := vwCl) (tys := am_tys cA) (ws := am_w cA ρ n f) (q0 := b - am_k0) (t0 := t) (qk := x - am_k0) (ci := ci) (cA := cA t) (r := r) (n := N) (vs := vs.map (am_v ρ)) (f := fun j => (g j).map ρ) hC.1 hC.2.1 hC.2.2.2.2.2.2.2.2.2.2.2.1 hT.2.2.1 hT.2.2.2.1 hT.2.2.2.2.1 (by rw [am_w_at hbn hb0, hb]; rfl) (am_tys_at ht) (by rw [am_w_at hxn (am_ownO hT.2.2.2.2.2.1 hx), hx]; rfl) hr hin hd ?_
  intro H1 locs1 hP hD hS
  have e : (fun j => (va_up g i.toNatClampNeg (some x) j).map ρ) = va_up (fun j => (g j).map ρ) i.toNatClampNeg (some (ρ x)) := by
    funext j
    unfold va_up
    split <;> rfl
  rw [am_w_set (h0 := hb0) (c := .inl (t, N, .inr (.inr (.inr (.inr (va_up g i.toNatClampNeg (some x))))))) (by simp only [am_e, am_a, e])] at hP hD
  refine am_k kk hC hR ⟨hT.1.2.2.2, hT.2.1, hP, hD, hS, am_exU hT.2.2.2.2.2.1 hb0, hT.2.2.2.2.2.2.1, am_cn_up hT.2.2.2.2.2.2.2 ?_⟩ hcs
  intro j y hj
  unfold va_up at hj
  split at hj
  · cases hj
    exact hxn
  · exact hcn j y hj
theorem am_arraylength (pc : Nat) {M : am_M} {rc rs n t b : Nat} {ty : FieldType} {L : List (Option Value)} {st : List Value} {f : Nat → am_C} {P : am_P} {a : vp_A} (hd : decode (am_by M) pc = .ok (.arraylength, 1)) (ht : am_tyl[t]? = some ty) (hb : f b = .inl (t, a)) (kk : AW M rc rs (pc + 1) L (.int (Int32.ofNat a.1) :: st) n f P) : AW M rc rs pc L (.ref b :: st) n f P := by
  intro D cA p l e R s m args below meth c A n0 ρ0 mc ms hC hR H locs cells slots ρ ls hT hcs
  have hbn : b < n := hT.1.1
  have hb0 : am_k0 ≤ b := am_ownA hT.2.2.2.2.2.1 hb (am_t20 ht)
  refine va_alen (D := D) (cl := vwCl) (tys := am_tys cA) (ws := am_w cA ρ n f) (q0 := b - am_k0) (t0 := t) (cA := cA t) (x := am_a ρ a) hC.1 hC.2.1 hC.2.2.2.2.2.2.2.2.2.2.2.1 hT.2.2.1 (by rw [am_w_at hbn hb0, hb]; rfl) (am_tys_at ht) (v := Int32.ofNat a.1) rfl hd ?_
  exact am_k kk hC hR ⟨⟨trivial, hT.1.2⟩, hT.2⟩ hcs
/-- a new one's place -/
theorem am_fresh {D : va_G} {cA : Nat → ClassId} {A : Nat → Prop} {s : State} {n0 : am_n} {n q : Nat} {ρ0 ρ : Nat → Nat} {nL : Nat} {L : List (Option Value)} {st : List Value} {f : Nat → am_C} {H H1 : Heap} {locs : List Loc} {ls : Array Slot} {c : am_C} {e : va_E} (hT : am_T D cA A s n0 ρ0 nL n f L st H locs ρ ls) (he : e = am_e cA (va_up ρ n q) c) (hc : am_cn (n + 1) c) (hP : va_P D vwCl (am_w cA ρ n f ++ [(q, e)]) H1) (hD : va_D A (am_w cA ρ n f ++ [(q, e)])) (hS : va_S A s.heap H1 locs) :
    am_T D cA A s n0 ρ0 nL (n + 1) (va_up f n c) L (.ref n :: st) H1 locs (va_up ρ n q) ls ∧ (Value.ref q :: st.map (am_v ρ)) = (Value.ref n :: st).map (am_v (va_up ρ n q)) := by
  have hf := hT.2.2.2.2.2.2.2
  have hkn : am_k0 ≤ n := Nat.le_trans hT.2.2.2.2.2.1.2.1 hT.2.2.2.2.2.1.1
  rw [am_w_push hkn he hf] at hP hD
  have hρ : ∀ i, i < n → va_up ρ n q i = ρ i := fun i hi => by simp [va_up, Nat.ne_of_lt hi]
  refine ⟨⟨⟨Nat.lt_succ_self n, am_sn_mono (Nat.le_succ n) hT.1⟩, ⟨am_ln_mono (Nat.le_succ n) hT.2.1.1, am_L_congr hρ hT.2.1.1 hT.2.1.2⟩, hP, hD, hS, ⟨Nat.le_succ_of_le hT.2.2.2.2.2.1.1, (am_exU hT.2.2.2.2.2.1 hkn).2⟩, fun i hi => ?_, am_cn_push hf hc⟩, ?_⟩
  · rw [hρ i (Nat.lt_of_lt_of_le hi hT.2.2.2.2.2.1.1), hT.2.2.2.2.2.2.1 i hi]
  · rw [List.map_cons, am_s_congr hρ hT.1]
    simp [am_v, va_up]
def am_N (own : String) (ix ci N : Nat) (fs : List Value) : Prop := ∃ (C : String) (T : u_T) (ty : Nat → FieldType), vwCl[ci]? = some (C, T, N) ∧ Cond.classLink own ix C ∈ am_W ∧ Cond.instantiable C N ∈ am_W ∧ Cond.initialized C ∈ am_W ∧ (∀ w ∈ u_ws C T N, w ∈ am_W) ∧ (∀ k, k < N → parseFieldDescriptor (T k).2.2.1 = some (ty k)) ∧ (∀ j, j < N → defaultValue (ty j) = vp_V fs j) ∧ ∀ v ∈ fs, am_vn 0 v ∧ ∀ ρ, am_v ρ v = v
theorem am_new (pc : Nat) {M : am_M} {rc rs n ix ci N : Nat} {L : List (Option Value)} {st fs : List Value} {f : Nat → am_C} {P : am_P} (hd : decode (am_by M) pc = .ok (.new ix, 3)) (hN : am_N (am_y M).cls ix ci N fs) (kk : AW M rc rs (pc + 3) L (.ref n :: st) (n + 1) (va_up f n (.inr (ci, fs))) P) : AW M (rc + 1) (rs + N) pc L st n f P := by
  intro D cA p l e R s m args below meth c A n0 ρ0 mc ms hC hR H locs cells slots ρ ls hT hcs
  obtain ⟨C, T, ty, f1, f2, f3, f4, f5, f6, f7, f8⟩ := hN
  refine va_new (D := D) (cl := vwCl) (tys := am_tys cA) (ws := am_w cA ρ n f) (ci := ci) (C := C) (T := T) (N := N) (fs := fs) hC.1 hC.2.1 hC.2.2.2.2.2.1 f5 ty f6 hC.2.2.2.2.1 (hC.2.2.2.2.2.1 _ f2) (hC.2.2.2.2.2.1 _ f3) (hC.2.2.2.2.2.1 _ f4) hC.2.2.2.2.2.2.2.2.2.2.2.1 hT.2.2.1 hT.2.2.2.1 hT.2.2.2.2.1 hC.2.2.2.2.2.2.2.2.2.2.1 f1 f7 (by have := hR.2.2.1; omega) (by have := hR.2.2.2; omega) hd ?_
  intro q H1 hP hD hS
  have hfs : ∀ ρ : Nat → Nat, fs.map (am_v ρ) = fs := fun ρ => (List.map_congr_left fun v hv => (f8 v hv).2 ρ).trans (List.map_id _)
  obtain ⟨hT1, hst⟩ := am_fresh hT (c := .inr (ci, fs)) (by simp only [am_e, hfs]) (fun v hv => am_vn_mono (Nat.zero_le _) (f8 v hv).1) hP hD hS
  rw [hst]
  exact am_k kk hC hR hT1 ⟨by omega, by omega⟩
theorem am_newarray (pc : Nat) {M : am_M} {rc rs n t N : Nat} {aty : ArrayType} {ty : FieldType} {i : Int32} {L : List (Option Value)} {st : List Value} {f : Nat → am_C} {P : am_P} {a : vp_A} (hd : decode (am_by M) pc = .ok (.newarray aty, 2)) (ha : Cond.arrayClass (newarray.typeOf aty) ∈ am_W) (hty : newarray.typeOf aty = ty) (ht : am_tyl[t]? = some ty) (hp : ∀ (cA cB : ClassId) (U : State), va_RA U cA ty → va_RA U cB ty → cA = cB) (hz : ∀ cA : ClassId, vp_cell cA a = arrV cA N (fun _ => defaultValue ty)) (hz2 : ∀ ρ, am_a ρ a = a) (hz3 : am_cn 0 (.inl (t, a))) (hi : ¬ i < 0) (hN : i.toNatClampNeg = N) (hbytes : N * componentBytes ty ≤ 536870912)
    (kk : AW M rc rs (pc + 2) L (.ref n :: st) (n + 1) (va_up f n (.inl (t, a))) P) : AW M (rc + 1) (rs + N) pc L (.int i :: st) n f P := by
  intro D cA p l e R s m args below meth c A n0 ρ0 mc ms hC hR H locs cells slots ρ ls hT hcs
  have hK := hC.2.2.2.2.2.2.2.2.2.2.2.1
  refine va_newa (D := D) (cl := vwCl) (tys := am_tys cA) (ws := am_w cA ρ n f) (a0 := a) (N' := N) hC.1 hC.2.1 (hC.2.2.2.2.2.1 _ ha) hty hK hT.2.2.1 hT.2.2.2.1 hT.2.2.2.2.1 hC.2.2.2.2.2.2.2.2.2.2.1 hz hi hN hbytes (by have := hR.2.2.1; omega) (by have := hR.2.2.2; omega) hd ?_
  intro q cB H1 hK1 hP hD hS
  have e9 : cB = cA t := hp _ _ s (hK1.2 (am_tys cA).length (cB, ty) (by simp)).2 (hK.2 t _ (am_tys_at ht)).2
  subst e9
  obtain ⟨hT1, hst⟩ := am_fresh (st := st) ⟨hT.1.2, hT.2⟩ (c := .inl (t, a)) (by simp only [am_e, hz2]) (am_cn_mono (Nat.zero_le _) hz3) hP hD hS
  show W p l e R s m args below meth c H1 locs (cells + 1) (slots + N) _ (F0 m (pc + 2) ls (Value.ref q :: st.map (am_v ρ)))
  rw [hst]
  exact am_k kk hC hR hT1 ⟨by omega, by omega⟩
theorem am_newints (pc : Nat) {M : am_M} {rc rs n t N : Nat} {i : Int32} {L : List (Option Value)} {st : List Value} {f : Nat → am_C} {P : am_P} (hd : decode (am_by M) pc = .ok (.newarray .int, 2)) (ha : Cond.arrayClass .int ∈ am_W) (ht : am_tyl[t]? = some .int) (hi : ¬ i < 0) (hN : i.toNatClampNeg = N) (hb : N ≤ 1000) (kk : AW M rc rs (pc + 2) L (.ref n :: st) (n + 1) (va_up f n (.inl (t, N, .inl (fun _ => 0)))) P) : AW M (rc + 1) (rs + N) pc L (.int i :: st) n f P :=
  am_newarray (a := (N, .inl (fun _ => 0))) pc hd ha rfl ht (fun _ _ _ h1 h2 => Option.some.inj (h1.symm.trans h2)) (fun _ => rfl) (fun _ => rfl) trivial hi hN (by show N * 4 ≤ _; omega) kk
theorem am_newbools (pc : Nat) {M : am_M} {rc rs n t N : Nat} {i : Int32} {L : List (Option Value)} {st : List Value} {f : Nat → am_C} {P : am_P} (hd : decode (am_by M) pc = .ok (.newarray .boolean, 2)) (ha : Cond.arrayClass .boolean ∈ am_W) (ht : am_tyl[t]? = some .boolean) (hi : ¬ i < 0) (hN : i.toNatClampNeg = N) (hb : N ≤ 1000) (kk : AW M rc rs (pc + 2) L (.ref n :: st) (n + 1) (va_up f n (.inl (t, N, .inl (fun _ => 0)))) P) : AW M (rc + 1) (rs + N) pc L (.int i :: st) n f P :=
  am_newarray (a := (N, .inl (fun _ => 0))) pc hd ha rfl ht (fun _ _ _ h1 h2 => Option.some.inj (h1.symm.trans h2)) (fun _ => rfl) (fun _ => rfl) trivial hi hN (by show N * 1 ≤ _; omega) kk
theorem am_newlongs (pc : Nat) {M : am_M} {rc rs n t N : Nat} {i : Int32} {L : List (Option Value)} {st : List Value} {f : Nat → am_C} {P : am_P} (hd : decode (am_by M) pc = .ok (.newarray .long, 2)) (ha : Cond.arrayClass .long ∈ am_W) (ht : am_tyl[t]? = some .long) (hi : ¬ i < 0) (hN : i.toNatClampNeg = N) (hb : N ≤ 1000) (kk : AW M rc rs (pc + 2) L (.ref n :: st) (n + 1) (va_up f n (.inl (t, N, .inr (.inl (fun _ => 0))))) P) : AW M (rc + 1) (rs + N) pc L (.int i :: st) n f P :=
  am_newarray (a := (N, .inr (.inl (fun _ => 0)))) pc hd ha rfl ht (fun _ _ _ h1 h2 => Option.some.inj (h1.symm.trans h2)) (fun _ => rfl) (fun _ => rfl) trivial hi hN (by show N * 8 ≤ _; omega) kk
theorem am_newfloats (pc : Nat) {M : am_M} {rc rs n t N : Nat} {i : Int32} {L : List (Option Value)} {st : List Value} {f : Nat → am_C} {P : am_P} (hd : decode (am_by M) pc = .ok (.newarray .float, 2)) (ha : Cond.arrayClass .float ∈ am_W) (ht : am_tyl[t]? = some .float) (hi : ¬ i < 0) (hN : i.toNatClampNeg = N) (hb : N ≤ 1000) (kk : AW M rc rs (pc + 2) L (.ref n :: st) (n + 1) (va_up f n (.inl (t, N, .inr (.inr (.inl (fun _ => 0)))))) P) : AW M (rc + 1) (rs + N) pc L (.int i :: st) n f P :=
  am_newarray (a := (N, .inr (.inr (.inl (fun _ => 0))))) pc hd ha rfl ht (fun _ _ _ h1 h2 => Option.some.inj (h1.symm.trans h2)) (fun _ => rfl) (fun _ => rfl) trivial hi hN (by show N * 4 ≤ _; omega) kk
theorem am_anewarray (pc : Nat) {M : am_M} {rc rs n ix t N : Nat} {C : String} {i : Int32} {L : List (Option Value)} {st : List Value} {f : Nat → am_C} {P : am_P} (hd : decode (am_by M) pc = .ok (.anewarray ix, 3)) (ha : Cond.classLink (am_y M).cls ix C ∈ am_W) (ho : C ∈ am_aov) (ht : am_tyl[t]? = some (.object C)) (hi : ¬ i < 0) (hN : i.toNatClampNeg = N) (hb : N ≤ 1000)
    (kk : AW M rc rs (pc + 3) L (.ref n :: st) (n + 1) (va_up f n (.inl (t, N, .inr (.inr (.inr (.inr (fun _ => none))))))) P) : AW M (rc + 1) (rs + N) pc L (.int i :: st) n f P := by
  intro D cA p l e R s m args below meth c A n0 ρ0 mc ms hC hR H locs cells slots ρ ls hT hcs
  have hK := hC.2.2.2.2.2.2.2.2.2.2.2.1
  refine va_newq (D := D) (cl := vwCl) (tys := am_tys cA) (ws := am_w cA ρ n f) (N' := N) hC.1 hC.2.1 hC.2.2.2.2.1 (hC.2.2.2.2.2.1 _ ha) (hC.2.2.2.2.2.2.2.2.2.2.2.2.2.2.2.1 _ ho) hK hT.2.2.1 hT.2.2.2.1 hT.2.2.2.2.1 hC.2.2.2.2.2.2.2.2.2.2.1 hi hN (by omega) (by have := hR.2.2.1; omega) (by have := hR.2.2.2; omega) hd ?_
  intro q cB H1 hK1 hP hD hS
  have e9 : cB = cA t := by
    obtain ⟨_, _, _, _, _, h1⟩ := (hK1.2 (am_tys cA).length (cB, .object C) (by simp)).2
    obtain ⟨_, _, _, _, _, h2⟩ := (hK.2 t _ (am_tys_at ht)).2
    exact Option.some.inj (h1.symm.trans h2)
  subst e9
  obtain ⟨hT1, hst⟩ := am_fresh (st := st) ⟨hT.1.2, hT.2⟩ (c := .inl (t, N, .inr (.inr (.inr (.inr (fun _ => none)))))) rfl (fun j i h => by cases h) hP hD hS
  show W p l e R s m args below meth c H1 locs (cells + 1) (slots + N) _ (F0 m (pc + 3) ls (Value.ref q :: st.map (am_v ρ)))
  rw [hst]
  exact am_k kk hC hR hT1 ⟨by omega, by omega⟩
end
section
/-! ===== what the tables say of calls, by kinds ===== -/
def am_cV (own : String) (ix : Nat) (N : am_M) (k ci : Nat) : Prop := am_G N k ∧ Cond.methodLink own ix (am_y N) ∈ am_W ∧ Cond.instanceMethod (am_y N) ∈ am_W ∧ Cond.selects (am_y N).cls (am_y N) (am_y N) ∈ am_W ∧ ∃ q, vwCl[ci]? = some q ∧ q.1 = (am_y N).cls
def am_cS (own : String) (ix : Nat) (N : am_M) (k : Nat) : Prop := am_G N k ∧ Cond.methodLink own ix (am_y N) ∈ am_W ∧ Cond.static (am_y N) ∈ am_W
def am_cI (own : String) (ix : Nat) (N : am_M) (k : Nat) : Prop := am_G N k ∧ Cond.methodLink own ix (am_y N) ∈ am_W ∧ Cond.instanceMethod (am_y N) ∈ am_W ∧ am_rt N = none ∧ (am_y N).name = "<init>"
def am_cIN (own : String) (ix : Nat) (N : am_M) (k : Nat) : Prop := am_G N k ∧ (∃ host, (own, ix, am_y N, host) ∈ am_nst) ∧ Cond.instanceMethod (am_y N) ∈ am_W ∧ am_rt N = none ∧ (am_y N).name = "<init>"
def am_cSN (own : String) (ix : Nat) (N : am_M) (k : Nat) : Prop := am_G N k ∧ (∃ host, (own, ix, am_y N, host) ∈ am_nst) ∧ Cond.static (am_y N) ∈ am_W
def am_cO (own : String) (ix : Nat) : Prop := Cond.methodLink own ix objectInit ∈ am_W ∧ Cond.instanceMethod objectInit ∈ am_W ∧ Cond.code objectInit ⟨#[0xb1]⟩ 1 none ∈ am_W
/-- a method from its start -/
abbrev AM (N : am_M) (mc ms : Nat) (vs : List Value) (n : Nat) (f : Nat → am_C) (P : am_P) : Prop := AW N mc ms 0 (am_en (am_mL N) vs) [] n f P
/-- it returns v and leaves the world so -/
def am_is (v : Option Value) (n : Nat) (f : Nat → am_C) : am_P := fun o n' f' => o = .inl v ∧ n' = n ∧ f' = f
def am_th (E : Nat) (n : Nat) (f : Nat → am_C) : am_P := fun o n' f' => o = .inr E ∧ n' = n ∧ f' = f
theorem am_is_ct {M : am_M} {rc rs pc n1 : Nat} {L : List (Option Value)} {rest : List Value} {P : am_P} {v : Option Value} {f1 : Nat → am_C} (k : AW M rc rs (pc + 3) L (v.toList ++ rest) n1 f1 P) : ∀ o n' f', am_is v n1 f1 o n' f' → am_ct M rc rs pc L rest P o n' f' := by
  rintro o n' f' ⟨rfl, rfl, rfl⟩
  exact k
theorem am_ue {f : Nat → am_C} {i : Nat} {c : am_C} : va_up f i c i = c := by simp [va_up]
theorem am_un {f : Nat → am_C} {i j : Nat} {c c' : am_C} (h : j ≠ i) (k : f j = c) : va_up f i c' j = c := by simp [va_up, h, k]
theorem am_uu {α : Type} {f : Nat → α} {i : Nat} {c c' : α} : va_up (va_up f i c) i c' = va_up f i c' := by
  funext j
  unfold va_up
  split <;> rfl
theorem am_us {α : Type} {f : Nat → α} {i j : Nat} {c c' : α} (h : i ≠ j) : va_up (va_up f i c) j c' = va_up (va_up f j c') i c := by
  funext k
  unfold va_up
  by_cases h1 : k = j
  · subst h1
    rw [if_pos rfl, if_neg (Ne.symm h), if_pos rfl]
  · by_cases h2 : k = i
    · subst h2
      simp [h1]
    · simp [h1, h2]
theorem am_self {α : Type} {f : Nat → α} {i : Nat} {c : α} (h : f i = c) : va_up f i c = f := by
  funext j
  unfold va_up
  split
  · rename_i e; rw [e, h]
  · rfl
theorem am_arrV {cA : ClassId} {N : Nat} {f g : Nat → Value} (h : ∀ j, j < N → f j = g j) : arrV cA N f = arrV cA N g := by
  unfold arrV
  congr 2
  funext j
  exact h j.val j.isLt
/-- what an array holds beyond its end says nothing -/
theorem AW.cell {M : am_M} {rc rs pc n a t : Nat} {L : List (Option Value)} {st : List Value} {f : Nat → am_C} {P : am_P} {x x' : vp_A} (ha : f a = .inl (t, x)) (ht : t < 20) (hc : ∀ (cA : ClassId) (ρ : Nat → Nat), vp_cell cA (am_a ρ x') = vp_cell cA (am_a ρ x)) (hn : ∀ n, am_cn n (.inl (t, x) : am_C) → am_cn n (.inl (t, x') : am_C)) (k : AW M rc rs pc L st n (va_up f a (.inl (t, x'))) P) : AW M rc rs pc L st n f P := by
  intro D cA p l e R s m args below meth c A n0 ρ0 mc ms hC hR H locs cells slots ρ ls hT hcs
  have hf := hT.2.2.2.2.2.2.2
  refine am_k k hC hR ⟨hT.1, hT.2.1, ?_, ?_, hT.2.2.2.2.1, am_exU hT.2.2.2.2.2.1 (am_ownA hT.2.2.2.2.2.1 ha ht), hT.2.2.2.2.2.2.1, fun i hi => ?_⟩ hcs
  · intro z q hq
    obtain ⟨hk, e⟩ := am_w_inv hq
    have h1 := hT.2.2.1 z _ (by have := am_w_at (cA := cA) (ρ := ρ) (f := f) hk (Nat.le_add_left _ _); rwa [Nat.add_sub_cancel] at this)
    subst e
    by_cases hka : z + am_k0 = a
    · rw [hka] at h1 ⊢
      rw [ha] at h1
      have h2 : H[ρ a]? = some (vp_cell (cA t) (am_a ρ x)) := h1
      rw [am_ue]
      show H[ρ a]? = some (vp_cell (cA t) (am_a ρ x'))
      rw [h2, hc]
    · have e : va_up f a (.inl (t, x')) (z + am_k0) = f (z + am_k0) := by simp [va_up, hka]
      rw [e]
      exact h1
  · have g : ∀ z, z + am_k0 < n → (am_w cA ρ n f)[z]? = some (ρ (z + am_k0), am_e cA ρ (f (z + am_k0))) := fun z hz => by
      have := am_w_at (cA := cA) (ρ := ρ) (f := f) hz (Nat.le_add_left _ _)
      rwa [Nat.add_sub_cancel] at this
    refine ⟨fun i j p q hp hq h => ?_, fun k q hq => ?_⟩
    · obtain ⟨hi, e1⟩ := am_w_inv hp
      obtain ⟨hj, e2⟩ := am_w_inv hq
      subst e1
      subst e2
      exact hT.2.2.2.1.1 i j _ _ (g i hi) (g j hj) h
    · obtain ⟨hk, e⟩ := am_w_inv hq
      subst e
      have h9 := hT.2.2.2.1.2 k _ (g k hk)
      exact h9
  · unfold va_up
    split
    · rename_i e
      have h1 := hf i hi
      rw [e, ha] at h1
      exact hn n h1
    · exact hf i hi
theorem AW.ints {M : am_M} {rc rs pc n a t N : Nat} {L : List (Option Value)} {st : List Value} {f : Nat → am_C} {P : am_P} {g : Nat → Int32} (g' : Nat → Int32) (ha : f a = .inl (t, N, .inl g)) (he : ∀ j, j < N → g j = g' j) (k : AW M rc rs pc L st n (va_up f a (.inl (t, N, .inl g'))) P) (ht : t < 20 := by decide) : AW M rc rs pc L st n f P :=
  AW.cell (x' := (N, .inl g')) ha ht (fun cA ρ => (am_arrV (cA := cA) (N := N) (f := fun j => .int (g' j)) (g := fun j => .int (g j)) fun j hj => by rw [he j hj])) (fun _ _ => trivial) k
theorem AW.longs {M : am_M} {rc rs pc n a t N : Nat} {L : List (Option Value)} {st : List Value} {f : Nat → am_C} {P : am_P} {g : Nat → Int64} (g' : Nat → Int64) (ha : f a = .inl (t, N, .inr (.inl g))) (he : ∀ j, j < N → g j = g' j) (k : AW M rc rs pc L st n (va_up f a (.inl (t, N, .inr (.inl g')))) P) (ht : t < 20 := by decide) : AW M rc rs pc L st n f P :=
  AW.cell (x' := (N, .inr (.inl g'))) ha ht (fun cA ρ => (am_arrV (cA := cA) (N := N) (f := fun j => .long (g' j)) (g := fun j => .long (g j)) fun j hj => by rw [he j hj])) (fun _ _ => trivial) k
theorem AW.floats {M : am_M} {rc rs pc n a t N : Nat} {L : List (Option Value)} {st : List Value} {f : Nat → am_C} {P : am_P} {g : Nat → UInt32} (g' : Nat → UInt32) (ha : f a = .inl (t, N, .inr (.inr (.inl g)))) (he : ∀ j, j < N → g j = g' j) (k : AW M rc rs pc L st n (va_up f a (.inl (t, N, .inr (.inr (.inl g'))))) P) (ht : t < 20 := by decide) : AW M rc rs pc L st n f P :=
  AW.cell (x' := (N, .inr (.inr (.inl g')))) ha ht (fun cA ρ => (am_arrV (cA := cA) (N := N) (f := fun j => .float (g' j)) (g := fun j => .float (g j)) fun j hj => by rw [he j hj])) (fun _ _ => trivial) k
/-- a method of java/lang/Math -/
def am_cJ (own : String) (ix : Nat) (y : MethodName) (b : ByteArray) (mL : Nat) (rt : Option FieldType) : Prop := Cond.methodLink own ix y ∈ am_W ∧ Cond.static y ∈ am_W ∧ Cond.initialized "java/lang/Math" ∈ am_W ∧ Cond.code y b mL rt ∈ am_W
theorem am_jroom {M : am_M} {R : Room} {mc ms : Nat} {ρ : Nat → Nat} {st : List Value} {k : Nat} (hR : am_room M R mc ms) (hlo : (st.map fun v => v.category).sum + k ≤ am_lo M) : ((st.map (am_v ρ)).map fun v => v.category).sum + k ≤ R.locals := by
  have e : (st.map (am_v ρ)).map (fun v => v.category) = st.map fun v => v.category := by
    rw [List.map_map]
    exact List.map_congr_left fun v _ => am_cat ρ v
  rw [e]
  exact Nat.le_trans hlo hR.2.1
theorem am_max (pc : Nat) {M : am_M} {rc rs n ix : Nat} {x y : Int32} {L : List (Option Value)} {st : List Value} {f : Nat → am_C} {P : am_P} (hd : decode (am_by M) pc = .ok (.invokestatic ix, 3)) (hc : am_cJ (am_y M).cls ix Lib.Math.max.name Lib.Math.max.code 2 (some .int)) (hfr : 1 ≤ am_fr M) (hlo : (st.map fun v => v.category).sum + 13 ≤ am_lo M) (kk : AW M rc rs (pc + 3) L (.int (if x < y then y else x) :: st) n f P) : AW M rc rs pc L (.int y :: .int x :: st) n f P := by
  intro D cA p l e R s m args below meth c A n0 ρ0 mc ms hC hR H locs cells slots ρ ls hT hcs
  obtain ⟨h1, h2, h3, h4⟩ := hc
  refine va_mmax hC.1 hC.2.1 (hC.2.2.2.1.trans hT.2.1.2.1.symm) hC.2.2.2.2.1 (hC.2.2.2.2.2.1 _ h1) (hC.2.2.2.2.2.1 _ h2) (hC.2.2.2.2.2.1 _ h3) (hC.2.2.2.2.2.1 _ h4) (Nat.le_trans hfr hR.1) (am_jroom hR hlo) (by have := hR.2.2.1; omega) (by have := hR.2.2.2; omega) hd ?_
  exact am_k kk hC hR ⟨⟨trivial, hT.1.2.2⟩, hT.2⟩ hcs
theorem am_min (pc : Nat) {M : am_M} {rc rs n ix : Nat} {x y : Int32} {L : List (Option Value)} {st : List Value} {f : Nat → am_C} {P : am_P} (hd : decode (am_by M) pc = .ok (.invokestatic ix, 3)) (hc : am_cJ (am_y M).cls ix Lib.Math.min.name Lib.Math.min.code 2 (some .int)) (hfr : 1 ≤ am_fr M) (hlo : (st.map fun v => v.category).sum + 13 ≤ am_lo M) (kk : AW M rc rs (pc + 3) L (.int (if y < x then y else x) :: st) n f P) : AW M rc rs pc L (.int y :: .int x :: st) n f P := by
  intro D cA p l e R s m args below meth c A n0 ρ0 mc ms hC hR H locs cells slots ρ ls hT hcs
  obtain ⟨h1, h2, h3, h4⟩ := hc
  refine va_mmin hC.1 hC.2.1 (hC.2.2.2.1.trans hT.2.1.2.1.symm) hC.2.2.2.2.1 (hC.2.2.2.2.2.1 _ h1) (hC.2.2.2.2.2.1 _ h2) (hC.2.2.2.2.2.1 _ h3) (hC.2.2.2.2.2.1 _ h4) (Nat.le_trans hfr hR.1) (am_jroom hR hlo) (by have := hR.2.2.1; omega) (by have := hR.2.2.2; omega) hd ?_
  exact am_k kk hC hR ⟨⟨trivial, hT.1.2.2⟩, hT.2⟩ hcs
theorem am_abs (pc : Nat) {M : am_M} {rc rs n ix : Nat} {x : Int32} {L : List (Option Value)} {st : List Value} {f : Nat → am_C} {P : am_P} (hd : decode (am_by M) pc = .ok (.invokestatic ix, 3)) (hc : am_cJ (am_y M).cls ix Lib.Math.abs.name Lib.Math.abs.code 1 (some .int)) (hfr : 1 ≤ am_fr M) (hlo : (st.map fun v => v.category).sum + 13 ≤ am_lo M) (kk : AW M rc rs (pc + 3) L (.int (if 0 ≤ x then x else 0 - x) :: st) n f P) : AW M rc rs pc L (.int x :: st) n f P := by
  intro D cA p l e R s m args below meth c A n0 ρ0 mc ms hC hR H locs cells slots ρ ls hT hcs
  obtain ⟨h1, h2, h3, h4⟩ := hc
  refine va_mabs hC.1 hC.2.1 (hC.2.2.2.1.trans hT.2.1.2.1.symm) hC.2.2.2.2.1 (hC.2.2.2.2.2.1 _ h1) (hC.2.2.2.2.2.1 _ h2) (hC.2.2.2.2.2.1 _ h3) (hC.2.2.2.2.2.1 _ h4) (Nat.le_trans hfr hR.1) (am_jroom hR hlo) (by have := hR.2.2.1; omega) (by have := hR.2.2.2; omega) hd ?_
  exact am_k kk hC hR ⟨⟨trivial, hT.1.2⟩, hT.2⟩ hcs
theorem am_maxL (pc : Nat) {M : am_M} {rc rs n ix : Nat} {x y : Int64} {L : List (Option Value)} {st : List Value} {f : Nat → am_C} {P : am_P} (hd : decode (am_by M) pc = .ok (.invokestatic ix, 3)) (hc : am_cJ (am_y M).cls ix Lib.MathLoose.max_long.x Lib.MathLoose.max_long.code 4 (some .long)) (hfr : 1 ≤ am_fr M) (hlo : (st.map fun v => v.category).sum + 15 ≤ am_lo M) (kk : AW M rc rs (pc + 3) L (.long (if y < x then x else y) :: st) n f P) : AW M rc rs pc L (.long y :: .long x :: st) n f P := by
  intro D cA p l e R s m args below meth c A n0 ρ0 mc ms hC hR H locs cells slots ρ ls hT hcs
  obtain ⟨h1, h2, h3, h4⟩ := hc
  refine va_mmax_long hC.1 hC.2.1 (hC.2.2.2.1.trans hT.2.1.2.1.symm) hC.2.2.2.2.1 (hC.2.2.2.2.2.1 _ h1) (hC.2.2.2.2.2.1 _ h2) (hC.2.2.2.2.2.1 _ h3) (hC.2.2.2.2.2.1 _ h4) (Nat.le_trans hfr hR.1) (am_jroom hR hlo) (by have := hR.2.2.1; omega) (by have := hR.2.2.2; omega) hd ?_
  exact am_k kk hC hR ⟨⟨trivial, hT.1.2.2⟩, hT.2⟩ hcs
theorem am_minL (pc : Nat) {M : am_M} {rc rs n ix : Nat} {x y : Int64} {L : List (Option Value)} {st : List Value} {f : Nat → am_C} {P : am_P} (hd : decode (am_by M) pc = .ok (.invokestatic ix, 3)) (hc : am_cJ (am_y M).cls ix Lib.MathLoose.min_long.x Lib.MathLoose.min_long.code 4 (some .long)) (hfr : 1 ≤ am_fr M) (hlo : (st.map fun v => v.category).sum + 15 ≤ am_lo M) (kk : AW M rc rs (pc + 3) L (.long (if y < x then y else x) :: st) n f P) : AW M rc rs pc L (.long y :: .long x :: st) n f P := by
  intro D cA p l e R s m args below meth c A n0 ρ0 mc ms hC hR H locs cells slots ρ ls hT hcs
  obtain ⟨h1, h2, h3, h4⟩ := hc
  refine va_mmin_long hC.1 hC.2.1 (hC.2.2.2.1.trans hT.2.1.2.1.symm) hC.2.2.2.2.1 (hC.2.2.2.2.2.1 _ h1) (hC.2.2.2.2.2.1 _ h2) (hC.2.2.2.2.2.1 _ h3) (hC.2.2.2.2.2.1 _ h4) (Nat.le_trans hfr hR.1) (am_jroom hR hlo) (by have := hR.2.2.1; omega) (by have := hR.2.2.2; omega) hd ?_
  exact am_k kk hC hR ⟨⟨trivial, hT.1.2.2⟩, hT.2⟩ hcs
theorem am_absL (pc : Nat) {M : am_M} {rc rs n ix : Nat} {x : Int64} {L : List (Option Value)} {st : List Value} {f : Nat → am_C} {P : am_P} (hd : decode (am_by M) pc = .ok (.invokestatic ix, 3)) (hc : am_cJ (am_y M).cls ix Lib.MathLoose.abs_long.x Lib.MathLoose.abs_long.code 2 (some .long)) (hfr : 1 ≤ am_fr M) (hlo : (st.map fun v => v.category).sum + 13 ≤ am_lo M) (kk : AW M rc rs (pc + 3) L (.long (if 0 < x then x else -x) :: st) n f P) : AW M rc rs pc L (.long x :: st) n f P := by
  intro D cA p l e R s m args below meth c A n0 ρ0 mc ms hC hR H locs cells slots ρ ls hT hcs
  obtain ⟨h1, h2, h3, h4⟩ := hc
  refine va_mabs_long hC.1 hC.2.1 (hC.2.2.2.1.trans hT.2.1.2.1.symm) hC.2.2.2.2.1 (hC.2.2.2.2.2.1 _ h1) (hC.2.2.2.2.2.1 _ h2) (hC.2.2.2.2.2.1 _ h3) (hC.2.2.2.2.2.1 _ h4) (Nat.le_trans hfr hR.1) (am_jroom hR hlo) (by have := hR.2.2.1; omega) (by have := hR.2.2.2; omega) hd ?_
  exact am_k kk hC hR ⟨⟨trivial, hT.1.2⟩, hT.2⟩ hcs
/-! calls by their arity, the callee's end known -/
theorem am_V0 (pc : Nat) {M N : am_M} {rc rs mc' ms' n ix b ci : Nat} {L : List (Option Value)} {st fs : List Value} {f : Nat → am_C} {P P' : am_P} (hd : decode (am_by M) pc = .ok (.invokevirtual ix, 3)) (hc : am_cV (am_y M).cls ix N 0 ci) (hG2 : am_G2 M N) (hb : f b = .inr (ci, fs)) (hr : (st.map fun v => v.category).sum ≤ 8) (hlen : (lg_sl [.ref b]).length ≤ am_mL N) (hs : AM N mc' ms' [.ref b] n f P') (k : ∀ o n' f', P' o n' f' → am_ct M rc rs pc L st P o n' f') : AW M (mc' + rc) (ms' + rs) pc L (.ref b :: st) n f P := by
  obtain ⟨h1, h2, h3, h4, q, h5, h6⟩ := hc
  exact am_invV (as := []) (q := q) pc hd h1 hG2 h2 h3 h4 hb h5 h6 rfl hr hlen (AW.mono k hs)
theorem am_S0 (pc : Nat) {M N : am_M} {rc rs mc' ms' n ix : Nat} {L : List (Option Value)} {st : List Value} {f : Nat → am_C} {P P' : am_P} (hd : decode (am_by M) pc = .ok (.invokestatic ix, 3)) (hc : am_cS (am_y M).cls ix N 0) (hG2 : am_G2 M N) (hr : (st.map fun v => v.category).sum ≤ 8) (hlen : (lg_sl []).length ≤ am_mL N) (hs : AM N mc' ms' [] n f P') (k : ∀ o n' f', P' o n' f' → am_ct M rc rs pc L st P o n' f') : AW M (mc' + rc) (ms' + rs) pc L (st) n f P := by
  obtain ⟨h1, h2, h3⟩ := hc
  exact am_invS (as := []) pc hd h1 hG2 h2 h3 rfl hr hlen (AW.mono k hs)
theorem am_I0 (pc : Nat) {M N : am_M} {rc rs mc' ms' n ix b : Nat} {L : List (Option Value)} {st : List Value} {f : Nat → am_C} {P P' : am_P} (hd : decode (am_by M) pc = .ok (.invokespecial ix, 3)) (hc : am_cI (am_y M).cls ix N 0) (hG2 : am_G2 M N) (hr : (st.map fun v => v.category).sum ≤ 8) (hlen : (lg_sl [.ref b]).length ≤ am_mL N) (hs : AM N mc' ms' [.ref b] n f P') (k : ∀ o n' f', P' o n' f' → ∃ v, o = .inl v ∧ AW M rc rs (pc + 3) L (v.toList ++ st) n' f' P) : AW M (mc' + rc) (ms' + rs) pc L (.ref b :: st) n f P := by
  obtain ⟨h1, h2, h3, h4, h5⟩ := hc
  exact am_invI (as := []) pc hd h1 hG2 h4 h5 h2 h3 rfl hr hlen (AW.mono (fun o n' f' h => by obtain ⟨v, rfl, h2⟩ := k o n' f' h; exact h2) hs)
theorem am_IN0 (pc : Nat) {M N : am_M} {rc rs mc' ms' n ix b : Nat} {L : List (Option Value)} {st : List Value} {f : Nat → am_C} {P P' : am_P} (hd : decode (am_by M) pc = .ok (.invokespecial ix, 3)) (hc : am_cIN (am_y M).cls ix N 0) (hG2 : am_G2 M N) (hr : (st.map fun v => v.category).sum ≤ 8) (hlen : (lg_sl [.ref b]).length ≤ am_mL N) (hs : AM N mc' ms' [.ref b] n f P') (k : ∀ o n' f', P' o n' f' → ∃ v, o = .inl v ∧ AW M rc rs (pc + 3) L (v.toList ++ st) n' f' P) : AW M (mc' + rc) (ms' + rs) pc L (.ref b :: st) n f P := by
  obtain ⟨h1, ⟨host, h2⟩, h3, h4, h5⟩ := hc
  exact am_invIN (as := []) (host := host) pc hd h1 hG2 h4 h5 h2 h3 rfl hr hlen (AW.mono (fun o n' f' h => by obtain ⟨v, rfl, h2⟩ := k o n' f' h; exact h2) hs)
theorem am_V1 (pc : Nat) {M N : am_M} {rc rs mc' ms' n ix b ci : Nat} {x1 : Value} {L : List (Option Value)} {st fs : List Value} {f : Nat → am_C} {P P' : am_P} (hd : decode (am_by M) pc = .ok (.invokevirtual ix, 3)) (hc : am_cV (am_y M).cls ix N 1 ci) (hG2 : am_G2 M N) (hb : f b = .inr (ci, fs)) (hr : (st.map fun v => v.category).sum ≤ 8) (hlen : (lg_sl [.ref b, x1]).length ≤ am_mL N) (hs : AM N mc' ms' [.ref b, x1] n f P') (k : ∀ o n' f', P' o n' f' → am_ct M rc rs pc L st P o n' f') : AW M (mc' + rc) (ms' + rs) pc L (x1 :: .ref b :: st) n f P := by
  obtain ⟨h1, h2, h3, h4, q, h5, h6⟩ := hc
  exact am_invV (as := [x1]) (q := q) pc hd h1 hG2 h2 h3 h4 hb h5 h6 rfl hr hlen (AW.mono k hs)
theorem am_S1 (pc : Nat) {M N : am_M} {rc rs mc' ms' n ix : Nat} {x1 : Value} {L : List (Option Value)} {st : List Value} {f : Nat → am_C} {P P' : am_P} (hd : decode (am_by M) pc = .ok (.invokestatic ix, 3)) (hc : am_cS (am_y M).cls ix N 1) (hG2 : am_G2 M N) (hr : (st.map fun v => v.category).sum ≤ 8) (hlen : (lg_sl [x1]).length ≤ am_mL N) (hs : AM N mc' ms' [x1] n f P') (k : ∀ o n' f', P' o n' f' → am_ct M rc rs pc L st P o n' f') : AW M (mc' + rc) (ms' + rs) pc L (x1 :: st) n f P := by
  obtain ⟨h1, h2, h3⟩ := hc
  exact am_invS (as := [x1]) pc hd h1 hG2 h2 h3 rfl hr hlen (AW.mono k hs)
theorem am_I1 (pc : Nat) {M N : am_M} {rc rs mc' ms' n ix b : Nat} {x1 : Value} {L : List (Option Value)} {st : List Value} {f : Nat → am_C} {P P' : am_P} (hd : decode (am_by M) pc = .ok (.invokespecial ix, 3)) (hc : am_cI (am_y M).cls ix N 1) (hG2 : am_G2 M N) (hr : (st.map fun v => v.category).sum ≤ 8) (hlen : (lg_sl [.ref b, x1]).length ≤ am_mL N) (hs : AM N mc' ms' [.ref b, x1] n f P') (k : ∀ o n' f', P' o n' f' → ∃ v, o = .inl v ∧ AW M rc rs (pc + 3) L (v.toList ++ st) n' f' P) : AW M (mc' + rc) (ms' + rs) pc L (x1 :: .ref b :: st) n f P := by
  obtain ⟨h1, h2, h3, h4, h5⟩ := hc
  exact am_invI (as := [x1]) pc hd h1 hG2 h4 h5 h2 h3 rfl hr hlen (AW.mono (fun o n' f' h => by obtain ⟨v, rfl, h2⟩ := k o n' f' h; exact h2) hs)
theorem am_IN1 (pc : Nat) {M N : am_M} {rc rs mc' ms' n ix b : Nat} {x1 : Value} {L : List (Option Value)} {st : List Value} {f : Nat → am_C} {P P' : am_P} (hd : decode (am_by M) pc = .ok (.invokespecial ix, 3)) (hc : am_cIN (am_y M).cls ix N 1) (hG2 : am_G2 M N) (hr : (st.map fun v => v.category).sum ≤ 8) (hlen : (lg_sl [.ref b, x1]).length ≤ am_mL N) (hs : AM N mc' ms' [.ref b, x1] n f P') (k : ∀ o n' f', P' o n' f' → ∃ v, o = .inl v ∧ AW M rc rs (pc + 3) L (v.toList ++ st) n' f' P) : AW M (mc' + rc) (ms' + rs) pc L (x1 :: .ref b :: st) n f P := by
  obtain ⟨h1, ⟨host, h2⟩, h3, h4, h5⟩ := hc
  exact am_invIN (as := [x1]) (host := host) pc hd h1 hG2 h4 h5 h2 h3 rfl hr hlen (AW.mono (fun o n' f' h => by obtain ⟨v, rfl, h2⟩ := k o n' f' h; exact h2) hs)
theorem am_SN1 (pc : Nat) {M N : am_M} {rc rs mc' ms' n ix : Nat} {x1 : Value} {L : List (Option Value)} {st : List Value} {f : Nat → am_C} {P P' : am_P} (hd : decode (am_by M) pc = .ok (.invokestatic ix, 3)) (hc : am_cSN (am_y M).cls ix N 1) (hG2 : am_G2 M N) (hr : (st.map fun v => v.category).sum ≤ 8) (hlen : (lg_sl [x1]).length ≤ am_mL N) (hs : AM N mc' ms' [x1] n f P') (k : ∀ o n' f', P' o n' f' → ∃ v, o = .inl v ∧ AW M rc rs (pc + 3) L (v.toList ++ st) n' f' P) : AW M (mc' + rc) (ms' + rs) pc L (x1 :: st) n f P := by
  obtain ⟨h1, ⟨host, h2⟩, h3⟩ := hc
  exact am_invSN (as := [x1]) (host := host) pc hd h1 hG2 h2 h3 rfl hr hlen (AW.mono (fun o n' f' h => by obtain ⟨v, rfl, h2⟩ := k o n' f' h; exact h2) hs)
theorem am_V2 (pc : Nat) {M N : am_M} {rc rs mc' ms' n ix b ci : Nat} {x1 x2 : Value} {L : List (Option Value)} {st fs : List Value} {f : Nat → am_C} {P P' : am_P} (hd : decode (am_by M) pc = .ok (.invokevirtual ix, 3)) (hc : am_cV (am_y M).cls ix N 2 ci) (hG2 : am_G2 M N) (hb : f b = .inr (ci, fs)) (hr : (st.map fun v => v.category).sum ≤ 8) (hlen : (lg_sl [.ref b, x1, x2]).length ≤ am_mL N) (hs : AM N mc' ms' [.ref b, x1, x2] n f P') (k : ∀ o n' f', P' o n' f' → am_ct M rc rs pc L st P o n' f') : AW M (mc' + rc) (ms' + rs) pc L (x2 :: x1 :: .ref b :: st) n f P := by
  obtain ⟨h1, h2, h3, h4, q, h5, h6⟩ := hc
  exact am_invV (as := [x1, x2]) (q := q) pc hd h1 hG2 h2 h3 h4 hb h5 h6 rfl hr hlen (AW.mono k hs)
theorem am_S2 (pc : Nat) {M N : am_M} {rc rs mc' ms' n ix : Nat} {x1 x2 : Value} {L : List (Option Value)} {st : List Value} {f : Nat → am_C} {P P' : am_P} (hd : decode (am_by M) pc = .ok (.invokestatic ix, 3)) (hc : am_cS (am_y M).cls ix N 2) (hG2 : am_G2 M N) (hr : (st.map fun v => v.category).sum ≤ 8) (hlen : (lg_sl [x1, x2]).length ≤ am_mL N) (hs : AM N mc' ms' [x1, x2] n f P') (k : ∀ o n' f', P' o n' f' → am_ct M rc rs pc L st P o n' f') : AW M (mc' + rc) (ms' + rs) pc L (x2 :: x1 :: st) n f P := by
  obtain ⟨h1, h2, h3⟩ := hc
  exact am_invS (as := [x1, x2]) pc hd h1 hG2 h2 h3 rfl hr hlen (AW.mono k hs)
theorem am_V3 (pc : Nat) {M N : am_M} {rc rs mc' ms' n ix b ci : Nat} {x1 x2 x3 : Value} {L : List (Option Value)} {st fs : List Value} {f : Nat → am_C} {P P' : am_P} (hd : decode (am_by M) pc = .ok (.invokevirtual ix, 3)) (hc : am_cV (am_y M).cls ix N 3 ci) (hG2 : am_G2 M N) (hb : f b = .inr (ci, fs)) (hr : (st.map fun v => v.category).sum ≤ 8) (hlen : (lg_sl [.ref b, x1, x2, x3]).length ≤ am_mL N) (hs : AM N mc' ms' [.ref b, x1, x2, x3] n f P') (k : ∀ o n' f', P' o n' f' → am_ct M rc rs pc L st P o n' f') : AW M (mc' + rc) (ms' + rs) pc L (x3 :: x2 :: x1 :: .ref b :: st) n f P := by
  obtain ⟨h1, h2, h3, h4, q, h5, h6⟩ := hc
  exact am_invV (as := [x1, x2, x3]) (q := q) pc hd h1 hG2 h2 h3 h4 hb h5 h6 rfl hr hlen (AW.mono k hs)
theorem am_S3 (pc : Nat) {M N : am_M} {rc rs mc' ms' n ix : Nat} {x1 x2 x3 : Value} {L : List (Option Value)} {st : List Value} {f : Nat → am_C} {P P' : am_P} (hd : decode (am_by M) pc = .ok (.invokestatic ix, 3)) (hc : am_cS (am_y M).cls ix N 3) (hG2 : am_G2 M N) (hr : (st.map fun v => v.category).sum ≤ 8) (hlen : (lg_sl [x1, x2, x3]).length ≤ am_mL N) (hs : AM N mc' ms' [x1, x2, x3] n f P') (k : ∀ o n' f', P' o n' f' → am_ct M rc rs pc L st P o n' f') : AW M (mc' + rc) (ms' + rs) pc L (x3 :: x2 :: x1 :: st) n f P := by
  obtain ⟨h1, h2, h3⟩ := hc
  exact am_invS (as := [x1, x2, x3]) pc hd h1 hG2 h2 h3 rfl hr hlen (AW.mono k hs)
theorem am_V4 (pc : Nat) {M N : am_M} {rc rs mc' ms' n ix b ci : Nat} {x1 x2 x3 x4 : Value} {L : List (Option Value)} {st fs : List Value} {f : Nat → am_C} {P P' : am_P} (hd : decode (am_by M) pc = .ok (.invokevirtual ix, 3)) (hc : am_cV (am_y M).cls ix N 4 ci) (hG2 : am_G2 M N) (hb : f b = .inr (ci, fs)) (hr : (st.map fun v => v.category).sum ≤ 8) (hlen : (lg_sl [.ref b, x1, x2, x3, x4]).length ≤ am_mL N) (hs : AM N mc' ms' [.ref b, x1, x2, x3, x4] n f P') (k : ∀ o n' f', P' o n' f' → am_ct M rc rs pc L st P o n' f') : AW M (mc' + rc) (ms' + rs) pc L (x4 :: x3 :: x2 :: x1 :: .ref b :: st) n f P := by
  obtain ⟨h1, h2, h3, h4, q, h5, h6⟩ := hc
  exact am_invV (as := [x1, x2, x3, x4]) (q := q) pc hd h1 hG2 h2 h3 h4 hb h5 h6 rfl hr hlen (AW.mono k hs)
theorem am_S4 (pc : Nat) {M N : am_M} {rc rs mc' ms' n ix : Nat} {x1 x2 x3 x4 : Value} {L : List (Option Value)} {st : List Value} {f : Nat → am_C} {P P' : am_P} (hd : decode (am_by M) pc = .ok (.invokestatic ix, 3)) (hc : am_cS (am_y M).cls ix N 4) (hG2 : am_G2 M N) (hr : (st.map fun v => v.category).sum ≤ 8) (hlen : (lg_sl [x1, x2, x3, x4]).length ≤ am_mL N) (hs : AM N mc' ms' [x1, x2, x3, x4] n f P') (k : ∀ o n' f', P' o n' f' → am_ct M rc rs pc L st P o n' f') : AW M (mc' + rc) (ms' + rs) pc L (x4 :: x3 :: x2 :: x1 :: st) n f P := by
  obtain ⟨h1, h2, h3⟩ := hc
  exact am_invS (as := [x1, x2, x3, x4]) pc hd h1 hG2 h2 h3 rfl hr hlen (AW.mono k hs)
theorem am_V5 (pc : Nat) {M N : am_M} {rc rs mc' ms' n ix b ci : Nat} {x1 x2 x3 x4 x5 : Value} {L : List (Option Value)} {st fs : List Value} {f : Nat → am_C} {P P' : am_P} (hd : decode (am_by M) pc = .ok (.invokevirtual ix, 3)) (hc : am_cV (am_y M).cls ix N 5 ci) (hG2 : am_G2 M N) (hb : f b = .inr (ci, fs)) (hr : (st.map fun v => v.category).sum ≤ 8) (hlen : (lg_sl [.ref b, x1, x2, x3, x4, x5]).length ≤ am_mL N) (hs : AM N mc' ms' [.ref b, x1, x2, x3, x4, x5] n f P') (k : ∀ o n' f', P' o n' f' → am_ct M rc rs pc L st P o n' f') : AW M (mc' + rc) (ms' + rs) pc L (x5 :: x4 :: x3 :: x2 :: x1 :: .ref b :: st) n f P := by
  obtain ⟨h1, h2, h3, h4, q, h5, h6⟩ := hc
  exact am_invV (as := [x1, x2, x3, x4, x5]) (q := q) pc hd h1 hG2 h2 h3 h4 hb h5 h6 rfl hr hlen (AW.mono k hs)
theorem am_S5 (pc : Nat) {M N : am_M} {rc rs mc' ms' n ix : Nat} {x1 x2 x3 x4 x5 : Value} {L : List (Option Value)} {st : List Value} {f : Nat → am_C} {P P' : am_P} (hd : decode (am_by M) pc = .ok (.invokestatic ix, 3)) (hc : am_cS (am_y M).cls ix N 5) (hG2 : am_G2 M N) (hr : (st.map fun v => v.category).sum ≤ 8) (hlen : (lg_sl [x1, x2, x3, x4, x5]).length ≤ am_mL N) (hs : AM N mc' ms' [x1, x2, x3, x4, x5] n f P') (k : ∀ o n' f', P' o n' f' → am_ct M rc rs pc L st P o n' f') : AW M (mc' + rc) (ms' + rs) pc L (x5 :: x4 :: x3 :: x2 :: x1 :: st) n f P := by
  obtain ⟨h1, h2, h3⟩ := hc
  exact am_invS (as := [x1, x2, x3, x4, x5]) pc hd h1 hG2 h2 h3 rfl hr hlen (AW.mono k hs)
theorem am_OI (pc : Nat) {M : am_M} {rc rs n ix b : Nat} {L : List (Option Value)} {st : List Value} {f : Nat → am_C} {P : am_P} (hd : decode (am_by M) pc = .ok (.invokespecial ix, 3)) (hc : am_cO (am_y M).cls ix) (hfr : 1 ≤ am_fr M) (hlo : (st.map fun v => v.category).sum + 12 ≤ am_lo M) (k : AW M rc rs (pc + 3) L st n f P) : AW M rc rs pc L (.ref b :: st) n f P := am_objInit pc hd hc.1 hc.2.1 hc.2.2 hfr hlo k
end
section
/-! ===== facts: methods, fields, calls, constants, by program out of the tables ===== -/
theorem am_t0 (i : Nat) {w : Cond} (h : (k2_sels lw_privs)[i]? = some w) (g : goodWord w = true) : w ∈ am_W := List.mem_filter.mpr ⟨List.mem_append_left _ (List.mem_of_getElem? h), g⟩
theorem am_t1 (i : Nat) {w : Cond} (h : tables_1_1[i]? = some w) (g : goodWord w = true) : w ∈ am_W := List.mem_filter.mpr ⟨List.mem_append_right _ (show w ∈ tables_1_1 ++ (tables_1_2 ++ (tables_1_3 ++ (tables_1_4 ++ (tables_1_5 ++ (tables_1_6 ++ (tables_1_7)))))) from List.mem_append_left _ (List.mem_of_getElem? h)), g⟩
theorem am_t2 (i : Nat) {w : Cond} (h : tables_1_2[i]? = some w) (g : goodWord w = true) : w ∈ am_W := List.mem_filter.mpr ⟨List.mem_append_right _ (show w ∈ tables_1_1 ++ (tables_1_2 ++ (tables_1_3 ++ (tables_1_4 ++ (tables_1_5 ++ (tables_1_6 ++ (tables_1_7)))))) from List.mem_append_right _ (List.mem_append_left _ (List.mem_of_getElem? h))), g⟩
theorem am_t3 (i : Nat) {w : Cond} (h : tables_1_3[i]? = some w) (g : goodWord w = true) : w ∈ am_W := List.mem_filter.mpr ⟨List.mem_append_right _ (show w ∈ tables_1_1 ++ (tables_1_2 ++ (tables_1_3 ++ (tables_1_4 ++ (tables_1_5 ++ (tables_1_6 ++ (tables_1_7)))))) from List.mem_append_right _ (List.mem_append_right _ (List.mem_append_left _ (List.mem_of_getElem? h)))), g⟩
theorem am_t4 (i : Nat) {w : Cond} (h : tables_1_4[i]? = some w) (g : goodWord w = true) : w ∈ am_W := List.mem_filter.mpr ⟨List.mem_append_right _ (show w ∈ tables_1_1 ++ (tables_1_2 ++ (tables_1_3 ++ (tables_1_4 ++ (tables_1_5 ++ (tables_1_6 ++ (tables_1_7)))))) from List.mem_append_right _ (List.mem_append_right _ (List.mem_append_right _ (List.mem_append_left _ (List.mem_of_getElem? h))))), g⟩
theorem am_t5 (i : Nat) {w : Cond} (h : tables_1_5[i]? = some w) (g : goodWord w = true) : w ∈ am_W := List.mem_filter.mpr ⟨List.mem_append_right _ (show w ∈ tables_1_1 ++ (tables_1_2 ++ (tables_1_3 ++ (tables_1_4 ++ (tables_1_5 ++ (tables_1_6 ++ (tables_1_7)))))) from List.mem_append_right _ (List.mem_append_right _ (List.mem_append_right _ (List.mem_append_right _ (List.mem_append_left _ (List.mem_of_getElem? h)))))), g⟩
theorem am_t6 (i : Nat) {w : Cond} (h : tables_1_6[i]? = some w) (g : goodWord w = true) : w ∈ am_W := List.mem_filter.mpr ⟨List.mem_append_right _ (show w ∈ tables_1_1 ++ (tables_1_2 ++ (tables_1_3 ++ (tables_1_4 ++ (tables_1_5 ++ (tables_1_6 ++ (tables_1_7)))))) from List.mem_append_right _ (List.mem_append_right _ (List.mem_append_right _ (List.mem_append_right _ (List.mem_append_right _ (List.mem_append_left _ (List.mem_of_getElem? h))))))), g⟩
theorem am_t7 (i : Nat) {w : Cond} (h : tables_1_7[i]? = some w) (g : goodWord w = true) : w ∈ am_W := List.mem_filter.mpr ⟨List.mem_append_right _ (show w ∈ tables_1_1 ++ (tables_1_2 ++ (tables_1_3 ++ (tables_1_4 ++ (tables_1_5 ++ (tables_1_6 ++ (tables_1_7)))))) from List.mem_append_right _ (List.mem_append_right _ (List.mem_append_right _ (List.mem_append_right _ (List.mem_append_right _ (List.mem_append_right _ (List.mem_of_getElem? h))))))), g⟩
abbrev mX7_init : am_M := (yX7_init, cX7_init, 1, none, [], 3, 62)
abbrev mX6_init : am_M := (yX6_init, cX6_init, 1, none, [], 1, 20)
abbrev mX5_init : am_M := (yX5_init, cX5_init, 1, none, [], 1, 20)
abbrev mX4_init : am_M := (yX4_init, cX4_init, 1, none, [], 1, 20)
abbrev mX1_init : am_M := (yX1_init, cX1_init, 2, none, [], 2, 40)
abbrev mX0_init : am_M := (yX0_init, cX0_init, 1, none, [], 1, 20)
abbrev mX3_init : am_M := (yX3_init, cX3_init, 3, none, [], 2, 40)
abbrev mX2_init : am_M := (yX2_init, cX2_init, 1, none, [], 1, 20)
abbrev mX7_frame : am_M := (yX7_frame, cX7_frame, 2, (some .int), [], 5, 112)
abbrev mX4_pair : am_M := (yX4_pair, cX4_pair, 5, none, [], 2, 49)
abbrev mX4_weightOf : am_M := (yX4_weightOf, cX4_weightOf, 10, (some .long), [], 1, 20)
abbrev mX4_digitOf : am_M := (yX4_digitOf, cX4_digitOf, 1, (some .int), [], 0, 0)
abbrev mX4_offerPeak : am_M := (yX4_offerPeak, cX4_offerPeak, 4, none, [], 1, 23)
abbrev mX4_weightOfRest : am_M := (yX4_weightOfRest, cX4_weightOfRest, 4, (some .long), [], 1, 20)
abbrev mX3_take : am_M := (yX3_take, cX3_take, 4, none, [], 4, 89)
abbrev mX3_followMatched : am_M := (yX3_followMatched, cX3_followMatched, 6, none, [], 2, 45)
abbrev mX4_peakOf : am_M := (yX4_peakOf, cX4_peakOf, 3, (some .int), [], 1, 20)
abbrev mX5_isPalm : am_M := (yX5_isPalm, cX5_isPalm, 2, (some .boolean), [], 1, 21)
abbrev mX5_sizeOf : am_M := (yX5_sizeOf, cX5_sizeOf, 2, (some .int), [], 0, 0)
abbrev mX3_cancel : am_M := (yX3_cancel, cX3_cancel, 2, none, [], 1, 23)
abbrev mX1_count : am_M := (yX1_count, cX1_count, 4, none, [], 0, 0)
abbrev mX2_moveTo : am_M := (yX2_moveTo, cX2_moveTo, 6, none, [], 1, 20)
abbrev mX7_withoutSign : am_M := (yX7_withoutSign, cX7_withoutSign, 1, (some .float), [], 0, 0)
abbrev mX3_missUnmatched : am_M := (yX3_missUnmatched, cX3_missUnmatched, 4, none, [], 2, 44)
abbrev mX2_miss : am_M := (yX2_miss, cX2_miss, 1, none, [], 0, 0)
abbrev mX3_lift : am_M := (yX3_lift, cX3_lift, 2, none, [], 1, 23)
abbrev mX3_beginUnmatched : am_M := (yX3_beginUnmatched, cX3_beginUnmatched, 6, none, [], 3, 64)
abbrev mX3_freeName : am_M := (yX3_freeName, cX3_freeName, 2, (some .int), [], 0, 0)
abbrev mX3_isMatchedBy : am_M := (yX3_isMatchedBy, cX3_isMatchedBy, 3, (some .boolean), [], 2, 42)
abbrev mX1_latestAt : am_M := (yX1_latestAt, cX1_latestAt, 3, (some .int), [], 1, 22)
abbrev mX0_holds : am_M := (yX0_holds, cX0_holds, 3, (some .boolean), [], 0, 0)
abbrev mX2_beginAt : am_M := (yX2_beginAt, cX2_beginAt, 4, none, [], 0, 0)
abbrev mX3_rememberApart : am_M := (yX3_rememberApart, cX3_rememberApart, 4, none, [], 2, 41)
abbrev mX2_distanceTo : am_M := (yX2_distanceTo, cX2_distanceTo, 2, (some .float), [], 1, 20)
abbrev mX3_claimPinches : am_M := (yX3_claimPinches, cX3_claimPinches, 3, none, [], 3, 64)
abbrev mX2_canClaim : am_M := (yX2_canClaim, cX2_canClaim, 1, (some .boolean), [], 0, 0)
abbrev mX3_isPinch : am_M := (yX3_isPinch, cX3_isPinch, 4, (some .boolean), [], 2, 41)
abbrev mX3_claim : am_M := (yX3_claim, cX3_claim, 3, none, [], 1, 23)
abbrev mX3_claimAlone : am_M := (yX3_claimAlone, cX3_claimAlone, 3, none, [], 2, 45)
abbrev mX6_settle : am_M := (yX6_settle, cX6_settle, 3, none, [], 2, 41)
abbrev mX5_isTouched : am_M := (yX5_isTouched, cX5_isTouched, 2, (some .boolean), [], 0, 0)
abbrev mX6_stepFor : am_M := (yX6_stepFor, cX6_stepFor, 1, (some .int), [], 1, 21)
abbrev mJ6_compare_7cf53 : am_M := (yJ6_compare_7cf53, cJ6_compare_7cf53, 2, (some .int), [], 0, 0)
abbrev mX6_forgetWaits : am_M := (yX6_forgetWaits, cX6_forgetWaits, 2, none, [], 0, 0)
abbrev mX5_look : am_M := (yX5_look, cX5_look, 3, none, [], 3, 74)
abbrev mX6_signalOf : am_M := (yX6_signalOf, cX6_signalOf, 2, (some .int), [], 1, 21)
abbrev mX6_chargeOf : am_M := (yX6_chargeOf, cX6_chargeOf, 2, (some .int), [], 0, 0)
abbrev mX5_measureRegion : am_M := (yX5_measureRegion, cX5_measureRegion, 6, none, [], 2, 45)
abbrev mX5_link : am_M := (yX5_link, cX5_link, 5, (some .int), [], 1, 21)
abbrev mX5_findPeaks : am_M := (yX5_findPeaks, cX5_findPeaks, 2, none, [], 2, 53)
abbrev mX5_isSummit : am_M := (yX5_isSummit, cX5_isSummit, 7, (some .boolean), [], 1, 21)
abbrev mX5_placeOf : am_M := (yX5_placeOf, cX5_placeOf, 13, (some .int), [], 1, 21)
abbrev mX5_humNow : am_M := (yX5_humNow, cX5_humNow, 5, (some .int), [], 1, 21)
abbrev mX3_countContacts : am_M := (yX3_countContacts, cX3_countContacts, 3, (some .int), [], 0, 0)
abbrev mX7_wipe : am_M := (yX7_wipe, cX7_wipe, 2, (some .int), [], 4, 96)
abbrev mX3_cancelAll : am_M := (yX3_cancelAll, cX3_cancelAll, 2, none, [], 2, 44)
abbrev mX6_baseOnHeat : am_M := (yX6_baseOnHeat, cX6_baseOnHeat, 2, none, [], 0, 0)
abbrev mX7_calmIn : am_M := (yX7_calmIn, cX7_calmIn, 2, (some .int), [], 4, 96)
abbrev mX6_copyFrom : am_M := (yX6_copyFrom, cX6_copyFrom, 3, none, [], 0, 0)
abbrev mX5_isCalm : am_M := (yX5_isCalm, cX5_isCalm, 2, (some .boolean), [], 0, 0)
abbrev mX7_digest : am_M := (yX7_digest, cX7_digest, 5, (some .long), [], 5, 122)
abbrev mX7_manyAnswer : am_M := (yX7_manyAnswer, cX7_manyAnswer, 2, (some .int), [], 3, 64)
abbrev mX5_countPalms : am_M := (yX5_countPalms, cX5_countPalms, 3, (some .int), [], 2, 42)
abbrev mX7_mixed : am_M := (yX7_mixed, cX7_mixed, 4, (some .long), [], 0, 0)
abbrev mX7_cellAnswer : am_M := (yX7_cellAnswer, cX7_cellAnswer, 3, (some .int), [], 1, 21)
abbrev mX7_peakAnswer : am_M := (yX7_peakAnswer, cX7_peakAnswer, 3, (some .int), [], 2, 42)
abbrev mX3_has : am_M := (yX3_has, cX3_has, 2, (some .boolean), [], 0, 0)
abbrev mX7_mixedContact : am_M := (yX7_mixedContact, cX7_mixedContact, 8, (some .long), [], 4, 95)
abbrev mX7_contactAnswer : am_M := (yX7_contactAnswer, cX7_contactAnswer, 2, (some .int), [], 0, 0)
abbrev mX7_matchIn : am_M := (yX7_matchIn, cX7_matchIn, 3, (some .int), [], 3, 73)
abbrev mX7_whereAnswer : am_M := (yX7_whereAnswer, cX7_whereAnswer, 2, (some .double), [], 0, 0)
abbrev mX7_sixteenths : am_M := (yX7_sixteenths, cX7_sixteenths, 2, (some .long), [], 0, 0)
abbrev mX2_guessAt : am_M := (yX2_guessAt, cX2_guessAt, 5, (some .float), [], 0, 0)
abbrev mX7_areaAnswer : am_M := (yX7_areaAnswer, cX7_areaAnswer, 3, (some .int), [], 1, 23)
abbrev mX1_countOf : am_M := (yX1_countOf, cX1_countOf, 3, (some .int), [], 0, 0)
abbrev mX3_contactsIn : am_M := (yX3_contactsIn, cX3_contactsIn, 4, (some .int), [], 0, 0)
abbrev mX7_rowAnswer : am_M := (yX7_rowAnswer, cX7_rowAnswer, 3, (some .int), [], 2, 44)
abbrev mX5_signalOfRow : am_M := (yX5_signalOfRow, cX5_signalOfRow, 4, (some .int), [], 0, 0)
abbrev mX5_touchedInRow : am_M := (yX5_touchedInRow, cX5_touchedInRow, 4, (some .int), [], 1, 21)
abbrev mX5_peaksInRow : am_M := (yX5_peaksInRow, cX5_peaksInRow, 4, (some .int), [], 0, 0)
abbrev mL_area : am_M := (yL_area, cL_area, 7, (some .int), [((0 : Nat), (14 : Nat), (17 : Nat), (13 : Nat)), ((0 : Nat), (14 : Nat), (21 : Nat), (15 : Nat))], 7, 106)
abbrev mX7_area : am_M := (yX7_area, cX7_area, 5, (some .int), [], 6, 82)
abbrev mX1_tell : am_M := (yX1_tell, cX1_tell, 6, (some .int), [], 0, 0)
abbrev mL_dial : am_M := (yL_dial, cL_dial, 4, (some .int), [((0 : Nat), (9 : Nat), (12 : Nat), (13 : Nat))], 7, 104)
abbrev mX7_dial : am_M := (yX7_dial, cX7_dial, 3, (some .int), [], 6, 82)
abbrev mL_limit : am_M := (yL_limit, cL_limit, 4, (some .int), [((0 : Nat), (9 : Nat), (12 : Nat), (13 : Nat))], 7, 104)
abbrev mX7_limit : am_M := (yX7_limit, cX7_limit, 3, (some .int), [], 6, 82)
abbrev mL_heat : am_M := (yL_heat, cL_heat, 4, (some .int), [((0 : Nat), (9 : Nat), (12 : Nat), (13 : Nat))], 7, 118)
abbrev mX7_heat : am_M := (yX7_heat, cX7_heat, 3, (some .int), [], 6, 96)
abbrev mL_press : am_M := (yL_press, cL_press, 6, (some .int), [((0 : Nat), (12 : Nat), (15 : Nat), (31 : Nat)), ((0 : Nat), (12 : Nat), (19 : Nat), (13 : Nat))], 9, 146)
abbrev mX7_press : am_M := (yX7_press, cX7_press, 4, (some .int), [], 8, 123)
abbrev mX7_checkCell : am_M := (yX7_checkCell, cX7_checkCell, 2, none, [], 7, 102)
abbrev mX7_checkRow : am_M := (yX7_checkRow, cX7_checkRow, 1, none, [], 6, 82)
abbrev mX7_checkStrength : am_M := (yX7_checkStrength, cX7_checkStrength, 1, none, [], 6, 82)
abbrev mX6_addPress : am_M := (yX6_addPress, cX6_addPress, 7, none, [], 1, 21)
abbrev mL_noise : am_M := (yL_noise, cL_noise, 5, (some .int), [((0 : Nat), (10 : Nat), (13 : Nat), (31 : Nat)), ((0 : Nat), (10 : Nat), (17 : Nat), (13 : Nat))], 8, 124)
abbrev mX7_noise : am_M := (yX7_noise, cX7_noise, 3, (some .int), [], 7, 102)
abbrev mX6_addNoise : am_M := (yX6_addNoise, cX6_addNoise, 4, none, [], 0, 0)
abbrev mL_ofCell : am_M := (yL_ofCell, cL_ofCell, 6, (some .int), [((0 : Nat), (12 : Nat), (15 : Nat), (31 : Nat)), ((0 : Nat), (12 : Nat), (19 : Nat), (13 : Nat))], 9, 146)
abbrev mX7_ofCell : am_M := (yX7_ofCell, cX7_ofCell, 4, (some .int), [], 8, 123)
abbrev mX7_checkWhat : am_M := (yX7_checkWhat, cX7_checkWhat, 2, none, [], 6, 82)
abbrev mL_ofPeak : am_M := (yL_ofPeak, cL_ofPeak, 5, (some .int), [((0 : Nat), (10 : Nat), (13 : Nat), (31 : Nat)), ((0 : Nat), (10 : Nat), (17 : Nat), (13 : Nat))], 8, 125)
abbrev mX7_ofPeak : am_M := (yX7_ofPeak, cX7_ofPeak, 3, (some .int), [], 7, 103)
abbrev mL_ofContact : am_M := (yL_ofContact, cL_ofContact, 5, (some .int), [((0 : Nat), (10 : Nat), (13 : Nat), (31 : Nat)), ((0 : Nat), (10 : Nat), (17 : Nat), (13 : Nat))], 8, 125)
abbrev mX7_ofContact : am_M := (yX7_ofContact, cX7_ofContact, 3, (some .int), [], 7, 103)
abbrev mX7_checkName : am_M := (yX7_checkName, cX7_checkName, 2, none, [], 6, 82)
abbrev mL_where : am_M := (yL_where, cL_where, 5, (some .int), [((0 : Nat), (9 : Nat), (12 : Nat), (31 : Nat)), ((0 : Nat), (9 : Nat), (16 : Nat), (13 : Nat))], 8, 125)
abbrev mX7_where : am_M := (yX7_where, cX7_where, 3, (some .double), [], 7, 103)
abbrev mL_apart : am_M := (yL_apart, cL_apart, 5, (some .int), [((0 : Nat), (9 : Nat), (12 : Nat), (31 : Nat))], 8, 125)
abbrev mX7_apart : am_M := (yX7_apart, cX7_apart, 3, (some .double), [], 7, 103)
abbrev mL_ofRow : am_M := (yL_ofRow, cL_ofRow, 5, (some .int), [((0 : Nat), (10 : Nat), (13 : Nat), (31 : Nat)), ((0 : Nat), (10 : Nat), (17 : Nat), (13 : Nat))], 8, 125)
abbrev mX7_ofRow : am_M := (yX7_ofRow, cX7_ofRow, 3, (some .int), [], 7, 103)
abbrev mL_ofArea : am_M := (yL_ofArea, cL_ofArea, 5, (some .int), [((0 : Nat), (10 : Nat), (13 : Nat), (31 : Nat)), ((0 : Nat), (10 : Nat), (17 : Nat), (13 : Nat))], 8, 125)
abbrev mX7_ofArea : am_M := (yX7_ofArea, cX7_ofArea, 3, (some .int), [], 7, 103)
abbrev mL_many : am_M := (yL_many, cL_many, 4, (some .int), [((0 : Nat), (9 : Nat), (12 : Nat), (13 : Nat))], 8, 124)
abbrev mX7_many : am_M := (yX7_many, cX7_many, 2, (some .int), [], 7, 103)
abbrev mL_guess : am_M := (yL_guess, cL_guess, 6, (some .int), [((0 : Nat), (11 : Nat), (14 : Nat), (31 : Nat)), ((0 : Nat), (11 : Nat), (18 : Nat), (13 : Nat))], 8, 126)
abbrev mX7_guess : am_M := (yX7_guess, cX7_guess, 4, (some .double), [], 7, 103)
abbrev mL_wouldMatch : am_M := (yL_wouldMatch, cL_wouldMatch, 4, (some .int), [((0 : Nat), (9 : Nat), (12 : Nat), (31 : Nat))], 8, 124)
abbrev mX7_wouldMatch : am_M := (yX7_wouldMatch, cX7_wouldMatch, 2, (some .int), [], 7, 103)
abbrev mL_keepBy : am_M := (yL_keepBy, cL_keepBy, 5, (some .int), [((0 : Nat), (10 : Nat), (13 : Nat), (31 : Nat)), ((0 : Nat), (10 : Nat), (17 : Nat), (13 : Nat))], 8, 143)
abbrev mX7_keepBy : am_M := (yX7_keepBy, cX7_keepBy, 4, (some .int), [], 7, 120)
abbrev mX7_wouldKeep : am_M := (yX7_wouldKeep, cX7_wouldKeep, 5, (some .boolean), [], 4, 96)
abbrev mX5_peakAt : am_M := (yX5_peakAt, cX5_peakAt, 3, (some .int), [], 0, 0)
abbrev mX12_init : am_M := (yX12_init, cX12_init, 1, none, [], 4, 80)
abbrev mJx4a65c_init_da8c8 : am_M := (yJx4a65c_init_da8c8, cJx4a65c_init_da8c8, 1, none, [], 3, 60)
abbrev mJxc12de_init_da8c8 : am_M := (yJxc12de_init_da8c8, cJxc12de_init_da8c8, 1, none, [], 2, 40)
abbrev mJxa1e45_init_da8c8 : am_M := (yJxa1e45_init_da8c8, cJxa1e45_init_da8c8, 1, none, [], 1, 20)
abbrev mX12_thrown : am_M := (yX12_thrown, cX12_thrown, 1, (some .int), [], 0, 0)
abbrev mX12_area : am_M := (yX12_area, cX12_area, 5, (some .int), [], 5, 108)
abbrev mX12_isIn : am_M := (yX12_isIn, cX12_isIn, 3, (some .boolean), [], 0, 0)
abbrev mX12_start : am_M := (yX12_start, cX12_start, 3, (some .boolean), [], 1, 22)
abbrev mX12_refuse : am_M := (yX12_refuse, cX12_refuse, 3, (some .boolean), [], 0, 0)
abbrev mJx4a65c_size_8abf5 : am_M := (yJx4a65c_size_8abf5, cJx4a65c_size_8abf5, 1, (some .int), [], 0, 0)
abbrev mX8_init : am_M := (yX8_init, cX8_init, 5, none, [], 1, 20)
abbrev mJx4a65c_add_9ea2d : am_M := (yJx4a65c_add_9ea2d, cJx4a65c_add_9ea2d, 2, (some .boolean), [], 4, 87)
abbrev mJx4a65c_add_72be8 : am_M := (yJx4a65c_add_72be8, cJx4a65c_add_72be8, 4, none, [], 3, 64)
abbrev mJx4a65c_grow_d5877 : am_M := (yJx4a65c_grow_d5877, cJx4a65c_grow_d5877, 1, (some (.array (.object "java/lang/Object"))), [], 2, 44)
abbrev mJx4a65c_grow_92f84 : am_M := (yJx4a65c_grow_92f84, cJx4a65c_grow_92f84, 4, (some (.array (.object "java/lang/Object"))), [], 1, 21)
abbrev mX12_dial : am_M := (yX12_dial, cX12_dial, 3, (some .int), [], 2, 44)
abbrev mX12_limit : am_M := (yX12_limit, cX12_limit, 3, (some .int), [], 2, 44)
abbrev mX12_heat : am_M := (yX12_heat, cX12_heat, 3, (some .int), [], 2, 44)
abbrev mX12_press : am_M := (yX12_press, cX12_press, 4, (some .int), [], 3, 69)
abbrev mX12_isGlass : am_M := (yX12_isGlass, cX12_isGlass, 2, (some .boolean), [], 1, 22)
abbrev mX12_pressed : am_M := (yX12_pressed, cX12_pressed, 7, none, [], 2, 43)
abbrev mX12_cell : am_M := (yX12_cell, cX12_cell, 2, (some .int), [], 0, 0)
abbrev mX12_noise : am_M := (yX12_noise, cX12_noise, 4, (some .int), [], 6, 140)
abbrev mX12_view : am_M := (yX12_view, cX12_view, 1, (some (.object "PalmwardModel$View")), [], 5, 120)
abbrev mX12_charges : am_M := (yX12_charges, cX12_charges, 3, (some (.array .int)), [], 0, 0)
abbrev mX11_init : am_M := (yX11_init, cX11_init, 6, none, [], 4, 95)
abbrev mX11_isTouched : am_M := (yX11_isTouched, cX11_isTouched, 2, (some .boolean), [], 0, 0)
abbrev mX11_region : am_M := (yX11_region, cX11_region, 8, none, [], 3, 68)
abbrev mX11_spread : am_M := (yX11_spread, cX11_spread, 6, (some .int), [], 2, 43)
abbrev mX11_isPeak : am_M := (yX11_isPeak, cX11_isPeak, 7, (some .boolean), [], 2, 43)
abbrev mX11_hum : am_M := (yX11_hum, cX11_hum, 4, (some .int), [], 1, 21)
abbrev mX12_frame : am_M := (yX12_frame, cX12_frame, 4, (some .int), [], 6, 140)
abbrev mX12_track : am_M := (yX12_track, cX12_track, 6, none, [], 4, 92)
abbrev mX10_init : am_M := (yX10_init, cX10_init, 4, none, [], 3, 69)
abbrev mX11_place : am_M := (yX11_place, cX11_place, 7, (some .int), [], 2, 43)
abbrev mX10_go : am_M := (yX10_go, cX10_go, 8, none, [], 1, 27)
abbrev mX9_far : am_M := (yX9_far, cX9_far, 3, (some .int), [], 0, 0)
abbrev mX11_isPalm : am_M := (yX11_isPalm, cX11_isPalm, 2, (some .boolean), [], 0, 0)
abbrev mX12_cancel : am_M := (yX12_cancel, cX12_cancel, 2, none, [], 1, 23)
abbrev mX12_count : am_M := (yX12_count, cX12_count, 4, none, [], 0, 0)
abbrev mX9_go : am_M := (yX9_go, cX9_go, 5, none, [], 1, 21)
abbrev mX12_miss : am_M := (yX12_miss, cX12_miss, 3, none, [], 1, 23)
abbrev mX12_begin : am_M := (yX12_begin, cX12_begin, 7, none, [], 2, 45)
abbrev mX12_areaOf : am_M := (yX12_areaOf, cX12_areaOf, 4, (some .int), [], 1, 22)
abbrev mX9_init : am_M := (yX9_init, cX9_init, 4, none, [], 1, 20)
abbrev mX9_to : am_M := (yX9_to, cX9_to, 2, (some .float), [], 1, 20)
abbrev mX12_claims : am_M := (yX12_claims, cX12_claims, 3, none, [], 2, 45)
abbrev mX12_mayClaim : am_M := (yX12_mayClaim, cX12_mayClaim, 2, (some .boolean), [], 0, 0)
abbrev mX12_claim : am_M := (yX12_claim, cX12_claim, 3, none, [], 1, 23)
abbrev mX11_drift : am_M := (yX11_drift, cX11_drift, 2, (some .int), [], 1, 21)
abbrev mJ6_signum_0f7a4 : am_M := (yJ6_signum_0f7a4, cJ6_signum_0f7a4, 1, (some .int), [], 0, 0)
abbrev mX12_clean : am_M := (yX12_clean, cX12_clean, 2, none, [], 0, 0)
abbrev mX12_contactsNow : am_M := (yX12_contactsNow, cX12_contactsNow, 6, (some .int), [], 0, 0)
abbrev mX12_wipe : am_M := (yX12_wipe, cX12_wipe, 3, (some .int), [], 2, 44)
abbrev mX12_ofCell : am_M := (yX12_ofCell, cX12_ofCell, 4, (some .int), [], 6, 140)
abbrev mX12_ofCellNow : am_M := (yX12_ofCellNow, cX12_ofCellNow, 4, (some .int), [], 1, 21)
abbrev mX12_ofPeak : am_M := (yX12_ofPeak, cX12_ofPeak, 4, (some .int), [], 6, 140)
abbrev mX12_ofPeakNow : am_M := (yX12_ofPeakNow, cX12_ofPeakNow, 4, (some .int), [], 3, 69)
abbrev mX12_ofContact : am_M := (yX12_ofContact, cX12_ofContact, 3, (some .int), [], 2, 44)
abbrev mX12_isNone : am_M := (yX12_isNone, cX12_isNone, 2, (some .boolean), [], 1, 22)
abbrev mX12_ofContactNow : am_M := (yX12_ofContactNow, cX12_ofContactNow, 3, (some .int), [], 0, 0)
abbrev mX12_where : am_M := (yX12_where, cX12_where, 3, (some .double), [], 2, 44)
abbrev mX12_whereNow : am_M := (yX12_whereNow, cX12_whereNow, 2, (some .double), [], 0, 0)
abbrev mX12_apart : am_M := (yX12_apart, cX12_apart, 3, (some .double), [], 2, 44)
abbrev mX12_ofRow : am_M := (yX12_ofRow, cX12_ofRow, 3, (some .int), [], 6, 140)
abbrev mX12_ofRowNow : am_M := (yX12_ofRowNow, cX12_ofRowNow, 5, (some .int), [], 1, 21)
abbrev mX12_ofArea : am_M := (yX12_ofArea, cX12_ofArea, 3, (some .int), [], 2, 44)
abbrev mX12_ofAreaNow : am_M := (yX12_ofAreaNow, cX12_ofAreaNow, 8, (some .int), [], 0, 0)
abbrev mX12_many : am_M := (yX12_many, cX12_many, 2, (some .int), [], 6, 140)
abbrev mX12_manyNow : am_M := (yX12_manyNow, cX12_manyNow, 5, (some .int), [], 2, 44)
abbrev mX12_guess : am_M := (yX12_guess, cX12_guess, 4, (some .double), [], 2, 44)
abbrev mX12_guessNow : am_M := (yX12_guessNow, cX12_guessNow, 4, (some .double), [], 1, 21)
abbrev mX12_wouldMatch : am_M := (yX12_wouldMatch, cX12_wouldMatch, 2, (some .int), [], 6, 140)
abbrev mX12_wouldMatchNow : am_M := (yX12_wouldMatchNow, cX12_wouldMatchNow, 3, (some .int), [], 4, 92)
abbrev mX12_calmIn : am_M := (yX12_calmIn, cX12_calmIn, 1, (some .int), [], 6, 146)
abbrev mX12_calmInNow : am_M := (yX12_calmInNow, cX12_calmInNow, 7, (some .int), [], 5, 120)
abbrev mX12_keepBy : am_M := (yX12_keepBy, cX12_keepBy, 3, (some .int), [], 7, 165)
abbrev mX12_keepByNow : am_M := (yX12_keepByNow, cX12_keepByNow, 6, (some .int), [], 6, 140)
abbrev mX12_digest : am_M := (yX12_digest, cX12_digest, 6, (some .long), [], 6, 146)
abbrev mX12_add : am_M := (yX12_add, cX12_add, 4, (some .long), [], 0, 0)
abbrev mX12_digestContact : am_M := (yX12_digestContact, cX12_digestContact, 9, (some .long), [], 2, 44)
theorem gX7_init : am_G mX7_init 0 := ⟨rfl, by decide +kernel, am_t1 36 rfl rfl, am_t1 1 rfl rfl, ⟨by decide +kernel, by decide +kernel⟩, by decide +kernel⟩
theorem gX6_init : am_G mX6_init 0 := ⟨rfl, by decide +kernel, am_t1 44 rfl rfl, am_t1 2 rfl rfl, ⟨by decide +kernel, by decide +kernel⟩, by decide +kernel⟩
theorem gX5_init : am_G mX5_init 0 := ⟨rfl, by decide +kernel, am_t1 63 rfl rfl, am_t1 3 rfl rfl, ⟨by decide +kernel, by decide +kernel⟩, by decide +kernel⟩
theorem gX4_init : am_G mX4_init 0 := ⟨rfl, by decide +kernel, am_t1 110 rfl rfl, am_t1 4 rfl rfl, ⟨by decide +kernel, by decide +kernel⟩, by decide +kernel⟩
theorem gX1_init : am_G mX1_init 0 := ⟨rfl, by decide +kernel, am_t1 127 rfl rfl, am_t1 5 rfl rfl, ⟨by decide +kernel, by decide +kernel⟩, by decide +kernel⟩
theorem gX0_init : am_G mX0_init 0 := ⟨rfl, by decide +kernel, am_t1 134 rfl rfl, am_t1 6 rfl rfl, ⟨by decide +kernel, by decide +kernel⟩, by decide +kernel⟩
theorem gX3_init : am_G mX3_init 1 := ⟨rfl, by decide +kernel, am_t1 169 rfl rfl, am_t1 7 rfl rfl, ⟨by decide +kernel, by decide +kernel⟩, by decide +kernel⟩
theorem gX2_init : am_G mX2_init 0 := ⟨rfl, by decide +kernel, am_t1 176 rfl rfl, am_t1 8 rfl rfl, ⟨by decide +kernel, by decide +kernel⟩, by decide +kernel⟩
theorem gX7_frame : am_G mX7_frame 0 := ⟨rfl, by decide +kernel, am_t2 66 rfl rfl, am_t1 1 rfl rfl, ⟨by decide +kernel, by decide +kernel⟩, by decide +kernel⟩
theorem gX4_pair : am_G mX4_pair 2 := ⟨rfl, by decide +kernel, am_t2 70 rfl rfl, am_t1 4 rfl rfl, ⟨by decide +kernel, by decide +kernel⟩, by decide +kernel⟩
theorem gX4_weightOf : am_G mX4_weightOf 4 := ⟨rfl, by decide +kernel, am_t2 74 rfl rfl, am_t1 4 rfl rfl, ⟨by decide +kernel, by decide +kernel⟩, by decide +kernel⟩
theorem gX4_digitOf : am_G mX4_digitOf 1 := ⟨rfl, by decide +kernel, am_t2 78 rfl rfl, am_t1 4 rfl rfl, ⟨by decide +kernel, by decide +kernel⟩, by decide +kernel⟩
theorem gX4_offerPeak : am_G mX4_offerPeak 0 := ⟨rfl, by decide +kernel, am_t2 82 rfl rfl, am_t1 4 rfl rfl, ⟨by decide +kernel, by decide +kernel⟩, by decide +kernel⟩
theorem gX4_weightOfRest : am_G mX4_weightOfRest 1 := ⟨rfl, by decide +kernel, am_t2 88 rfl rfl, am_t1 4 rfl rfl, ⟨by decide +kernel, by decide +kernel⟩, by decide +kernel⟩
theorem gX3_take : am_G mX3_take 3 := ⟨rfl, by decide +kernel, am_t2 94 rfl rfl, am_t1 7 rfl rfl, ⟨by decide +kernel, by decide +kernel⟩, by decide +kernel⟩
theorem gX3_followMatched : am_G mX3_followMatched 3 := ⟨rfl, by decide +kernel, am_t2 98 rfl rfl, am_t1 7 rfl rfl, ⟨by decide +kernel, by decide +kernel⟩, by decide +kernel⟩
theorem gX4_peakOf : am_G mX4_peakOf 1 := ⟨rfl, by decide +kernel, am_t2 102 rfl rfl, am_t1 4 rfl rfl, ⟨by decide +kernel, by decide +kernel⟩, by decide +kernel⟩
theorem gX5_isPalm : am_G mX5_isPalm 1 := ⟨rfl, by decide +kernel, am_t2 106 rfl rfl, am_t1 3 rfl rfl, ⟨by decide +kernel, by decide +kernel⟩, by decide +kernel⟩
theorem gX5_sizeOf : am_G mX5_sizeOf 1 := ⟨rfl, by decide +kernel, am_t2 110 rfl rfl, am_t1 3 rfl rfl, ⟨by decide +kernel, by decide +kernel⟩, by decide +kernel⟩
theorem gX3_cancel : am_G mX3_cancel 1 := ⟨rfl, by decide +kernel, am_t2 114 rfl rfl, am_t1 7 rfl rfl, ⟨by decide +kernel, by decide +kernel⟩, by decide +kernel⟩
theorem gX1_count : am_G mX1_count 3 := ⟨rfl, by decide +kernel, am_t2 118 rfl rfl, am_t1 5 rfl rfl, ⟨by decide +kernel, by decide +kernel⟩, by decide +kernel⟩
theorem gX2_moveTo : am_G mX2_moveTo 3 := ⟨rfl, by decide +kernel, am_t2 122 rfl rfl, am_t1 8 rfl rfl, ⟨by decide +kernel, by decide +kernel⟩, by decide +kernel⟩
theorem gX7_withoutSign : am_G mX7_withoutSign 1 := ⟨rfl, by decide +kernel, am_t2 126 rfl rfl, am_t1 1 rfl rfl, ⟨by decide +kernel, by decide +kernel⟩, by decide +kernel⟩
theorem gX3_missUnmatched : am_G mX3_missUnmatched 1 := ⟨rfl, by decide +kernel, am_t2 130 rfl rfl, am_t1 7 rfl rfl, ⟨by decide +kernel, by decide +kernel⟩, by decide +kernel⟩
theorem gX2_miss : am_G mX2_miss 0 := ⟨rfl, by decide +kernel, am_t2 134 rfl rfl, am_t1 8 rfl rfl, ⟨by decide +kernel, by decide +kernel⟩, by decide +kernel⟩
theorem gX3_lift : am_G mX3_lift 1 := ⟨rfl, by decide +kernel, am_t2 138 rfl rfl, am_t1 7 rfl rfl, ⟨by decide +kernel, by decide +kernel⟩, by decide +kernel⟩
theorem gX3_beginUnmatched : am_G mX3_beginUnmatched 2 := ⟨rfl, by decide +kernel, am_t2 142 rfl rfl, am_t1 7 rfl rfl, ⟨by decide +kernel, by decide +kernel⟩, by decide +kernel⟩
theorem gX3_freeName : am_G mX3_freeName 0 := ⟨rfl, by decide +kernel, am_t2 146 rfl rfl, am_t1 7 rfl rfl, ⟨by decide +kernel, by decide +kernel⟩, by decide +kernel⟩
theorem gX3_isMatchedBy : am_G mX3_isMatchedBy 2 := ⟨rfl, by decide +kernel, am_t2 149 rfl rfl, am_t1 7 rfl rfl, ⟨by decide +kernel, by decide +kernel⟩, by decide +kernel⟩
theorem gX1_latestAt : am_G mX1_latestAt 1 := ⟨rfl, by decide +kernel, am_t2 153 rfl rfl, am_t1 5 rfl rfl, ⟨by decide +kernel, by decide +kernel⟩, by decide +kernel⟩
theorem gX0_holds : am_G mX0_holds 2 := ⟨rfl, by decide +kernel, am_t2 157 rfl rfl, am_t1 6 rfl rfl, ⟨by decide +kernel, by decide +kernel⟩, by decide +kernel⟩
theorem gX2_beginAt : am_G mX2_beginAt 3 := ⟨rfl, by decide +kernel, am_t2 161 rfl rfl, am_t1 8 rfl rfl, ⟨by decide +kernel, by decide +kernel⟩, by decide +kernel⟩
theorem gX3_rememberApart : am_G mX3_rememberApart 1 := ⟨rfl, by decide +kernel, am_t2 165 rfl rfl, am_t1 7 rfl rfl, ⟨by decide +kernel, by decide +kernel⟩, by decide +kernel⟩
theorem gX2_distanceTo : am_G mX2_distanceTo 1 := ⟨rfl, by decide +kernel, am_t2 169 rfl rfl, am_t1 8 rfl rfl, ⟨by decide +kernel, by decide +kernel⟩, by decide +kernel⟩
theorem gX3_claimPinches : am_G mX3_claimPinches 0 := ⟨rfl, by decide +kernel, am_t2 173 rfl rfl, am_t1 7 rfl rfl, ⟨by decide +kernel, by decide +kernel⟩, by decide +kernel⟩
theorem gX2_canClaim : am_G mX2_canClaim 0 := ⟨rfl, by decide +kernel, am_t2 177 rfl rfl, am_t1 8 rfl rfl, ⟨by decide +kernel, by decide +kernel⟩, by decide +kernel⟩
theorem gX3_isPinch : am_G mX3_isPinch 2 := ⟨rfl, by decide +kernel, am_t2 181 rfl rfl, am_t1 7 rfl rfl, ⟨by decide +kernel, by decide +kernel⟩, by decide +kernel⟩
theorem gX3_claim : am_G mX3_claim 2 := ⟨rfl, by decide +kernel, am_t2 187 rfl rfl, am_t1 7 rfl rfl, ⟨by decide +kernel, by decide +kernel⟩, by decide +kernel⟩
theorem gX3_claimAlone : am_G mX3_claimAlone 0 := ⟨rfl, by decide +kernel, am_t2 191 rfl rfl, am_t1 7 rfl rfl, ⟨by decide +kernel, by decide +kernel⟩, by decide +kernel⟩
theorem gX6_settle : am_G mX6_settle 1 := ⟨rfl, by decide +kernel, am_t2 196 rfl rfl, am_t1 2 rfl rfl, ⟨by decide +kernel, by decide +kernel⟩, by decide +kernel⟩
theorem gX5_isTouched : am_G mX5_isTouched 1 := ⟨rfl, by decide +kernel, am_t2 200 rfl rfl, am_t1 3 rfl rfl, ⟨by decide +kernel, by decide +kernel⟩, by decide +kernel⟩
theorem gX6_stepFor : am_G mX6_stepFor 1 := ⟨rfl, by decide +kernel, am_t2 203 rfl rfl, am_t1 2 rfl rfl, ⟨by decide +kernel, by decide +kernel⟩, by decide +kernel⟩
theorem gJ6_compare_7cf53 : am_G mJ6_compare_7cf53 2 := ⟨rfl, by decide +kernel, am_t2 206 rfl rfl, am_t1 26 rfl rfl, ⟨by decide +kernel, by decide +kernel⟩, by decide +kernel⟩
theorem gX6_forgetWaits : am_G mX6_forgetWaits 0 := ⟨rfl, by decide +kernel, am_t2 210 rfl rfl, am_t1 2 rfl rfl, ⟨by decide +kernel, by decide +kernel⟩, by decide +kernel⟩
theorem gX5_look : am_G mX5_look 1 := ⟨rfl, by decide +kernel, am_t2 214 rfl rfl, am_t1 3 rfl rfl, ⟨by decide +kernel, by decide +kernel⟩, by decide +kernel⟩
theorem gX6_signalOf : am_G mX6_signalOf 1 := ⟨rfl, by decide +kernel, am_t2 218 rfl rfl, am_t1 2 rfl rfl, ⟨by decide +kernel, by decide +kernel⟩, by decide +kernel⟩
theorem gX6_chargeOf : am_G mX6_chargeOf 1 := ⟨rfl, by decide +kernel, am_t2 222 rfl rfl, am_t1 2 rfl rfl, ⟨by decide +kernel, by decide +kernel⟩, by decide +kernel⟩
theorem gX5_measureRegion : am_G mX5_measureRegion 1 := ⟨rfl, by decide +kernel, am_t2 227 rfl rfl, am_t1 3 rfl rfl, ⟨by decide +kernel, by decide +kernel⟩, by decide +kernel⟩
theorem gX5_link : am_G mX5_link 3 := ⟨rfl, by decide +kernel, am_t2 231 rfl rfl, am_t1 3 rfl rfl, ⟨by decide +kernel, by decide +kernel⟩, by decide +kernel⟩
theorem gX5_findPeaks : am_G mX5_findPeaks 0 := ⟨rfl, by decide +kernel, am_t2 235 rfl rfl, am_t1 3 rfl rfl, ⟨by decide +kernel, by decide +kernel⟩, by decide +kernel⟩
theorem gX5_isSummit : am_G mX5_isSummit 1 := ⟨rfl, by decide +kernel, am_t2 239 rfl rfl, am_t1 3 rfl rfl, ⟨by decide +kernel, by decide +kernel⟩, by decide +kernel⟩
theorem gX5_placeOf : am_G mX5_placeOf 2 := ⟨rfl, by decide +kernel, am_t3 9 rfl rfl, am_t1 3 rfl rfl, ⟨by decide +kernel, by decide +kernel⟩, by decide +kernel⟩
theorem gX5_humNow : am_G mX5_humNow 0 := ⟨rfl, by decide +kernel, am_t3 15 rfl rfl, am_t1 3 rfl rfl, ⟨by decide +kernel, by decide +kernel⟩, by decide +kernel⟩
theorem gX3_countContacts : am_G mX3_countContacts 0 := ⟨rfl, by decide +kernel, am_t3 22 rfl rfl, am_t1 7 rfl rfl, ⟨by decide +kernel, by decide +kernel⟩, by decide +kernel⟩
theorem gX7_wipe : am_G mX7_wipe 0 := ⟨rfl, by decide +kernel, am_t3 26 rfl rfl, am_t1 1 rfl rfl, ⟨by decide +kernel, by decide +kernel⟩, by decide +kernel⟩
theorem gX3_cancelAll : am_G mX3_cancelAll 0 := ⟨rfl, by decide +kernel, am_t3 30 rfl rfl, am_t1 7 rfl rfl, ⟨by decide +kernel, by decide +kernel⟩, by decide +kernel⟩
theorem gX6_baseOnHeat : am_G mX6_baseOnHeat 0 := ⟨rfl, by decide +kernel, am_t3 34 rfl rfl, am_t1 2 rfl rfl, ⟨by decide +kernel, by decide +kernel⟩, by decide +kernel⟩
theorem gX7_calmIn : am_G mX7_calmIn 0 := ⟨rfl, by decide +kernel, am_t3 38 rfl rfl, am_t1 1 rfl rfl, ⟨by decide +kernel, by decide +kernel⟩, by decide +kernel⟩
theorem gX6_copyFrom : am_G mX6_copyFrom 1 := ⟨rfl, by decide +kernel, am_t3 42 rfl rfl, am_t1 2 rfl rfl, ⟨by decide +kernel, by decide +kernel⟩, by decide +kernel⟩
theorem gX5_isCalm : am_G mX5_isCalm 0 := ⟨rfl, by decide +kernel, am_t3 46 rfl rfl, am_t1 3 rfl rfl, ⟨by decide +kernel, by decide +kernel⟩, by decide +kernel⟩
theorem gX7_digest : am_G mX7_digest 0 := ⟨rfl, by decide +kernel, am_t3 50 rfl rfl, am_t1 1 rfl rfl, ⟨by decide +kernel, by decide +kernel⟩, by decide +kernel⟩
theorem gX7_manyAnswer : am_G mX7_manyAnswer 1 := ⟨rfl, by decide +kernel, am_t3 55 rfl rfl, am_t1 1 rfl rfl, ⟨by decide +kernel, by decide +kernel⟩, by decide +kernel⟩
theorem gX5_countPalms : am_G mX5_countPalms 0 := ⟨rfl, by decide +kernel, am_t3 59 rfl rfl, am_t1 3 rfl rfl, ⟨by decide +kernel, by decide +kernel⟩, by decide +kernel⟩
theorem gX7_mixed : am_G mX7_mixed 2 := ⟨rfl, by decide +kernel, am_t3 63 rfl rfl, am_t1 1 rfl rfl, ⟨by decide +kernel, by decide +kernel⟩, by decide +kernel⟩
theorem gX7_cellAnswer : am_G mX7_cellAnswer 2 := ⟨rfl, by decide +kernel, am_t3 68 rfl rfl, am_t1 1 rfl rfl, ⟨by decide +kernel, by decide +kernel⟩, by decide +kernel⟩
theorem gX7_peakAnswer : am_G mX7_peakAnswer 2 := ⟨rfl, by decide +kernel, am_t3 74 rfl rfl, am_t1 1 rfl rfl, ⟨by decide +kernel, by decide +kernel⟩, by decide +kernel⟩
theorem gX3_has : am_G mX3_has 1 := ⟨rfl, by decide +kernel, am_t3 80 rfl rfl, am_t1 7 rfl rfl, ⟨by decide +kernel, by decide +kernel⟩, by decide +kernel⟩
theorem gX7_mixedContact : am_G mX7_mixedContact 2 := ⟨rfl, by decide +kernel, am_t3 84 rfl rfl, am_t1 1 rfl rfl, ⟨by decide +kernel, by decide +kernel⟩, by decide +kernel⟩
theorem gX7_contactAnswer : am_G mX7_contactAnswer 2 := ⟨rfl, by decide +kernel, am_t3 87 rfl rfl, am_t1 1 rfl rfl, ⟨by decide +kernel, by decide +kernel⟩, by decide +kernel⟩
theorem gX7_matchIn : am_G mX7_matchIn 2 := ⟨rfl, by decide +kernel, am_t3 91 rfl rfl, am_t1 1 rfl rfl, ⟨by decide +kernel, by decide +kernel⟩, by decide +kernel⟩
theorem gX7_whereAnswer : am_G mX7_whereAnswer 2 := ⟨rfl, by decide +kernel, am_t3 95 rfl rfl, am_t1 1 rfl rfl, ⟨by decide +kernel, by decide +kernel⟩, by decide +kernel⟩
theorem gX7_sixteenths : am_G mX7_sixteenths 1 := ⟨rfl, by decide +kernel, am_t3 98 rfl rfl, am_t1 1 rfl rfl, ⟨by decide +kernel, by decide +kernel⟩, by decide +kernel⟩
theorem gX2_guessAt : am_G mX2_guessAt 2 := ⟨rfl, by decide +kernel, am_t3 103 rfl rfl, am_t1 8 rfl rfl, ⟨by decide +kernel, by decide +kernel⟩, by decide +kernel⟩
theorem gX7_areaAnswer : am_G mX7_areaAnswer 2 := ⟨rfl, by decide +kernel, am_t3 109 rfl rfl, am_t1 1 rfl rfl, ⟨by decide +kernel, by decide +kernel⟩, by decide +kernel⟩
theorem gX1_countOf : am_G mX1_countOf 2 := ⟨rfl, by decide +kernel, am_t3 113 rfl rfl, am_t1 5 rfl rfl, ⟨by decide +kernel, by decide +kernel⟩, by decide +kernel⟩
theorem gX3_contactsIn : am_G mX3_contactsIn 1 := ⟨rfl, by decide +kernel, am_t3 117 rfl rfl, am_t1 7 rfl rfl, ⟨by decide +kernel, by decide +kernel⟩, by decide +kernel⟩
theorem gX7_rowAnswer : am_G mX7_rowAnswer 2 := ⟨rfl, by decide +kernel, am_t3 121 rfl rfl, am_t1 1 rfl rfl, ⟨by decide +kernel, by decide +kernel⟩, by decide +kernel⟩
theorem gX5_signalOfRow : am_G mX5_signalOfRow 1 := ⟨rfl, by decide +kernel, am_t3 125 rfl rfl, am_t1 3 rfl rfl, ⟨by decide +kernel, by decide +kernel⟩, by decide +kernel⟩
theorem gX5_touchedInRow : am_G mX5_touchedInRow 1 := ⟨rfl, by decide +kernel, am_t3 129 rfl rfl, am_t1 3 rfl rfl, ⟨by decide +kernel, by decide +kernel⟩, by decide +kernel⟩
theorem gX5_peaksInRow : am_G mX5_peaksInRow 1 := ⟨rfl, by decide +kernel, am_t3 133 rfl rfl, am_t1 3 rfl rfl, ⟨by decide +kernel, by decide +kernel⟩, by decide +kernel⟩
theorem gX7_area : am_G mX7_area 4 := ⟨rfl, by decide +kernel, am_t3 143 rfl rfl, am_t1 1 rfl rfl, ⟨by decide +kernel, by decide +kernel⟩, by decide +kernel⟩
theorem gX1_tell : am_G mX1_tell 4 := ⟨rfl, by decide +kernel, am_t3 231 rfl rfl, am_t1 5 rfl rfl, ⟨by decide +kernel, by decide +kernel⟩, by decide +kernel⟩
theorem gX7_dial : am_G mX7_dial 1 := ⟨rfl, by decide +kernel, am_t3 238 rfl rfl, am_t1 1 rfl rfl, ⟨by decide +kernel, by decide +kernel⟩, by decide +kernel⟩
theorem gX7_limit : am_G mX7_limit 1 := ⟨rfl, by decide +kernel, am_t4 6 rfl rfl, am_t1 1 rfl rfl, ⟨by decide +kernel, by decide +kernel⟩, by decide +kernel⟩
theorem gX7_heat : am_G mX7_heat 1 := ⟨rfl, by decide +kernel, am_t4 14 rfl rfl, am_t1 1 rfl rfl, ⟨by decide +kernel, by decide +kernel⟩, by decide +kernel⟩
theorem gX7_press : am_G mX7_press 3 := ⟨rfl, by decide +kernel, am_t4 23 rfl rfl, am_t1 1 rfl rfl, ⟨by decide +kernel, by decide +kernel⟩, by decide +kernel⟩
theorem gX7_checkCell : am_G mX7_checkCell 2 := ⟨rfl, by decide +kernel, am_t4 26 rfl rfl, am_t1 1 rfl rfl, ⟨by decide +kernel, by decide +kernel⟩, by decide +kernel⟩
theorem gX7_checkRow : am_G mX7_checkRow 1 := ⟨rfl, by decide +kernel, am_t4 45 rfl rfl, am_t1 1 rfl rfl, ⟨by decide +kernel, by decide +kernel⟩, by decide +kernel⟩
theorem gX7_checkStrength : am_G mX7_checkStrength 1 := ⟨rfl, by decide +kernel, am_t4 49 rfl rfl, am_t1 1 rfl rfl, ⟨by decide +kernel, by decide +kernel⟩, by decide +kernel⟩
theorem gX6_addPress : am_G mX6_addPress 3 := ⟨rfl, by decide +kernel, am_t4 54 rfl rfl, am_t1 2 rfl rfl, ⟨by decide +kernel, by decide +kernel⟩, by decide +kernel⟩
theorem gX7_noise : am_G mX7_noise 2 := ⟨rfl, by decide +kernel, am_t4 63 rfl rfl, am_t1 1 rfl rfl, ⟨by decide +kernel, by decide +kernel⟩, by decide +kernel⟩
theorem gX6_addNoise : am_G mX6_addNoise 2 := ⟨rfl, by decide +kernel, am_t4 68 rfl rfl, am_t1 2 rfl rfl, ⟨by decide +kernel, by decide +kernel⟩, by decide +kernel⟩
theorem gX7_ofCell : am_G mX7_ofCell 3 := ⟨rfl, by decide +kernel, am_t4 75 rfl rfl, am_t1 1 rfl rfl, ⟨by decide +kernel, by decide +kernel⟩, by decide +kernel⟩
theorem gX7_checkWhat : am_G mX7_checkWhat 2 := ⟨rfl, by decide +kernel, am_t4 78 rfl rfl, am_t1 1 rfl rfl, ⟨by decide +kernel, by decide +kernel⟩, by decide +kernel⟩
theorem gX7_ofPeak : am_G mX7_ofPeak 2 := ⟨rfl, by decide +kernel, am_t4 86 rfl rfl, am_t1 1 rfl rfl, ⟨by decide +kernel, by decide +kernel⟩, by decide +kernel⟩
theorem gX7_ofContact : am_G mX7_ofContact 2 := ⟨rfl, by decide +kernel, am_t4 94 rfl rfl, am_t1 1 rfl rfl, ⟨by decide +kernel, by decide +kernel⟩, by decide +kernel⟩
theorem gX7_checkName : am_G mX7_checkName 1 := ⟨rfl, by decide +kernel, am_t4 98 rfl rfl, am_t1 1 rfl rfl, ⟨by decide +kernel, by decide +kernel⟩, by decide +kernel⟩
theorem gX7_where : am_G mX7_where 2 := ⟨rfl, by decide +kernel, am_t4 106 rfl rfl, am_t1 1 rfl rfl, ⟨by decide +kernel, by decide +kernel⟩, by decide +kernel⟩
theorem gX7_apart : am_G mX7_apart 2 := ⟨rfl, by decide +kernel, am_t4 113 rfl rfl, am_t1 1 rfl rfl, ⟨by decide +kernel, by decide +kernel⟩, by decide +kernel⟩
theorem gX7_ofRow : am_G mX7_ofRow 2 := ⟨rfl, by decide +kernel, am_t4 121 rfl rfl, am_t1 1 rfl rfl, ⟨by decide +kernel, by decide +kernel⟩, by decide +kernel⟩
theorem gX7_ofArea : am_G mX7_ofArea 2 := ⟨rfl, by decide +kernel, am_t4 128 rfl rfl, am_t1 1 rfl rfl, ⟨by decide +kernel, by decide +kernel⟩, by decide +kernel⟩
theorem gX7_many : am_G mX7_many 1 := ⟨rfl, by decide +kernel, am_t4 135 rfl rfl, am_t1 1 rfl rfl, ⟨by decide +kernel, by decide +kernel⟩, by decide +kernel⟩
theorem gX7_guess : am_G mX7_guess 3 := ⟨rfl, by decide +kernel, am_t4 142 rfl rfl, am_t1 1 rfl rfl, ⟨by decide +kernel, by decide +kernel⟩, by decide +kernel⟩
theorem gX7_wouldMatch : am_G mX7_wouldMatch 1 := ⟨rfl, by decide +kernel, am_t4 150 rfl rfl, am_t1 1 rfl rfl, ⟨by decide +kernel, by decide +kernel⟩, by decide +kernel⟩
theorem gX7_keepBy : am_G mX7_keepBy 2 := ⟨rfl, by decide +kernel, am_t4 157 rfl rfl, am_t1 1 rfl rfl, ⟨by decide +kernel, by decide +kernel⟩, by decide +kernel⟩
theorem gX7_wouldKeep : am_G mX7_wouldKeep 3 := ⟨rfl, by decide +kernel, am_t4 161 rfl rfl, am_t1 1 rfl rfl, ⟨by decide +kernel, by decide +kernel⟩, by decide +kernel⟩
theorem gX5_peakAt : am_G mX5_peakAt 1 := ⟨rfl, by decide +kernel, am_t4 165 rfl rfl, am_t1 3 rfl rfl, ⟨by decide +kernel, by decide +kernel⟩, by decide +kernel⟩
theorem gX12_init : am_G mX12_init 0 := ⟨rfl, by decide +kernel, am_t4 170 rfl rfl, am_t1 9 rfl rfl, ⟨by decide +kernel, by decide +kernel⟩, by decide +kernel⟩
theorem gJx4a65c_init_da8c8 : am_G mJx4a65c_init_da8c8 0 := ⟨rfl, by decide +kernel, am_t4 178 rfl rfl, am_t1 12 rfl rfl, ⟨by decide +kernel, by decide +kernel⟩, by decide +kernel⟩
theorem gJxc12de_init_da8c8 : am_G mJxc12de_init_da8c8 0 := ⟨rfl, by decide +kernel, am_t4 181 rfl rfl, am_t1 11 rfl rfl, ⟨by decide +kernel, by decide +kernel⟩, by decide +kernel⟩
theorem gJxa1e45_init_da8c8 : am_G mJxa1e45_init_da8c8 0 := ⟨rfl, by decide +kernel, am_t4 184 rfl rfl, am_t1 10 rfl rfl, ⟨by decide +kernel, by decide +kernel⟩, by decide +kernel⟩
theorem gX12_thrown : am_G mX12_thrown 0 := ⟨rfl, by decide +kernel, am_t5 4 rfl rfl, am_t1 9 rfl rfl, ⟨by decide +kernel, by decide +kernel⟩, by decide +kernel⟩
theorem gX12_area : am_G mX12_area 4 := ⟨rfl, by decide +kernel, am_t5 8 rfl rfl, am_t1 9 rfl rfl, ⟨by decide +kernel, by decide +kernel⟩, by decide +kernel⟩
theorem gX12_isIn : am_G mX12_isIn 3 := ⟨rfl, by decide +kernel, am_t5 11 rfl rfl, am_t1 9 rfl rfl, ⟨by decide +kernel, by decide +kernel⟩, by decide +kernel⟩
theorem gX12_start : am_G mX12_start 2 := ⟨rfl, by decide +kernel, am_t5 15 rfl rfl, am_t1 9 rfl rfl, ⟨by decide +kernel, by decide +kernel⟩, by decide +kernel⟩
theorem gX12_refuse : am_G mX12_refuse 2 := ⟨rfl, by decide +kernel, am_t5 19 rfl rfl, am_t1 9 rfl rfl, ⟨by decide +kernel, by decide +kernel⟩, by decide +kernel⟩
theorem gJx4a65c_size_8abf5 : am_G mJx4a65c_size_8abf5 0 := ⟨rfl, by decide +kernel, am_t5 23 rfl rfl, am_t1 12 rfl rfl, ⟨by decide +kernel, by decide +kernel⟩, by decide +kernel⟩
theorem gX8_init : am_G mX8_init 4 := ⟨rfl, by decide +kernel, am_t5 28 rfl rfl, am_t1 18 rfl rfl, ⟨by decide +kernel, by decide +kernel⟩, by decide +kernel⟩
theorem gJx4a65c_add_9ea2d : am_G mJx4a65c_add_9ea2d 1 := ⟨rfl, by decide +kernel, am_t5 54 rfl rfl, am_t1 12 rfl rfl, ⟨by decide +kernel, by decide +kernel⟩, by decide +kernel⟩
theorem gJx4a65c_add_72be8 : am_G mJx4a65c_add_72be8 3 := ⟨rfl, by decide +kernel, am_t5 58 rfl rfl, am_t1 12 rfl rfl, ⟨by decide +kernel, by decide +kernel⟩, by decide +kernel⟩
theorem gJx4a65c_grow_d5877 : am_G mJx4a65c_grow_d5877 0 := ⟨rfl, by decide +kernel, am_t5 62 rfl rfl, am_t1 12 rfl rfl, ⟨by decide +kernel, by decide +kernel⟩, by decide +kernel⟩
theorem gJx4a65c_grow_92f84 : am_G mJx4a65c_grow_92f84 1 := ⟨rfl, by decide +kernel, am_t5 66 rfl rfl, am_t1 12 rfl rfl, ⟨by decide +kernel, by decide +kernel⟩, by decide +kernel⟩
theorem gX12_dial : am_G mX12_dial 1 := ⟨rfl, by decide +kernel, am_t5 114 rfl rfl, am_t1 9 rfl rfl, ⟨by decide +kernel, by decide +kernel⟩, by decide +kernel⟩
theorem gX12_limit : am_G mX12_limit 1 := ⟨rfl, by decide +kernel, am_t5 118 rfl rfl, am_t1 9 rfl rfl, ⟨by decide +kernel, by decide +kernel⟩, by decide +kernel⟩
theorem gX12_heat : am_G mX12_heat 1 := ⟨rfl, by decide +kernel, am_t5 122 rfl rfl, am_t1 9 rfl rfl, ⟨by decide +kernel, by decide +kernel⟩, by decide +kernel⟩
theorem gX12_press : am_G mX12_press 3 := ⟨rfl, by decide +kernel, am_t5 126 rfl rfl, am_t1 9 rfl rfl, ⟨by decide +kernel, by decide +kernel⟩, by decide +kernel⟩
theorem gX12_isGlass : am_G mX12_isGlass 2 := ⟨rfl, by decide +kernel, am_t5 129 rfl rfl, am_t1 9 rfl rfl, ⟨by decide +kernel, by decide +kernel⟩, by decide +kernel⟩
theorem gX12_pressed : am_G mX12_pressed 4 := ⟨rfl, by decide +kernel, am_t5 133 rfl rfl, am_t1 9 rfl rfl, ⟨by decide +kernel, by decide +kernel⟩, by decide +kernel⟩
theorem gX12_cell : am_G mX12_cell 2 := ⟨rfl, by decide +kernel, am_t5 136 rfl rfl, am_t1 9 rfl rfl, ⟨by decide +kernel, by decide +kernel⟩, by decide +kernel⟩
theorem gX12_noise : am_G mX12_noise 2 := ⟨rfl, by decide +kernel, am_t5 143 rfl rfl, am_t1 9 rfl rfl, ⟨by decide +kernel, by decide +kernel⟩, by decide +kernel⟩
theorem gX12_view : am_G mX12_view 0 := ⟨rfl, by decide +kernel, am_t5 147 rfl rfl, am_t1 9 rfl rfl, ⟨by decide +kernel, by decide +kernel⟩, by decide +kernel⟩
theorem gX12_charges : am_G mX12_charges 0 := ⟨rfl, by decide +kernel, am_t5 153 rfl rfl, am_t1 9 rfl rfl, ⟨by decide +kernel, by decide +kernel⟩, by decide +kernel⟩
theorem gX11_init : am_G mX11_init 2 := ⟨rfl, by decide +kernel, am_t5 156 rfl rfl, am_t1 24 rfl rfl, ⟨by decide +kernel, by decide +kernel⟩, by decide +kernel⟩
theorem gX11_isTouched : am_G mX11_isTouched 1 := ⟨rfl, by decide +kernel, am_t5 161 rfl rfl, am_t1 24 rfl rfl, ⟨by decide +kernel, by decide +kernel⟩, by decide +kernel⟩
theorem gX11_region : am_G mX11_region 3 := ⟨rfl, by decide +kernel, am_t5 165 rfl rfl, am_t1 24 rfl rfl, ⟨by decide +kernel, by decide +kernel⟩, by decide +kernel⟩
theorem gX11_spread : am_G mX11_spread 5 := ⟨rfl, by decide +kernel, am_t5 169 rfl rfl, am_t1 24 rfl rfl, ⟨by decide +kernel, by decide +kernel⟩, by decide +kernel⟩
theorem gX11_isPeak : am_G mX11_isPeak 1 := ⟨rfl, by decide +kernel, am_t5 175 rfl rfl, am_t1 24 rfl rfl, ⟨by decide +kernel, by decide +kernel⟩, by decide +kernel⟩
theorem gX11_hum : am_G mX11_hum 0 := ⟨rfl, by decide +kernel, am_t5 199 rfl rfl, am_t1 24 rfl rfl, ⟨by decide +kernel, by decide +kernel⟩, by decide +kernel⟩
theorem gX12_frame : am_G mX12_frame 0 := ⟨rfl, by decide +kernel, am_t5 204 rfl rfl, am_t1 9 rfl rfl, ⟨by decide +kernel, by decide +kernel⟩, by decide +kernel⟩
theorem gX12_track : am_G mX12_track 1 := ⟨rfl, by decide +kernel, am_t5 208 rfl rfl, am_t1 9 rfl rfl, ⟨by decide +kernel, by decide +kernel⟩, by decide +kernel⟩
theorem gX10_init : am_G mX10_init 2 := ⟨rfl, by decide +kernel, am_t5 213 rfl rfl, am_t1 27 rfl rfl, ⟨by decide +kernel, by decide +kernel⟩, by decide +kernel⟩
theorem gX11_place : am_G mX11_place 2 := ⟨rfl, by decide +kernel, am_t5 218 rfl rfl, am_t1 24 rfl rfl, ⟨by decide +kernel, by decide +kernel⟩, by decide +kernel⟩
theorem gX10_go : am_G mX10_go 4 := ⟨rfl, by decide +kernel, am_t5 222 rfl rfl, am_t1 27 rfl rfl, ⟨by decide +kernel, by decide +kernel⟩, by decide +kernel⟩
theorem gX9_far : am_G mX9_far 2 := ⟨rfl, by decide +kernel, am_t5 227 rfl rfl, am_t1 31 rfl rfl, ⟨by decide +kernel, by decide +kernel⟩, by decide +kernel⟩
theorem gX11_isPalm : am_G mX11_isPalm 1 := ⟨rfl, by decide +kernel, am_t6 17 rfl rfl, am_t1 24 rfl rfl, ⟨by decide +kernel, by decide +kernel⟩, by decide +kernel⟩
theorem gX12_cancel : am_G mX12_cancel 1 := ⟨rfl, by decide +kernel, am_t6 21 rfl rfl, am_t1 9 rfl rfl, ⟨by decide +kernel, by decide +kernel⟩, by decide +kernel⟩
theorem gX12_count : am_G mX12_count 3 := ⟨rfl, by decide +kernel, am_t6 25 rfl rfl, am_t1 9 rfl rfl, ⟨by decide +kernel, by decide +kernel⟩, by decide +kernel⟩
theorem gX9_go : am_G mX9_go 3 := ⟨rfl, by decide +kernel, am_t6 44 rfl rfl, am_t1 31 rfl rfl, ⟨by decide +kernel, by decide +kernel⟩, by decide +kernel⟩
theorem gX12_miss : am_G mX12_miss 1 := ⟨rfl, by decide +kernel, am_t6 64 rfl rfl, am_t1 9 rfl rfl, ⟨by decide +kernel, by decide +kernel⟩, by decide +kernel⟩
theorem gX12_begin : am_G mX12_begin 3 := ⟨rfl, by decide +kernel, am_t6 68 rfl rfl, am_t1 9 rfl rfl, ⟨by decide +kernel, by decide +kernel⟩, by decide +kernel⟩
theorem gX12_areaOf : am_G mX12_areaOf 1 := ⟨rfl, by decide +kernel, am_t6 73 rfl rfl, am_t1 9 rfl rfl, ⟨by decide +kernel, by decide +kernel⟩, by decide +kernel⟩
theorem gX9_init : am_G mX9_init 3 := ⟨rfl, by decide +kernel, am_t6 76 rfl rfl, am_t1 31 rfl rfl, ⟨by decide +kernel, by decide +kernel⟩, by decide +kernel⟩
theorem gX9_to : am_G mX9_to 1 := ⟨rfl, by decide +kernel, am_t6 139 rfl rfl, am_t1 31 rfl rfl, ⟨by decide +kernel, by decide +kernel⟩, by decide +kernel⟩
theorem gX12_claims : am_G mX12_claims 0 := ⟨rfl, by decide +kernel, am_t6 143 rfl rfl, am_t1 9 rfl rfl, ⟨by decide +kernel, by decide +kernel⟩, by decide +kernel⟩
theorem gX12_mayClaim : am_G mX12_mayClaim 1 := ⟨rfl, by decide +kernel, am_t6 147 rfl rfl, am_t1 9 rfl rfl, ⟨by decide +kernel, by decide +kernel⟩, by decide +kernel⟩
theorem gX12_claim : am_G mX12_claim 2 := ⟨rfl, by decide +kernel, am_t6 153 rfl rfl, am_t1 9 rfl rfl, ⟨by decide +kernel, by decide +kernel⟩, by decide +kernel⟩
theorem gX11_drift : am_G mX11_drift 1 := ⟨rfl, by decide +kernel, am_t6 158 rfl rfl, am_t1 24 rfl rfl, ⟨by decide +kernel, by decide +kernel⟩, by decide +kernel⟩
theorem gJ6_signum_0f7a4 : am_G mJ6_signum_0f7a4 1 := ⟨rfl, by decide +kernel, am_t6 162 rfl rfl, am_t1 26 rfl rfl, ⟨by decide +kernel, by decide +kernel⟩, by decide +kernel⟩
theorem gX12_clean : am_G mX12_clean 0 := ⟨rfl, by decide +kernel, am_t6 166 rfl rfl, am_t1 9 rfl rfl, ⟨by decide +kernel, by decide +kernel⟩, by decide +kernel⟩
theorem gX12_contactsNow : am_G mX12_contactsNow 0 := ⟨rfl, by decide +kernel, am_t6 170 rfl rfl, am_t1 9 rfl rfl, ⟨by decide +kernel, by decide +kernel⟩, by decide +kernel⟩
theorem gX12_wipe : am_G mX12_wipe 0 := ⟨rfl, by decide +kernel, am_t6 174 rfl rfl, am_t1 9 rfl rfl, ⟨by decide +kernel, by decide +kernel⟩, by decide +kernel⟩
theorem gX12_ofCell : am_G mX12_ofCell 3 := ⟨rfl, by decide +kernel, am_t6 178 rfl rfl, am_t1 9 rfl rfl, ⟨by decide +kernel, by decide +kernel⟩, by decide +kernel⟩
theorem gX12_ofCellNow : am_G mX12_ofCellNow 3 := ⟨rfl, by decide +kernel, am_t6 182 rfl rfl, am_t1 9 rfl rfl, ⟨by decide +kernel, by decide +kernel⟩, by decide +kernel⟩
theorem gX12_ofPeak : am_G mX12_ofPeak 2 := ⟨rfl, by decide +kernel, am_t6 187 rfl rfl, am_t1 9 rfl rfl, ⟨by decide +kernel, by decide +kernel⟩, by decide +kernel⟩
theorem gX12_ofPeakNow : am_G mX12_ofPeakNow 3 := ⟨rfl, by decide +kernel, am_t6 190 rfl rfl, am_t1 9 rfl rfl, ⟨by decide +kernel, by decide +kernel⟩, by decide +kernel⟩
theorem gX12_ofContact : am_G mX12_ofContact 2 := ⟨rfl, by decide +kernel, am_t6 194 rfl rfl, am_t1 9 rfl rfl, ⟨by decide +kernel, by decide +kernel⟩, by decide +kernel⟩
theorem gX12_isNone : am_G mX12_isNone 1 := ⟨rfl, by decide +kernel, am_t6 198 rfl rfl, am_t1 9 rfl rfl, ⟨by decide +kernel, by decide +kernel⟩, by decide +kernel⟩
theorem gX12_ofContactNow : am_G mX12_ofContactNow 2 := ⟨rfl, by decide +kernel, am_t6 201 rfl rfl, am_t1 9 rfl rfl, ⟨by decide +kernel, by decide +kernel⟩, by decide +kernel⟩
theorem gX12_where : am_G mX12_where 2 := ⟨rfl, by decide +kernel, am_t6 205 rfl rfl, am_t1 9 rfl rfl, ⟨by decide +kernel, by decide +kernel⟩, by decide +kernel⟩
theorem gX12_whereNow : am_G mX12_whereNow 2 := ⟨rfl, by decide +kernel, am_t6 208 rfl rfl, am_t1 9 rfl rfl, ⟨by decide +kernel, by decide +kernel⟩, by decide +kernel⟩
theorem gX12_apart : am_G mX12_apart 2 := ⟨rfl, by decide +kernel, am_t6 212 rfl rfl, am_t1 9 rfl rfl, ⟨by decide +kernel, by decide +kernel⟩, by decide +kernel⟩
theorem gX12_ofRow : am_G mX12_ofRow 2 := ⟨rfl, by decide +kernel, am_t6 216 rfl rfl, am_t1 9 rfl rfl, ⟨by decide +kernel, by decide +kernel⟩, by decide +kernel⟩
theorem gX12_ofRowNow : am_G mX12_ofRowNow 3 := ⟨rfl, by decide +kernel, am_t6 219 rfl rfl, am_t1 9 rfl rfl, ⟨by decide +kernel, by decide +kernel⟩, by decide +kernel⟩
theorem gX12_ofArea : am_G mX12_ofArea 2 := ⟨rfl, by decide +kernel, am_t6 223 rfl rfl, am_t1 9 rfl rfl, ⟨by decide +kernel, by decide +kernel⟩, by decide +kernel⟩
theorem gX12_ofAreaNow : am_G mX12_ofAreaNow 2 := ⟨rfl, by decide +kernel, am_t6 227 rfl rfl, am_t1 9 rfl rfl, ⟨by decide +kernel, by decide +kernel⟩, by decide +kernel⟩
theorem gX12_many : am_G mX12_many 1 := ⟨rfl, by decide +kernel, am_t6 231 rfl rfl, am_t1 9 rfl rfl, ⟨by decide +kernel, by decide +kernel⟩, by decide +kernel⟩
theorem gX12_manyNow : am_G mX12_manyNow 2 := ⟨rfl, by decide +kernel, am_t6 235 rfl rfl, am_t1 9 rfl rfl, ⟨by decide +kernel, by decide +kernel⟩, by decide +kernel⟩
theorem gX12_guess : am_G mX12_guess 3 := ⟨rfl, by decide +kernel, am_t6 239 rfl rfl, am_t1 9 rfl rfl, ⟨by decide +kernel, by decide +kernel⟩, by decide +kernel⟩
theorem gX12_guessNow : am_G mX12_guessNow 3 := ⟨rfl, by decide +kernel, am_t7 2 rfl rfl, am_t1 9 rfl rfl, ⟨by decide +kernel, by decide +kernel⟩, by decide +kernel⟩
theorem gX12_wouldMatch : am_G mX12_wouldMatch 1 := ⟨rfl, by decide +kernel, am_t7 12 rfl rfl, am_t1 9 rfl rfl, ⟨by decide +kernel, by decide +kernel⟩, by decide +kernel⟩
theorem gX12_wouldMatchNow : am_G mX12_wouldMatchNow 2 := ⟨rfl, by decide +kernel, am_t7 16 rfl rfl, am_t1 9 rfl rfl, ⟨by decide +kernel, by decide +kernel⟩, by decide +kernel⟩
theorem gX12_calmIn : am_G mX12_calmIn 0 := ⟨rfl, by decide +kernel, am_t7 20 rfl rfl, am_t1 9 rfl rfl, ⟨by decide +kernel, by decide +kernel⟩, by decide +kernel⟩
theorem gX12_calmInNow : am_G mX12_calmInNow 0 := ⟨rfl, by decide +kernel, am_t7 24 rfl rfl, am_t1 9 rfl rfl, ⟨by decide +kernel, by decide +kernel⟩, by decide +kernel⟩
theorem gX12_keepBy : am_G mX12_keepBy 2 := ⟨rfl, by decide +kernel, am_t7 28 rfl rfl, am_t1 9 rfl rfl, ⟨by decide +kernel, by decide +kernel⟩, by decide +kernel⟩
theorem gX12_keepByNow : am_G mX12_keepByNow 2 := ⟨rfl, by decide +kernel, am_t7 32 rfl rfl, am_t1 9 rfl rfl, ⟨by decide +kernel, by decide +kernel⟩, by decide +kernel⟩
theorem gX12_digest : am_G mX12_digest 0 := ⟨rfl, by decide +kernel, am_t7 36 rfl rfl, am_t1 9 rfl rfl, ⟨by decide +kernel, by decide +kernel⟩, by decide +kernel⟩
theorem gX12_add : am_G mX12_add 2 := ⟨rfl, by decide +kernel, am_t7 40 rfl rfl, am_t1 9 rfl rfl, ⟨by decide +kernel, by decide +kernel⟩, by decide +kernel⟩
theorem gX12_digestContact : am_G mX12_digestContact 3 := ⟨rfl, by decide +kernel, am_t7 45 rfl rfl, am_t1 9 rfl rfl, ⟨by decide +kernel, by decide +kernel⟩, by decide +kernel⟩
end
section
theorem uX0 : ∀ w ∈ u_ws RX0 TX0 5, w ∈ am_W := am_ins [205, 207, 209, 211, 213] (by decide +kernel) (by decide +kernel)
theorem uX1 : ∀ w ∈ u_ws RX1 TX1 2, w ∈ am_W := am_ins [219, 221] (by decide +kernel) (by decide +kernel)
theorem uX2 : ∀ w ∈ u_ws RX2 TX2 16, w ∈ am_W := am_ins [274, 276, 278, 280, 282, 284, 286, 288, 290, 292, 294, 296, 298, 300, 302, 304] (by decide +kernel) (by decide +kernel)
theorem uX3 : ∀ w ∈ u_ws RX3 TX3 5, w ∈ am_W := am_ins [317, 319, 321, 323, 325] (by decide +kernel) (by decide +kernel)
theorem uX4 : ∀ w ∈ u_ws RX4 TX4 3, w ∈ am_W := am_ins [174, 176, 178] (by decide +kernel) (by decide +kernel)
theorem uX5 : ∀ w ∈ u_ws RX5 TX5 8, w ∈ am_W := am_ins [148, 150, 152, 154, 156, 158, 160, 162] (by decide +kernel) (by decide +kernel)
theorem uX6 : ∀ w ∈ u_ws RX6 TX6 3, w ∈ am_W := am_ins [110, 112, 114] (by decide +kernel) (by decide +kernel)
theorem uX7 : ∀ w ∈ u_ws RX7 TX7 11, w ∈ am_W := am_ins [339, 341, 343, 345, 347, 349, 351, 353, 355, 357, 359] (by decide +kernel) (by decide +kernel)
theorem uX8 : ∀ w ∈ u_ws RX8 TX8 5, w ∈ am_W := am_ins [1059, 1061, 1063, 1065, 1067] (by decide +kernel) (by decide +kernel)
theorem uX9 : ∀ w ∈ u_ws RX9 TX9 15, w ∈ am_W := am_ins [1364, 1366, 1368, 1370, 1372, 1374, 1376, 1378, 1380, 1382, 1384, 1386, 1388, 1390, 1392] (by decide +kernel) (by decide +kernel)
theorem uX10 : ∀ w ∈ u_ws RX10 TX10 8, w ∈ am_W := am_ins [1256, 1258, 1260, 1262, 1264, 1266, 1268, 1270] (by decide +kernel) (by decide +kernel)
theorem uX11 : ∀ w ∈ u_ws RX11 TX11 4, w ∈ am_W := am_ins [1205, 1207, 1209, 1211] (by decide +kernel) (by decide +kernel)
theorem uX12 : ∀ w ∈ u_ws RX12 TX12 13, w ∈ am_W := am_ins [993, 995, 997, 999, 1001, 1003, 1005, 1007, 1009, 1011, 1013, 1015, 1017] (by decide +kernel) (by decide +kernel)
theorem uJx4a65c : ∀ w ∈ u_ws RJx4a65c TJx4a65c 3, w ∈ am_W := am_ins [976, 972, 974] (by decide +kernel) (by decide +kernel)
theorem qX7_10 : am_Ff RX7 10 7 0 (.object "Palmward$Sheet") := ⟨RX7, TX7, 11, tyX7, rfl, by decide, am_t2 29 rfl rfl, uX7, tyX7_ok, nmX7, rfl, rfl, by decide +kernel⟩
theorem qX7_19 : am_Ff RX7 19 7 1 (.object "Palmward$Picture") := ⟨RX7, TX7, 11, tyX7, rfl, by decide, am_t2 30 rfl rfl, uX7, tyX7_ok, nmX7, rfl, rfl, by decide +kernel⟩
theorem qX7_23 : am_Ff RX7 23 7 2 (.object "Palmward$Sheet") := ⟨RX7, TX7, 11, tyX7, rfl, by decide, am_t2 31 rfl rfl, uX7, tyX7_ok, nmX7, rfl, rfl, by decide +kernel⟩
theorem qX7_26 : am_Ff RX7 26 7 3 (.object "Palmward$Picture") := ⟨RX7, TX7, 11, tyX7, rfl, by decide, am_t2 32 rfl rfl, uX7, tyX7_ok, nmX7, rfl, rfl, by decide +kernel⟩
theorem qX7_32 : am_Ff RX7 32 7 4 (.object "Palmward$Pairing") := ⟨RX7, TX7, 11, tyX7, rfl, by decide, am_t2 33 rfl rfl, uX7, tyX7_ok, nmX7, rfl, rfl, by decide +kernel⟩
theorem qX7_39 : am_Ff RX7 39 7 5 (.object "Palmward$Areas") := ⟨RX7, TX7, 11, tyX7, rfl, by decide, am_t2 34 rfl rfl, uX7, tyX7_ok, nmX7, rfl, rfl, by decide +kernel⟩
theorem fX7_39 : am_F RX7 39 7 5 := ⟨RX7, TX7, 11, rfl, by decide, am_t2 34 rfl rfl, uX7⟩
theorem qX7_48 : am_Ff RX7 48 7 6 (.object "Palmward$Hand") := ⟨RX7, TX7, 11, tyX7, rfl, by decide, am_t2 35 rfl rfl, uX7, tyX7_ok, nmX7, rfl, rfl, by decide +kernel⟩
theorem pX7_52 : am_Fp RX7 52 7 7 .int := ⟨RX7, TX7, 11, tyX7, rfl, by decide, am_t2 36 rfl rfl, uX7, tyX7_ok, nmX7, rfl, by decide +kernel⟩
theorem pX7_56 : am_Fp RX7 56 7 8 .int := ⟨RX7, TX7, 11, tyX7, rfl, by decide, am_t2 37 rfl rfl, uX7, tyX7_ok, nmX7, rfl, by decide +kernel⟩
theorem qX6_9 : am_Ff RX6 9 6 0 (.array .int) := ⟨RX6, TX6, 3, tyX6, rfl, by decide, am_t1 46 rfl rfl, uX6, tyX6_ok, nmX6, rfl, rfl, by decide +kernel⟩
theorem qX6_15 : am_Ff RX6 15 6 1 (.array .int) := ⟨RX6, TX6, 3, tyX6, rfl, by decide, am_t1 47 rfl rfl, uX6, tyX6_ok, nmX6, rfl, rfl, by decide +kernel⟩
theorem qX5_9 : am_Ff RX5 9 5 0 (.array .int) := ⟨RX5, TX5, 8, tyX5, rfl, by decide, am_t1 65 rfl rfl, uX5, tyX5_ok, nmX5, rfl, rfl, by decide +kernel⟩
theorem qX5_15 : am_Ff RX5 15 5 1 (.array .int) := ⟨RX5, TX5, 8, tyX5, rfl, by decide, am_t1 68 rfl rfl, uX5, tyX5_ok, nmX5, rfl, rfl, by decide +kernel⟩
theorem qX5_18 : am_Ff RX5 18 5 2 (.array .int) := ⟨RX5, TX5, 8, tyX5, rfl, by decide, am_t1 71 rfl rfl, uX5, tyX5_ok, nmX5, rfl, rfl, by decide +kernel⟩
theorem qX5_21 : am_Ff RX5 21 5 3 (.array .int) := ⟨RX5, TX5, 8, tyX5, rfl, by decide, am_t1 74 rfl rfl, uX5, tyX5_ok, nmX5, rfl, rfl, by decide +kernel⟩
theorem qX5_24 : am_Ff RX5 24 5 4 (.array .int) := ⟨RX5, TX5, 8, tyX5, rfl, by decide, am_t1 78 rfl rfl, uX5, tyX5_ok, nmX5, rfl, rfl, by decide +kernel⟩
theorem qX5_27 : am_Ff RX5 27 5 5 (.array .int) := ⟨RX5, TX5, 8, tyX5, rfl, by decide, am_t1 82 rfl rfl, uX5, tyX5_ok, nmX5, rfl, rfl, by decide +kernel⟩
theorem qX4_11 : am_Ff RX4 11 4 0 (.array .long) := ⟨RX4, TX4, 3, tyX4, rfl, by decide, am_t1 112 rfl rfl, uX4, tyX4_ok, nmX4, rfl, rfl, by decide +kernel⟩
theorem qX4_15 : am_Ff RX4 15 4 1 (.array .long) := ⟨RX4, TX4, 3, tyX4, rfl, by decide, am_t1 113 rfl rfl, uX4, tyX4_ok, nmX4, rfl, rfl, by decide +kernel⟩
theorem qX1_11 : am_Ff RX1 11 1 0 (.array (.object "Palmward$Area")) := ⟨RX1, TX1, 2, tyX1, rfl, by decide, am_t1 157 rfl rfl, uX1, tyX1_ok, nmX1, rfl, rfl, by decide +kernel⟩
theorem fX1_11 : am_F RX1 11 1 0 := ⟨RX1, TX1, 2, rfl, by decide, am_t1 157 rfl rfl, uX1⟩
theorem qX0_9 : am_Ff RX0 9 0 4 (.array .int) := ⟨RX0, TX0, 5, tyX0, rfl, by decide, am_t1 144 rfl rfl, uX0, tyX0_ok, nmX0, rfl, rfl, by decide +kernel⟩
theorem qX3_11 : am_Ff RX3 11 3 0 (.array (.object "Palmward$Contact")) := ⟨RX3, TX3, 5, tyX3, rfl, by decide, am_t2 9 rfl rfl, uX3, tyX3_ok, nmX3, rfl, rfl, by decide +kernel⟩
theorem qX3_17 : am_Ff RX3 17 3 1 (.object "Palmward$Areas") := ⟨RX3, TX3, 5, tyX3, rfl, by decide, am_t2 11 rfl rfl, uX3, tyX3_ok, nmX3, rfl, rfl, by decide +kernel⟩
theorem fX3_11 : am_F RX3 11 3 0 := ⟨RX3, TX3, 5, rfl, by decide, am_t2 9 rfl rfl, uX3⟩
theorem qX2_9 : am_Ff RX2 9 2 15 (.array .float) := ⟨RX2, TX2, 16, tyX2, rfl, by decide, am_t1 213 rfl rfl, uX2, tyX2_ok, nmX2, rfl, rfl, by decide +kernel⟩
theorem fX7_19 : am_F RX7 19 7 1 := ⟨RX7, TX7, 11, rfl, by decide, am_t2 30 rfl rfl, uX7⟩
theorem fX7_115 : am_F RX7 115 5 7 := ⟨RX5, TX5, 8, rfl, by decide, am_t1 88 rfl rfl, uX5⟩
theorem fX7_56 : am_F RX7 56 7 8 := ⟨RX7, TX7, 11, rfl, by decide, am_t2 37 rfl rfl, uX7⟩
theorem fX7_118 : am_F RX7 118 7 10 := ⟨RX7, TX7, 11, rfl, by decide, am_t2 39 rfl rfl, uX7⟩
theorem pX7_118 : am_Fp RX7 118 7 10 .int := ⟨RX7, TX7, 11, tyX7, rfl, by decide, am_t2 39 rfl rfl, uX7, tyX7_ok, nmX7, rfl, by decide +kernel⟩
theorem fX7_121 : am_F RX7 121 7 9 := ⟨RX7, TX7, 11, rfl, by decide, am_t2 38 rfl rfl, uX7⟩
theorem pX7_121 : am_Fp RX7 121 7 9 .int := ⟨RX7, TX7, 11, tyX7, rfl, by decide, am_t2 38 rfl rfl, uX7, tyX7_ok, nmX7, rfl, by decide +kernel⟩
theorem fX7_32 : am_F RX7 32 7 4 := ⟨RX7, TX7, 11, rfl, by decide, am_t2 33 rfl rfl, uX7⟩
theorem fX7_48 : am_F RX7 48 7 6 := ⟨RX7, TX7, 11, rfl, by decide, am_t2 35 rfl rfl, uX7⟩
theorem fX7_124 : am_F RX7 124 3 0 := ⟨RX3, TX3, 5, rfl, by decide, am_t2 10 rfl rfl, uX3⟩
theorem fX7_52 : am_F RX7 52 7 7 := ⟨RX7, TX7, 11, rfl, by decide, am_t2 36 rfl rfl, uX7⟩
theorem fX7_10 : am_F RX7 10 7 0 := ⟨RX7, TX7, 11, rfl, by decide, am_t2 29 rfl rfl, uX7⟩
theorem fX4_11 : am_F RX4 11 4 0 := ⟨RX4, TX4, 3, rfl, by decide, am_t1 112 rfl rfl, uX4⟩
theorem fX4_20 : am_F RX4 20 5 6 := ⟨RX5, TX5, 8, rfl, by decide, am_t1 83 rfl rfl, uX5⟩
theorem fX4_15 : am_F RX4 15 4 1 := ⟨RX4, TX4, 3, rfl, by decide, am_t1 113 rfl rfl, uX4⟩
theorem pX4_33 : am_Fp RX4 33 4 2 .long := ⟨RX4, TX4, 3, tyX4, rfl, by decide, am_t1 114 rfl rfl, uX4, tyX4_ok, nmX4, rfl, by decide +kernel⟩
theorem fX4_33 : am_F RX4 33 4 2 := ⟨RX4, TX4, 3, rfl, by decide, am_t1 114 rfl rfl, uX4⟩
theorem fX4_51 : am_F RX4 51 5 3 := ⟨RX5, TX5, 8, rfl, by decide, am_t1 75 rfl rfl, uX5⟩
theorem fX4_55 : am_F RX4 55 2 2 := ⟨RX2, TX2, 16, rfl, by decide, am_t1 183 rfl rfl, uX2⟩
theorem fX4_60 : am_F RX4 60 5 4 := ⟨RX5, TX5, 8, rfl, by decide, am_t1 79 rfl rfl, uX5⟩
theorem fX4_63 : am_F RX4 63 2 3 := ⟨RX2, TX2, 16, rfl, by decide, am_t1 186 rfl rfl, uX2⟩
theorem fX4_66 : am_F RX4 66 2 0 := ⟨RX2, TX2, 16, rfl, by decide, am_t1 180 rfl rfl, uX2⟩
theorem fX3_70 : am_F RX3 70 5 6 := ⟨RX5, TX5, 8, rfl, by decide, am_t1 85 rfl rfl, uX5⟩
theorem fX3_22 : am_F RX3 22 2 0 := ⟨RX2, TX2, 16, rfl, by decide, am_t1 179 rfl rfl, uX2⟩
theorem fX3_79 : am_F RX3 79 5 3 := ⟨RX5, TX5, 8, rfl, by decide, am_t1 76 rfl rfl, uX5⟩
theorem fX3_83 : am_F RX3 83 5 4 := ⟨RX5, TX5, 8, rfl, by decide, am_t1 80 rfl rfl, uX5⟩
theorem fX5_15 : am_F RX5 15 5 1 := ⟨RX5, TX5, 8, rfl, by decide, am_t1 68 rfl rfl, uX5⟩
theorem fX5_18 : am_F RX5 18 5 2 := ⟨RX5, TX5, 8, rfl, by decide, am_t1 71 rfl rfl, uX5⟩
theorem pX3_22 : am_Fp RX3 22 2 0 .boolean := ⟨RX2, TX2, 16, tyX2, rfl, by decide, am_t1 179 rfl rfl, uX2, tyX2_ok, nmX2, rfl, by decide +kernel⟩
theorem fX3_52 : am_F RX3 52 3 4 := ⟨RX3, TX3, 5, rfl, by decide, am_t2 16 rfl rfl, uX3⟩
theorem pX3_52 : am_Fp RX3 52 3 4 .int := ⟨RX3, TX3, 5, tyX3, rfl, by decide, am_t2 16 rfl rfl, uX3, tyX3_ok, nmX3, rfl, by decide +kernel⟩
theorem fX3_55 : am_F RX3 55 2 6 := ⟨RX2, TX2, 16, rfl, by decide, am_t1 195 rfl rfl, uX2⟩
theorem fX3_17 : am_F RX3 17 3 1 := ⟨RX3, TX3, 5, rfl, by decide, am_t2 11 rfl rfl, uX3⟩
theorem fX3_26 : am_F RX3 26 2 7 := ⟨RX2, TX2, 16, rfl, by decide, am_t1 198 rfl rfl, uX2⟩
theorem fX1_18 : am_F RX1 18 1 1 := ⟨RX1, TX1, 2, rfl, by decide, am_t1 158 rfl rfl, uX1⟩
theorem fX1_38 : am_F RX1 38 0 4 := ⟨RX0, TX0, 5, rfl, by decide, am_t1 145 rfl rfl, uX0⟩
theorem pX2_19 : am_Fp RX2 19 2 1 .boolean := ⟨RX2, TX2, 16, tyX2, rfl, by decide, am_t1 181 rfl rfl, uX2, tyX2_ok, nmX2, rfl, by decide +kernel⟩
theorem pX2_22 : am_Fp RX2 22 2 2 .int := ⟨RX2, TX2, 16, tyX2, rfl, by decide, am_t1 182 rfl rfl, uX2, tyX2_ok, nmX2, rfl, by decide +kernel⟩
theorem pX2_26 : am_Fp RX2 26 2 3 .int := ⟨RX2, TX2, 16, tyX2, rfl, by decide, am_t1 185 rfl rfl, uX2, tyX2_ok, nmX2, rfl, by decide +kernel⟩
theorem fX2_29 : am_F RX2 29 2 4 := ⟨RX2, TX2, 16, rfl, by decide, am_t1 188 rfl rfl, uX2⟩
theorem pX2_29 : am_Fp RX2 29 2 4 .int := ⟨RX2, TX2, 16, tyX2, rfl, by decide, am_t1 188 rfl rfl, uX2, tyX2_ok, nmX2, rfl, by decide +kernel⟩
theorem pX2_32 : am_Fp RX2 32 2 5 .int := ⟨RX2, TX2, 16, tyX2, rfl, by decide, am_t1 191 rfl rfl, uX2, tyX2_ok, nmX2, rfl, by decide +kernel⟩
theorem fX2_41 : am_F RX2 41 2 8 := ⟨RX2, TX2, 16, rfl, by decide, am_t1 200 rfl rfl, uX2⟩
theorem pX2_48 : am_Fp RX2 48 2 10 .float := ⟨RX2, TX2, 16, tyX2, rfl, by decide, am_t1 204 rfl rfl, uX2, tyX2_ok, nmX2, rfl, by decide +kernel⟩
theorem fX2_45 : am_F RX2 45 2 9 := ⟨RX2, TX2, 16, rfl, by decide, am_t1 202 rfl rfl, uX2⟩
theorem pX2_51 : am_Fp RX2 51 2 11 .float := ⟨RX2, TX2, 16, tyX2, rfl, by decide, am_t1 206 rfl rfl, uX2, tyX2_ok, nmX2, rfl, by decide +kernel⟩
theorem fX2_48 : am_F RX2 48 2 10 := ⟨RX2, TX2, 16, rfl, by decide, am_t1 204 rfl rfl, uX2⟩
theorem pX2_41 : am_Fp RX2 41 2 8 .float := ⟨RX2, TX2, 16, tyX2, rfl, by decide, am_t1 200 rfl rfl, uX2, tyX2_ok, nmX2, rfl, by decide +kernel⟩
theorem fX2_51 : am_F RX2 51 2 11 := ⟨RX2, TX2, 16, rfl, by decide, am_t1 206 rfl rfl, uX2⟩
theorem pX2_45 : am_Fp RX2 45 2 9 .float := ⟨RX2, TX2, 16, tyX2, rfl, by decide, am_t1 202 rfl rfl, uX2, tyX2_ok, nmX2, rfl, by decide +kernel⟩
theorem fX2_57 : am_F RX2 57 2 13 := ⟨RX2, TX2, 16, rfl, by decide, am_t1 211 rfl rfl, uX2⟩
theorem fX2_60 : am_F RX2 60 2 14 := ⟨RX2, TX2, 16, rfl, by decide, am_t1 212 rfl rfl, uX2⟩
theorem fX2_54 : am_F RX2 54 2 12 := ⟨RX2, TX2, 16, rfl, by decide, am_t1 208 rfl rfl, uX2⟩
theorem pX2_54 : am_Fp RX2 54 2 12 .float := ⟨RX2, TX2, 16, tyX2, rfl, by decide, am_t1 208 rfl rfl, uX2, tyX2_ok, nmX2, rfl, by decide +kernel⟩
theorem fX3_92 : am_F RX3 92 2 5 := ⟨RX2, TX2, 16, rfl, by decide, am_t1 192 rfl rfl, uX2⟩
theorem fX2_32 : am_F RX2 32 2 5 := ⟨RX2, TX2, 16, rfl, by decide, am_t1 191 rfl rfl, uX2⟩
theorem fX3_98 : am_F RX3 98 3 3 := ⟨RX3, TX3, 5, rfl, by decide, am_t2 14 rfl rfl, uX3⟩
theorem pX3_98 : am_Fp RX3 98 3 3 .int := ⟨RX3, TX3, 5, tyX3, rfl, by decide, am_t2 14 rfl rfl, uX3, tyX3_ok, nmX3, rfl, by decide +kernel⟩
theorem fX3_101 : am_F RX3 101 2 4 := ⟨RX2, TX2, 16, rfl, by decide, am_t1 189 rfl rfl, uX2⟩
theorem fX3_112 : am_F RX3 112 5 2 := ⟨RX5, TX5, 8, rfl, by decide, am_t1 72 rfl rfl, uX5⟩
theorem fX3_121 : am_F RX3 121 3 2 := ⟨RX3, TX3, 5, rfl, by decide, am_t2 12 rfl rfl, uX3⟩
theorem pX3_121 : am_Fp RX3 121 3 2 .int := ⟨RX3, TX3, 5, tyX3, rfl, by decide, am_t2 12 rfl rfl, uX3, tyX3_ok, nmX3, rfl, by decide +kernel⟩
theorem fX0_15 : am_F RX0 15 0 0 := ⟨RX0, TX0, 5, rfl, by decide, am_t1 136 rfl rfl, uX0⟩
theorem fX0_19 : am_F RX0 19 0 1 := ⟨RX0, TX0, 5, rfl, by decide, am_t1 138 rfl rfl, uX0⟩
theorem fX0_22 : am_F RX0 22 0 2 := ⟨RX0, TX0, 5, rfl, by decide, am_t1 140 rfl rfl, uX0⟩
theorem fX0_25 : am_F RX0 25 0 3 := ⟨RX0, TX0, 5, rfl, by decide, am_t1 142 rfl rfl, uX0⟩
theorem pX2_15 : am_Fp RX2 15 2 0 .boolean := ⟨RX2, TX2, 16, tyX2, rfl, by decide, am_t1 178 rfl rfl, uX2, tyX2_ok, nmX2, rfl, by decide +kernel⟩
theorem pX2_35 : am_Fp RX2 35 2 6 .int := ⟨RX2, TX2, 16, tyX2, rfl, by decide, am_t1 194 rfl rfl, uX2, tyX2_ok, nmX2, rfl, by decide +kernel⟩
theorem pX2_38 : am_Fp RX2 38 2 7 .int := ⟨RX2, TX2, 16, tyX2, rfl, by decide, am_t1 197 rfl rfl, uX2, tyX2_ok, nmX2, rfl, by decide +kernel⟩
theorem pX2_57 : am_Fp RX2 57 2 13 .float := ⟨RX2, TX2, 16, tyX2, rfl, by decide, am_t1 211 rfl rfl, uX2, tyX2_ok, nmX2, rfl, by decide +kernel⟩
theorem pX2_60 : am_Fp RX2 60 2 14 .float := ⟨RX2, TX2, 16, tyX2, rfl, by decide, am_t1 212 rfl rfl, uX2, tyX2_ok, nmX2, rfl, by decide +kernel⟩
theorem fX3_132 : am_F RX3 132 2 15 := ⟨RX2, TX2, 16, rfl, by decide, am_t1 214 rfl rfl, uX2⟩
theorem fX2_15 : am_F RX2 15 2 0 := ⟨RX2, TX2, 16, rfl, by decide, am_t1 178 rfl rfl, uX2⟩
theorem fX2_19 : am_F RX2 19 2 1 := ⟨RX2, TX2, 16, rfl, by decide, am_t1 181 rfl rfl, uX2⟩
theorem fX2_35 : am_F RX2 35 2 6 := ⟨RX2, TX2, 16, rfl, by decide, am_t1 194 rfl rfl, uX2⟩
theorem pX3_55 : am_Fp RX3 55 2 6 .int := ⟨RX2, TX2, 16, tyX2, rfl, by decide, am_t1 195 rfl rfl, uX2, tyX2_ok, nmX2, rfl, by decide +kernel⟩
theorem fX3_152 : am_F RX3 152 2 12 := ⟨RX2, TX2, 16, rfl, by decide, am_t1 209 rfl rfl, uX2⟩
theorem fX6_41 : am_F RX6 41 5 1 := ⟨RX5, TX5, 8, rfl, by decide, am_t1 69 rfl rfl, uX5⟩
theorem fX6_15 : am_F RX6 15 6 1 := ⟨RX6, TX6, 3, rfl, by decide, am_t1 47 rfl rfl, uX6⟩
theorem fX6_44 : am_F RX6 44 5 0 := ⟨RX5, TX5, 8, rfl, by decide, am_t1 67 rfl rfl, uX5⟩
theorem fX5_9 : am_F RX5 9 5 0 := ⟨RX5, TX5, 8, rfl, by decide, am_t1 65 rfl rfl, uX5⟩
theorem fX6_9 : am_F RX6 9 6 0 := ⟨RX6, TX6, 3, rfl, by decide, am_t1 46 rfl rfl, uX6⟩
theorem pX5_51 : am_Fp RX5 51 5 7 .int := ⟨RX5, TX5, 8, tyX5, rfl, by decide, am_t1 87 rfl rfl, uX5, tyX5_ok, nmX5, rfl, by decide +kernel⟩
theorem fX6_18 : am_F RX6 18 6 2 := ⟨RX6, TX6, 3, rfl, by decide, am_t1 49 rfl rfl, uX6⟩
theorem fX5_27 : am_F RX5 27 5 5 := ⟨RX5, TX5, 8, rfl, by decide, am_t1 82 rfl rfl, uX5⟩
theorem pX5_59 : am_Fp RX5 59 5 6 .int := ⟨RX5, TX5, 8, tyX5, rfl, by decide, am_t1 84 rfl rfl, uX5, tyX5_ok, nmX5, rfl, by decide +kernel⟩
theorem fX5_59 : am_F RX5 59 5 6 := ⟨RX5, TX5, 8, rfl, by decide, am_t1 84 rfl rfl, uX5⟩
theorem fX5_21 : am_F RX5 21 5 3 := ⟨RX5, TX5, 8, rfl, by decide, am_t1 74 rfl rfl, uX5⟩
theorem fX5_24 : am_F RX5 24 5 4 := ⟨RX5, TX5, 8, rfl, by decide, am_t1 78 rfl rfl, uX5⟩
theorem fX7_23 : am_F RX7 23 7 2 := ⟨RX7, TX7, 11, rfl, by decide, am_t2 31 rfl rfl, uX7⟩
theorem fX7_26 : am_F RX7 26 7 3 := ⟨RX7, TX7, 11, rfl, by decide, am_t2 32 rfl rfl, uX7⟩
theorem pX6_18 : am_Fp RX6 18 6 2 .int := ⟨RX6, TX6, 3, tyX6, rfl, by decide, am_t1 49 rfl rfl, uX6, tyX6_ok, nmX6, rfl, by decide +kernel⟩
theorem fX7_160 : am_F RX7 160 5 6 := ⟨RX5, TX5, 8, rfl, by decide, am_t1 86 rfl rfl, uX5⟩
theorem fX7_66 : am_F RX7 66 1 1 := ⟨RX1, TX1, 2, rfl, by decide, am_t1 159 rfl rfl, uX1⟩
theorem fX7_322 : am_F RX7 322 3 2 := ⟨RX3, TX3, 5, rfl, by decide, am_t2 13 rfl rfl, uX3⟩
theorem fX7_325 : am_F RX7 325 3 3 := ⟨RX3, TX3, 5, rfl, by decide, am_t2 15 rfl rfl, uX3⟩
theorem fX7_328 : am_F RX7 328 3 4 := ⟨RX3, TX3, 5, rfl, by decide, am_t2 17 rfl rfl, uX3⟩
theorem fX7_249 : am_F RX7 249 6 1 := ⟨RX6, TX6, 3, rfl, by decide, am_t1 48 rfl rfl, uX6⟩
theorem fX7_103 : am_F RX7 103 5 0 := ⟨RX5, TX5, 8, rfl, by decide, am_t1 66 rfl rfl, uX5⟩
theorem fX7_255 : am_F RX7 255 5 1 := ⟨RX5, TX5, 8, rfl, by decide, am_t1 70 rfl rfl, uX5⟩
theorem fX7_258 : am_F RX7 258 5 2 := ⟨RX5, TX5, 8, rfl, by decide, am_t1 73 rfl rfl, uX5⟩
theorem fX7_261 : am_F RX7 261 5 3 := ⟨RX5, TX5, 8, rfl, by decide, am_t1 77 rfl rfl, uX5⟩
theorem fX7_264 : am_F RX7 264 5 4 := ⟨RX5, TX5, 8, rfl, by decide, am_t1 81 rfl rfl, uX5⟩
theorem fX7_273 : am_F RX7 273 2 2 := ⟨RX2, TX2, 16, rfl, by decide, am_t1 184 rfl rfl, uX2⟩
theorem fX7_276 : am_F RX7 276 2 3 := ⟨RX2, TX2, 16, rfl, by decide, am_t1 187 rfl rfl, uX2⟩
theorem fX7_279 : am_F RX7 279 2 4 := ⟨RX2, TX2, 16, rfl, by decide, am_t1 190 rfl rfl, uX2⟩
theorem fX7_282 : am_F RX7 282 2 5 := ⟨RX2, TX2, 16, rfl, by decide, am_t1 193 rfl rfl, uX2⟩
theorem fX7_285 : am_F RX7 285 2 6 := ⟨RX2, TX2, 16, rfl, by decide, am_t1 196 rfl rfl, uX2⟩
theorem fX7_288 : am_F RX7 288 2 7 := ⟨RX2, TX2, 16, rfl, by decide, am_t1 199 rfl rfl, uX2⟩
theorem fX7_291 : am_F RX7 291 2 8 := ⟨RX2, TX2, 16, rfl, by decide, am_t1 201 rfl rfl, uX2⟩
theorem fX7_295 : am_F RX7 295 2 9 := ⟨RX2, TX2, 16, rfl, by decide, am_t1 203 rfl rfl, uX2⟩
theorem fX7_298 : am_F RX7 298 2 10 := ⟨RX2, TX2, 16, rfl, by decide, am_t1 205 rfl rfl, uX2⟩
theorem fX7_301 : am_F RX7 301 2 11 := ⟨RX2, TX2, 16, rfl, by decide, am_t1 207 rfl rfl, uX2⟩
theorem fX7_304 : am_F RX7 304 2 12 := ⟨RX2, TX2, 16, rfl, by decide, am_t1 210 rfl rfl, uX2⟩
theorem pX1_22 : am_Fp RX1 22 0 0 .int := ⟨RX0, TX0, 5, tyX0, rfl, by decide, am_t1 137 rfl rfl, uX0, tyX0_ok, nmX0, rfl, by decide +kernel⟩
theorem pX1_25 : am_Fp RX1 25 0 1 .int := ⟨RX0, TX0, 5, tyX0, rfl, by decide, am_t1 139 rfl rfl, uX0, tyX0_ok, nmX0, rfl, by decide +kernel⟩
theorem pX1_28 : am_Fp RX1 28 0 2 .int := ⟨RX0, TX0, 5, tyX0, rfl, by decide, am_t1 141 rfl rfl, uX0, tyX0_ok, nmX0, rfl, by decide +kernel⟩
theorem pX1_31 : am_Fp RX1 31 0 3 .int := ⟨RX0, TX0, 5, tyX0, rfl, by decide, am_t1 143 rfl rfl, uX0, tyX0_ok, nmX0, rfl, by decide +kernel⟩
theorem pX1_18 : am_Fp RX1 18 1 1 .int := ⟨RX1, TX1, 2, tyX1, rfl, by decide, am_t1 158 rfl rfl, uX1, tyX1_ok, nmX1, rfl, by decide +kernel⟩
theorem fX7_84 : am_F RX7 84 6 2 := ⟨RX6, TX6, 3, rfl, by decide, am_t1 50 rfl rfl, uX6⟩
theorem pX7_84 : am_Fp RX7 84 6 2 .int := ⟨RX6, TX6, 3, tyX6, rfl, by decide, am_t1 50 rfl rfl, uX6, tyX6_ok, nmX6, rfl, by decide +kernel⟩
theorem qX12_13 : am_Ff RX12 13 12 1 (.array .int) := ⟨RX12, TX12, 13, tyX12, rfl, by decide, am_t4 201 rfl rfl, uX12, tyX12_ok, nmX12, rfl, rfl, by decide +kernel⟩
theorem qX12_17 : am_Ff RX12 17 12 2 (.array .int) := ⟨RX12, TX12, 13, tyX12, rfl, by decide, am_t4 202 rfl rfl, uX12, tyX12_ok, nmX12, rfl, rfl, by decide +kernel⟩
theorem pX12_20 : am_Fp RX12 20 12 4 .int := ⟨RX12, TX12, 13, tyX12, rfl, by decide, am_t4 204 rfl rfl, uX12, tyX12_ok, nmX12, rfl, by decide +kernel⟩
theorem pX12_24 : am_Fp RX12 24 12 5 .int := ⟨RX12, TX12, 13, tyX12, rfl, by decide, am_t4 205 rfl rfl, uX12, tyX12_ok, nmX12, rfl, by decide +kernel⟩
theorem qX12_29 : am_Ff RX12 29 12 6 (.array (.object "PalmwardModel$Contact")) := ⟨RX12, TX12, 13, tyX12, rfl, by decide, am_t4 207 rfl rfl, uX12, tyX12_ok, nmX12, rfl, rfl, by decide +kernel⟩
theorem qX12_36 : am_Ff RX12 36 12 7 (.object "java/util/ArrayList") := ⟨RX12, TX12, 13, tyX12, rfl, by decide, am_t4 208 rfl rfl, uX12, tyX12_ok, nmX12, rfl, rfl, by decide +kernel⟩
theorem pJx4a65c_9 : am_Fp RJx4a65c 9 13 1 (.array (.object "java/lang/Object")) := ⟨RJx4a65c, TJx4a65c, 3, tyJx4a65c, rfl, by decide, am_t4 188 rfl rfl, uJx4a65c, tyJx4a65c_ok, nmJx4a65c, rfl, by decide +kernel⟩
theorem fX12_40 : am_F RX12 40 12 0 := ⟨RX12, TX12, 13, rfl, by decide, am_t4 200 rfl rfl, uX12⟩
theorem fX12_36 : am_F RX12 36 12 7 := ⟨RX12, TX12, 13, rfl, by decide, am_t4 208 rfl rfl, uX12⟩
theorem pX12_40 : am_Fp RX12 40 12 0 .int := ⟨RX12, TX12, 13, tyX12, rfl, by decide, am_t4 200 rfl rfl, uX12, tyX12_ok, nmX12, rfl, by decide +kernel⟩
theorem fJx4a65c_48 : am_F RJx4a65c 48 13 2 := ⟨RJx4a65c, TJx4a65c, 3, rfl, by decide, am_t4 189 rfl rfl, uJx4a65c⟩
theorem qX8_7 : am_Ff RX8 7 8 4 (.array .int) := ⟨RX8, TX8, 5, tyX8, rfl, by decide, am_t5 38 rfl rfl, uX8, tyX8_ok, nmX8, rfl, rfl, by decide +kernel⟩
theorem qX8_13 : am_Ff RX8 13 8 0 .int := ⟨RX8, TX8, 5, tyX8, rfl, by decide, am_t5 30 rfl rfl, uX8, tyX8_ok, nmX8, rfl, rfl, by decide +kernel⟩
theorem qX8_17 : am_Ff RX8 17 8 1 .int := ⟨RX8, TX8, 5, tyX8, rfl, by decide, am_t5 32 rfl rfl, uX8, tyX8_ok, nmX8, rfl, rfl, by decide +kernel⟩
theorem qX8_20 : am_Ff RX8 20 8 2 .int := ⟨RX8, TX8, 5, tyX8, rfl, by decide, am_t5 34 rfl rfl, uX8, tyX8_ok, nmX8, rfl, rfl, by decide +kernel⟩
theorem qX8_23 : am_Ff RX8 23 8 3 .int := ⟨RX8, TX8, 5, tyX8, rfl, by decide, am_t5 36 rfl rfl, uX8, tyX8_ok, nmX8, rfl, rfl, by decide +kernel⟩
theorem fJx4a65c_9 : am_F RJx4a65c 9 13 1 := ⟨RJx4a65c, TJx4a65c, 3, rfl, by decide, am_t4 188 rfl rfl, uJx4a65c⟩
theorem pJx4a65c_48 : am_Fp RJx4a65c 48 13 2 .int := ⟨RJx4a65c, TJx4a65c, 3, tyJx4a65c, rfl, by decide, am_t4 189 rfl rfl, uJx4a65c, tyJx4a65c_ok, nmJx4a65c, rfl, by decide +kernel⟩
theorem fX12_20 : am_F RX12 20 12 4 := ⟨RX12, TX12, 13, rfl, by decide, am_t4 204 rfl rfl, uX12⟩
theorem fX12_24 : am_F RX12 24 12 5 := ⟨RX12, TX12, 13, rfl, by decide, am_t4 205 rfl rfl, uX12⟩
theorem fX12_47 : am_F RX12 47 12 3 := ⟨RX12, TX12, 13, rfl, by decide, am_t4 203 rfl rfl, uX12⟩
theorem pX12_47 : am_Fp RX12 47 12 3 .int := ⟨RX12, TX12, 13, tyX12, rfl, by decide, am_t4 203 rfl rfl, uX12, tyX12_ok, nmX12, rfl, by decide +kernel⟩
theorem fX12_17 : am_F RX12 17 12 2 := ⟨RX12, TX12, 13, rfl, by decide, am_t4 202 rfl rfl, uX12⟩
theorem fX12_13 : am_F RX12 13 12 1 := ⟨RX12, TX12, 13, rfl, by decide, am_t4 201 rfl rfl, uX12⟩
theorem qX11_9 : am_Ff RX11 9 11 0 (.array .int) := ⟨RX11, TX11, 4, tyX11, rfl, by decide, am_t5 176 rfl rfl, uX11, tyX11_ok, nmX11, rfl, rfl, by decide +kernel⟩
theorem qX11_15 : am_Ff RX11 15 11 1 (.array .int) := ⟨RX11, TX11, 4, tyX11, rfl, by decide, am_t5 178 rfl rfl, uX11, tyX11_ok, nmX11, rfl, rfl, by decide +kernel⟩
theorem qX11_18 : am_Ff RX11 18 11 2 (.array .int) := ⟨RX11, TX11, 4, tyX11, rfl, by decide, am_t5 180 rfl rfl, uX11, tyX11_ok, nmX11, rfl, rfl, by decide +kernel⟩
theorem fX11_9 : am_F RX11 9 11 0 := ⟨RX11, TX11, 4, rfl, by decide, am_t5 176 rfl rfl, uX11⟩
theorem fX11_18 : am_F RX11 18 11 2 := ⟨RX11, TX11, 4, rfl, by decide, am_t5 180 rfl rfl, uX11⟩
theorem fX11_32 : am_F RX11 32 11 3 := ⟨RX11, TX11, 4, rfl, by decide, am_t5 184 rfl rfl, uX11⟩
theorem pX11_32 : am_Fp RX11 32 11 3 .int := ⟨RX11, TX11, 4, tyX11, rfl, by decide, am_t5 184 rfl rfl, uX11, tyX11_ok, nmX11, rfl, by decide +kernel⟩
theorem fX11_15 : am_F RX11 15 11 1 := ⟨RX11, TX11, 4, rfl, by decide, am_t5 178 rfl rfl, uX11⟩
theorem fX12_223 : am_F RX12 223 12 9 := ⟨RX12, TX12, 13, rfl, by decide, am_t4 210 rfl rfl, uX12⟩
theorem pX12_223 : am_Fp RX12 223 12 9 .int := ⟨RX12, TX12, 13, tyX12, rfl, by decide, am_t4 210 rfl rfl, uX12, tyX12_ok, nmX12, rfl, by decide +kernel⟩
theorem fX12_189 : am_F RX12 189 10 6 := ⟨RX10, TX10, 8, rfl, by decide, am_t5 235 rfl rfl, uX10⟩
theorem fX12_29 : am_F RX12 29 12 6 := ⟨RX12, TX12, 13, rfl, by decide, am_t4 207 rfl rfl, uX12⟩
theorem pX12_164 : am_Fp RX12 164 9 14 .boolean := ⟨RX9, TX9, 15, tyX9, rfl, by decide, am_t6 104 rfl rfl, uX9, tyX9_ok, nmX9, rfl, by decide +kernel⟩
theorem fX12_192 : am_F RX12 192 11 2 := ⟨RX11, TX11, 4, rfl, by decide, am_t5 182 rfl rfl, uX11⟩
theorem fX12_212 : am_F RX12 212 11 3 := ⟨RX11, TX11, 4, rfl, by decide, am_t5 185 rfl rfl, uX11⟩
theorem fX12_220 : am_F RX12 220 12 8 := ⟨RX12, TX12, 13, rfl, by decide, am_t4 209 rfl rfl, uX12⟩
theorem pX12_220 : am_Fp RX12 220 12 8 .int := ⟨RX12, TX12, 13, tyX12, rfl, by decide, am_t4 209 rfl rfl, uX12, tyX12_ok, nmX12, rfl, by decide +kernel⟩
theorem qX10_3 : am_Ff RX10 3 10 7 (.object "PalmwardModel") := ⟨RX10, TX10, 8, tyX10, rfl, by decide, am_t5 236 rfl rfl, uX10, tyX10_ok, nmX10, rfl, rfl, by decide +kernel⟩
theorem qX10_15 : am_Ff RX10 15 10 3 (.array .int) := ⟨RX10, TX10, 8, tyX10, rfl, by decide, am_t5 231 rfl rfl, uX10, tyX10_ok, nmX10, rfl, rfl, by decide +kernel⟩
theorem pX10_19 : am_Fp RX10 19 10 4 .int := ⟨RX10, TX10, 8, tyX10, rfl, by decide, am_t5 232 rfl rfl, uX10, tyX10_ok, nmX10, rfl, by decide +kernel⟩
theorem pX10_23 : am_Fp RX10 23 10 6 (.array .int) := ⟨RX10, TX10, 8, tyX10, rfl, by decide, am_t5 234 rfl rfl, uX10, tyX10_ok, nmX10, rfl, by decide +kernel⟩
theorem qX10_26 : am_Ff RX10 26 10 0 (.object "PalmwardModel$View") := ⟨RX10, TX10, 8, tyX10, rfl, by decide, am_t5 228 rfl rfl, uX10, tyX10_ok, nmX10, rfl, rfl, by decide +kernel⟩
theorem fX10_30 : am_F RX10 30 11 3 := ⟨RX11, TX11, 4, rfl, by decide, am_t5 183 rfl rfl, uX11⟩
theorem qX10_35 : am_Ff RX10 35 10 1 (.array .int) := ⟨RX10, TX10, 8, tyX10, rfl, by decide, am_t5 229 rfl rfl, uX10, tyX10_ok, nmX10, rfl, rfl, by decide +kernel⟩
theorem qX10_38 : am_Ff RX10 38 10 2 (.array .int) := ⟨RX10, TX10, 8, tyX10, rfl, by decide, am_t5 230 rfl rfl, uX10, tyX10_ok, nmX10, rfl, rfl, by decide +kernel⟩
theorem fX10_35 : am_F RX10 35 10 1 := ⟨RX10, TX10, 8, rfl, by decide, am_t5 229 rfl rfl, uX10⟩
theorem fX10_41 : am_F RX10 41 11 2 := ⟨RX11, TX11, 4, rfl, by decide, am_t5 181 rfl rfl, uX11⟩
theorem fX10_38 : am_F RX10 38 10 2 := ⟨RX10, TX10, 8, rfl, by decide, am_t5 230 rfl rfl, uX10⟩
theorem fX10_19 : am_F RX10 19 10 4 := ⟨RX10, TX10, 8, rfl, by decide, am_t5 232 rfl rfl, uX10⟩
theorem fX10_52 : am_F RX10 52 10 5 := ⟨RX10, TX10, 8, rfl, by decide, am_t5 233 rfl rfl, uX10⟩
theorem pX10_52 : am_Fp RX10 52 10 5 .int := ⟨RX10, TX10, 8, tyX10, rfl, by decide, am_t5 233 rfl rfl, uX10, tyX10_ok, nmX10, rfl, by decide +kernel⟩
theorem fX10_15 : am_F RX10 15 10 3 := ⟨RX10, TX10, 8, rfl, by decide, am_t5 231 rfl rfl, uX10⟩
theorem fX10_23 : am_F RX10 23 10 6 := ⟨RX10, TX10, 8, rfl, by decide, am_t5 234 rfl rfl, uX10⟩
theorem fX10_26 : am_F RX10 26 10 0 := ⟨RX10, TX10, 8, rfl, by decide, am_t5 228 rfl rfl, uX10⟩
theorem fX10_3 : am_F RX10 3 10 7 := ⟨RX10, TX10, 8, rfl, by decide, am_t5 236 rfl rfl, uX10⟩
theorem fX9_35 : am_F RX9 35 9 9 := ⟨RX9, TX9, 15, rfl, by decide, am_t6 94 rfl rfl, uX9⟩
theorem fX9_38 : am_F RX9 38 9 10 := ⟨RX9, TX9, 15, rfl, by decide, am_t6 96 rfl rfl, uX9⟩
theorem fX12_109 : am_F RX12 109 9 13 := ⟨RX9, TX9, 15, rfl, by decide, am_t6 102 rfl rfl, uX9⟩
theorem fX12_116 : am_F RX12 116 12 12 := ⟨RX12, TX12, 13, rfl, by decide, am_t4 213 rfl rfl, uX12⟩
theorem pX12_116 : am_Fp RX12 116 12 12 .int := ⟨RX12, TX12, 13, tyX12, rfl, by decide, am_t4 213 rfl rfl, uX12, tyX12_ok, nmX12, rfl, by decide +kernel⟩
theorem fX12_99 : am_F RX12 99 9 2 := ⟨RX9, TX9, 15, rfl, by decide, am_t6 81 rfl rfl, uX9⟩
theorem fX12_106 : am_F RX12 106 8 4 := ⟨RX8, TX8, 5, rfl, by decide, am_t5 39 rfl rfl, uX8⟩
theorem fX9_15 : am_F RX9 15 9 11 := ⟨RX9, TX9, 15, rfl, by decide, am_t6 98 rfl rfl, uX9⟩
theorem pX9_15 : am_Fp RX9 15 9 11 .int := ⟨RX9, TX9, 15, tyX9, rfl, by decide, am_t6 98 rfl rfl, uX9, tyX9_ok, nmX9, rfl, by decide +kernel⟩
theorem pX9_48 : am_Fp RX9 48 9 12 .int := ⟨RX9, TX9, 15, tyX9, rfl, by decide, am_t6 100 rfl rfl, uX9, tyX9_ok, nmX9, rfl, by decide +kernel⟩
theorem pX9_51 : am_Fp RX9 51 9 14 .boolean := ⟨RX9, TX9, 15, tyX9, rfl, by decide, am_t6 103 rfl rfl, uX9, tyX9_ok, nmX9, rfl, by decide +kernel⟩
theorem pX9_35 : am_Fp RX9 35 9 9 .int := ⟨RX9, TX9, 15, tyX9, rfl, by decide, am_t6 94 rfl rfl, uX9, tyX9_ok, nmX9, rfl, by decide +kernel⟩
theorem pX9_38 : am_Fp RX9 38 9 10 .int := ⟨RX9, TX9, 15, tyX9, rfl, by decide, am_t6 96 rfl rfl, uX9, tyX9_ok, nmX9, rfl, by decide +kernel⟩
theorem fX9_19 : am_F RX9 19 9 4 := ⟨RX9, TX9, 15, rfl, by decide, am_t6 84 rfl rfl, uX9⟩
theorem pX9_55 : am_Fp RX9 55 9 6 .float := ⟨RX9, TX9, 15, tyX9, rfl, by decide, am_t6 88 rfl rfl, uX9, tyX9_ok, nmX9, rfl, by decide +kernel⟩
theorem fX9_23 : am_F RX9 23 9 5 := ⟨RX9, TX9, 15, rfl, by decide, am_t6 86 rfl rfl, uX9⟩
theorem pX9_58 : am_Fp RX9 58 9 7 .float := ⟨RX9, TX9, 15, tyX9, rfl, by decide, am_t6 90 rfl rfl, uX9, tyX9_ok, nmX9, rfl, by decide +kernel⟩
theorem fX9_55 : am_F RX9 55 9 6 := ⟨RX9, TX9, 15, rfl, by decide, am_t6 88 rfl rfl, uX9⟩
theorem pX9_19 : am_Fp RX9 19 9 4 .float := ⟨RX9, TX9, 15, tyX9, rfl, by decide, am_t6 84 rfl rfl, uX9, tyX9_ok, nmX9, rfl, by decide +kernel⟩
theorem fX9_58 : am_F RX9 58 9 7 := ⟨RX9, TX9, 15, rfl, by decide, am_t6 90 rfl rfl, uX9⟩
theorem pX9_23 : am_Fp RX9 23 9 5 .float := ⟨RX9, TX9, 15, tyX9, rfl, by decide, am_t6 86 rfl rfl, uX9, tyX9_ok, nmX9, rfl, by decide +kernel⟩
theorem fX9_61 : am_F RX9 61 9 8 := ⟨RX9, TX9, 15, rfl, by decide, am_t6 92 rfl rfl, uX9⟩
theorem fX9_29 : am_F RX9 29 9 0 := ⟨RX9, TX9, 15, rfl, by decide, am_t6 78 rfl rfl, uX9⟩
theorem fX9_32 : am_F RX9 32 9 1 := ⟨RX9, TX9, 15, rfl, by decide, am_t6 79 rfl rfl, uX9⟩
theorem pX9_61 : am_Fp RX9 61 9 8 .float := ⟨RX9, TX9, 15, tyX9, rfl, by decide, am_t6 92 rfl rfl, uX9, tyX9_ok, nmX9, rfl, by decide +kernel⟩
theorem fX12_119 : am_F RX12 119 9 12 := ⟨RX9, TX9, 15, rfl, by decide, am_t6 101 rfl rfl, uX9⟩
theorem pX12_119 : am_Fp RX12 119 9 12 .int := ⟨RX9, TX9, 15, tyX9, rfl, by decide, am_t6 101 rfl rfl, uX9, tyX9_ok, nmX9, rfl, by decide +kernel⟩
theorem pX12_122 : am_Fp RX12 122 9 6 .float := ⟨RX9, TX9, 15, tyX9, rfl, by decide, am_t6 89 rfl rfl, uX9, tyX9_ok, nmX9, rfl, by decide +kernel⟩
theorem pX12_126 : am_Fp RX12 126 9 7 .float := ⟨RX9, TX9, 15, tyX9, rfl, by decide, am_t6 91 rfl rfl, uX9, tyX9_ok, nmX9, rfl, by decide +kernel⟩
theorem fX12_129 : am_F RX12 129 9 11 := ⟨RX9, TX9, 15, rfl, by decide, am_t6 99 rfl rfl, uX9⟩
theorem fX12_132 : am_F RX12 132 12 11 := ⟨RX12, TX12, 13, rfl, by decide, am_t4 212 rfl rfl, uX12⟩
theorem pX12_132 : am_Fp RX12 132 12 11 .int := ⟨RX12, TX12, 13, tyX12, rfl, by decide, am_t4 212 rfl rfl, uX12, tyX12_ok, nmX12, rfl, by decide +kernel⟩
theorem fX12_153 : am_F RX12 153 12 10 := ⟨RX12, TX12, 13, rfl, by decide, am_t4 211 rfl rfl, uX12⟩
theorem pX12_153 : am_Fp RX12 153 12 10 .int := ⟨RX12, TX12, 13, tyX12, rfl, by decide, am_t4 211 rfl rfl, uX12, tyX12_ok, nmX12, rfl, by decide +kernel⟩
theorem fX12_156 : am_F RX12 156 9 3 := ⟨RX9, TX9, 15, rfl, by decide, am_t6 83 rfl rfl, uX9⟩
theorem fX12_135 : am_F RX12 135 8 0 := ⟨RX8, TX8, 5, rfl, by decide, am_t5 31 rfl rfl, uX8⟩
theorem fX12_138 : am_F RX12 138 8 1 := ⟨RX8, TX8, 5, rfl, by decide, am_t5 33 rfl rfl, uX8⟩
theorem fX12_141 : am_F RX12 141 8 2 := ⟨RX8, TX8, 5, rfl, by decide, am_t5 35 rfl rfl, uX8⟩
theorem fX12_144 : am_F RX12 144 8 3 := ⟨RX8, TX8, 5, rfl, by decide, am_t5 37 rfl rfl, uX8⟩
theorem qX9_9 : am_Ff RX9 9 9 3 (.array .float) := ⟨RX9, TX9, 15, tyX9, rfl, by decide, am_t6 82 rfl rfl, uX9, tyX9_ok, nmX9, rfl, rfl, by decide +kernel⟩
theorem qX9_26 : am_Ff RX9 26 9 2 .int := ⟨RX9, TX9, 15, tyX9, rfl, by decide, am_t6 80 rfl rfl, uX9, tyX9_ok, nmX9, rfl, rfl, by decide +kernel⟩
theorem qX9_29 : am_Ff RX9 29 9 0 .float := ⟨RX9, TX9, 15, tyX9, rfl, by decide, am_t6 78 rfl rfl, uX9, tyX9_ok, nmX9, rfl, rfl, by decide +kernel⟩
theorem qX9_32 : am_Ff RX9 32 9 1 .float := ⟨RX9, TX9, 15, tyX9, rfl, by decide, am_t6 79 rfl rfl, uX9, tyX9_ok, nmX9, rfl, rfl, by decide +kernel⟩
theorem fX12_180 : am_F RX12 180 9 8 := ⟨RX9, TX9, 15, rfl, by decide, am_t6 93 rfl rfl, uX9⟩
theorem fX12_164 : am_F RX12 164 9 14 := ⟨RX9, TX9, 15, rfl, by decide, am_t6 104 rfl rfl, uX9⟩
theorem pX12_109 : am_Fp RX12 109 9 13 .int := ⟨RX9, TX9, 15, tyX9, rfl, by decide, am_t6 102 rfl rfl, uX9, tyX9_ok, nmX9, rfl, by decide +kernel⟩
theorem fX12_239 : am_F RX12 239 11 0 := ⟨RX11, TX11, 4, rfl, by decide, am_t5 177 rfl rfl, uX11⟩
theorem fX12_245 : am_F RX12 245 11 1 := ⟨RX11, TX11, 4, rfl, by decide, am_t5 179 rfl rfl, uX11⟩
theorem fX12_255 : am_F RX12 255 9 9 := ⟨RX9, TX9, 15, rfl, by decide, am_t6 95 rfl rfl, uX9⟩
theorem fX12_258 : am_F RX12 258 9 10 := ⟨RX9, TX9, 15, rfl, by decide, am_t6 97 rfl rfl, uX9⟩
theorem fX12_268 : am_F RX12 268 9 4 := ⟨RX9, TX9, 15, rfl, by decide, am_t6 85 rfl rfl, uX9⟩
theorem fX12_271 : am_F RX12 271 9 5 := ⟨RX9, TX9, 15, rfl, by decide, am_t6 87 rfl rfl, uX9⟩
theorem fX12_122 : am_F RX12 122 9 6 := ⟨RX9, TX9, 15, rfl, by decide, am_t6 89 rfl rfl, uX9⟩
theorem fX12_126 : am_F RX12 126 9 7 := ⟨RX9, TX9, 15, rfl, by decide, am_t6 91 rfl rfl, uX9⟩
end
section
theorem lX7_1 : am_cO RX7 1 := ⟨am_t1 37 rfl rfl, am_t1 38 rfl rfl, am_t1 39 rfl rfl⟩
theorem lX7_9 : am_cIN RX7 9 mX6_init 0 := ⟨gX6_init, ⟨"Palmward", by decide +kernel⟩, am_t1 43 rfl rfl, rfl, rfl⟩
theorem lX7_18 : am_cIN RX7 18 mX5_init 0 := ⟨gX5_init, ⟨"Palmward", by decide +kernel⟩, am_t1 62 rfl rfl, rfl, rfl⟩
theorem lX7_31 : am_cIN RX7 31 mX4_init 0 := ⟨gX4_init, ⟨"Palmward", by decide +kernel⟩, am_t1 109 rfl rfl, rfl, rfl⟩
theorem lX7_38 : am_cI RX7 38 mX1_init 0 := ⟨gX1_init, am_t1 125 rfl rfl, am_t1 126 rfl rfl, rfl, rfl⟩
theorem lX7_45 : am_cI RX7 45 mX3_init 1 := ⟨gX3_init, am_t1 167 rfl rfl, am_t1 168 rfl rfl, rfl, rfl⟩
theorem lX6_3 : am_cO RX6 3 := ⟨am_t1 45 rfl rfl, am_t1 38 rfl rfl, am_t1 39 rfl rfl⟩
theorem lX5_3 : am_cO RX5 3 := ⟨am_t1 64 rfl rfl, am_t1 38 rfl rfl, am_t1 39 rfl rfl⟩
theorem lX4_3 : am_cO RX4 3 := ⟨am_t1 111 rfl rfl, am_t1 38 rfl rfl, am_t1 39 rfl rfl⟩
theorem lX1_3 : am_cO RX1 3 := ⟨am_t1 128 rfl rfl, am_t1 38 rfl rfl, am_t1 39 rfl rfl⟩
theorem lX1_17 : am_cIN RX1 17 mX0_init 0 := ⟨gX0_init, ⟨"Palmward", by decide +kernel⟩, am_t1 133 rfl rfl, rfl, rfl⟩
theorem lX0_3 : am_cO RX0 3 := ⟨am_t1 135 rfl rfl, am_t1 38 rfl rfl, am_t1 39 rfl rfl⟩
theorem lX3_3 : am_cO RX3 3 := ⟨am_t1 170 rfl rfl, am_t1 38 rfl rfl, am_t1 39 rfl rfl⟩
theorem lX3_21 : am_cIN RX3 21 mX2_init 0 := ⟨gX2_init, ⟨"Palmward", by decide +kernel⟩, am_t1 175 rfl rfl, rfl, rfl⟩
theorem lX2_3 : am_cO RX2 3 := ⟨am_t1 177 rfl rfl, am_t1 38 rfl rfl, am_t1 39 rfl rfl⟩
theorem lX7_128 : am_cV RX7 128 mX4_pair 2 4 := ⟨gX4_pair, am_t2 67 rfl rfl, am_t2 68 rfl rfl, am_t2 69 rfl rfl, _, rfl, rfl⟩
theorem lX7_132 : am_cV RX7 132 mX3_take 3 3 := ⟨gX3_take, am_t2 91 rfl rfl, am_t2 92 rfl rfl, am_t2 93 rfl rfl, _, rfl, rfl⟩
theorem lX7_136 : am_cV RX7 136 mX6_settle 1 6 := ⟨gX6_settle, am_t2 193 rfl rfl, am_t2 194 rfl rfl, am_t2 195 rfl rfl, _, rfl, rfl⟩
theorem lX7_140 : am_cV RX7 140 mX6_forgetWaits 0 6 := ⟨gX6_forgetWaits, am_t2 207 rfl rfl, am_t2 208 rfl rfl, am_t2 209 rfl rfl, _, rfl, rfl⟩
theorem lX7_87 : am_cV RX7 87 mX5_look 1 5 := ⟨gX5_look, am_t2 211 rfl rfl, am_t2 212 rfl rfl, am_t2 213 rfl rfl, _, rfl, rfl⟩
theorem lX7_143 : am_cV RX7 143 mX3_countContacts 0 3 := ⟨gX3_countContacts, am_t3 19 rfl rfl, am_t3 20 rfl rfl, am_t3 21 rfl rfl, _, rfl, rfl⟩
theorem lX4_26 : am_cS RX4 26 mX4_weightOf 4 := ⟨gX4_weightOf, am_t2 72 rfl rfl, am_t2 73 rfl rfl⟩
theorem lX4_30 : am_cV RX4 30 mX4_offerPeak 0 4 := ⟨gX4_offerPeak, am_t2 79 rfl rfl, am_t2 81 rfl rfl, am_t0 0 rfl rfl, _, rfl, rfl⟩
theorem lX4_37 : am_cS RX4 37 mX4_weightOfRest 1 := ⟨gX4_weightOfRest, am_t2 86 rfl rfl, am_t2 87 rfl rfl⟩
theorem jX4_41 : am_cJ RX4 41 Lib.MathLoose.min_long.x Lib.MathLoose.min_long.code 4 (some .long) := ⟨am_t2 83 rfl rfl, am_t2 84 rfl rfl, am_t1 20 rfl rfl, am_t2 85 rfl rfl⟩
theorem lX4_47 : am_cS RX4 47 mX4_digitOf 1 := ⟨gX4_digitOf, am_t2 76 rfl rfl, am_t2 77 rfl rfl⟩
theorem lX3_30 : am_cV RX3 30 mX3_followMatched 3 3 := ⟨gX3_followMatched, am_t2 95 rfl rfl, am_t2 97 rfl rfl, am_t0 1 rfl rfl, _, rfl, rfl⟩
theorem lX3_34 : am_cV RX3 34 mX3_missUnmatched 1 3 := ⟨gX3_missUnmatched, am_t2 127 rfl rfl, am_t2 129 rfl rfl, am_t0 3 rfl rfl, _, rfl, rfl⟩
theorem lX3_38 : am_cV RX3 38 mX3_beginUnmatched 2 3 := ⟨gX3_beginUnmatched, am_t2 139 rfl rfl, am_t2 141 rfl rfl, am_t0 5 rfl rfl, _, rfl, rfl⟩
theorem lX3_42 : am_cV RX3 42 mX3_claimPinches 0 3 := ⟨gX3_claimPinches, am_t2 170 rfl rfl, am_t2 172 rfl rfl, am_t0 8 rfl rfl, _, rfl, rfl⟩
theorem lX3_45 : am_cV RX3 45 mX3_claimAlone 0 3 := ⟨gX3_claimAlone, am_t2 188 rfl rfl, am_t2 190 rfl rfl, am_t0 11 rfl rfl, _, rfl, rfl⟩
theorem lX3_64 : am_cV RX3 64 mX4_peakOf 1 4 := ⟨gX4_peakOf, am_t2 99 rfl rfl, am_t2 100 rfl rfl, am_t2 101 rfl rfl, _, rfl, rfl⟩
theorem lX3_75 : am_cV RX3 75 mX5_isPalm 1 5 := ⟨gX5_isPalm, am_t2 103 rfl rfl, am_t2 104 rfl rfl, am_t2 105 rfl rfl, _, rfl, rfl⟩
theorem lX3_48 : am_cV RX3 48 mX3_cancel 1 3 := ⟨gX3_cancel, am_t2 111 rfl rfl, am_t2 113 rfl rfl, am_t0 2 rfl rfl, _, rfl, rfl⟩
theorem lX3_86 : am_cV RX3 86 mX2_moveTo 3 2 := ⟨gX2_moveTo, am_t2 119 rfl rfl, am_t2 120 rfl rfl, am_t2 121 rfl rfl, _, rfl, rfl⟩
theorem lX5_86 : am_cV RX5 86 mX5_sizeOf 1 5 := ⟨gX5_sizeOf, am_t2 107 rfl rfl, am_t2 108 rfl rfl, am_t2 109 rfl rfl, _, rfl, rfl⟩
theorem lX3_58 : am_cV RX3 58 mX1_count 3 1 := ⟨gX1_count, am_t2 115 rfl rfl, am_t2 116 rfl rfl, am_t2 117 rfl rfl, _, rfl, rfl⟩
theorem lX2_64 : am_cSN RX2 64 mX7_withoutSign 1 := ⟨gX7_withoutSign, ⟨"Palmward", by decide +kernel⟩, am_t2 125 rfl rfl⟩
theorem lX3_89 : am_cV RX3 89 mX2_miss 0 2 := ⟨gX2_miss, am_t2 131 rfl rfl, am_t2 132 rfl rfl, am_t2 133 rfl rfl, _, rfl, rfl⟩
theorem lX3_95 : am_cV RX3 95 mX3_lift 1 3 := ⟨gX3_lift, am_t2 135 rfl rfl, am_t2 137 rfl rfl, am_t0 4 rfl rfl, _, rfl, rfl⟩
theorem lX3_104 : am_cV RX3 104 mX3_freeName 0 3 := ⟨gX3_freeName, am_t2 143 rfl rfl, am_t2 145 rfl rfl, am_t0 6 rfl rfl, _, rfl, rfl⟩
theorem lX3_108 : am_cS RX3 108 mX3_isMatchedBy 2 := ⟨gX3_isMatchedBy, am_t2 147 rfl rfl, am_t2 148 rfl rfl⟩
theorem lX3_115 : am_cV RX3 115 mX1_latestAt 1 1 := ⟨gX1_latestAt, am_t2 150 rfl rfl, am_t2 151 rfl rfl, am_t2 152 rfl rfl, _, rfl, rfl⟩
theorem lX3_118 : am_cV RX3 118 mX2_beginAt 3 2 := ⟨gX2_beginAt, am_t2 158 rfl rfl, am_t2 159 rfl rfl, am_t2 160 rfl rfl, _, rfl, rfl⟩
theorem lX3_124 : am_cV RX3 124 mX3_rememberApart 1 3 := ⟨gX3_rememberApart, am_t2 162 rfl rfl, am_t2 164 rfl rfl, am_t0 7 rfl rfl, _, rfl, rfl⟩
theorem lX1_34 : am_cV RX1 34 mX0_holds 2 0 := ⟨gX0_holds, am_t2 154 rfl rfl, am_t2 155 rfl rfl, am_t2 156 rfl rfl, _, rfl, rfl⟩
theorem lX3_128 : am_cV RX3 128 mX2_distanceTo 1 2 := ⟨gX2_distanceTo, am_t2 166 rfl rfl, am_t2 167 rfl rfl, am_t2 168 rfl rfl, _, rfl, rfl⟩
theorem lX3_136 : am_cV RX3 136 mX2_canClaim 0 2 := ⟨gX2_canClaim, am_t2 174 rfl rfl, am_t2 175 rfl rfl, am_t2 176 rfl rfl, _, rfl, rfl⟩
theorem lX3_140 : am_cV RX3 140 mX3_isPinch 2 3 := ⟨gX3_isPinch, am_t2 178 rfl rfl, am_t2 180 rfl rfl, am_t0 9 rfl rfl, _, rfl, rfl⟩
theorem lX3_144 : am_cV RX3 144 mX3_claim 2 3 := ⟨gX3_claim, am_t2 184 rfl rfl, am_t2 186 rfl rfl, am_t0 10 rfl rfl, _, rfl, rfl⟩
theorem lX3_147 : am_cSN RX3 147 mX7_withoutSign 1 := ⟨gX7_withoutSign, ⟨"Palmward", by decide +kernel⟩, am_t2 125 rfl rfl⟩
theorem lX6_35 : am_cV RX6 35 mX5_isTouched 1 5 := ⟨gX5_isTouched, am_t2 197 rfl rfl, am_t2 198 rfl rfl, am_t2 199 rfl rfl, _, rfl, rfl⟩
theorem lX6_47 : am_cS RX6 47 mX6_stepFor 1 := ⟨gX6_stepFor, am_t2 201 rfl rfl, am_t2 202 rfl rfl⟩
theorem lX6_50 : am_cS RX6 50 mJ6_compare_7cf53 2 := ⟨gJ6_compare_7cf53, am_t2 204 rfl rfl, am_t2 205 rfl rfl⟩
theorem lX5_30 : am_cV RX5 30 mX6_signalOf 1 6 := ⟨gX6_signalOf, am_t2 215 rfl rfl, am_t2 216 rfl rfl, am_t2 217 rfl rfl, _, rfl, rfl⟩
theorem lX5_36 : am_cV RX5 36 mX5_isTouched 1 5 := ⟨gX5_isTouched, am_t2 223 rfl rfl, am_t2 198 rfl rfl, am_t2 199 rfl rfl, _, rfl, rfl⟩
theorem lX5_40 : am_cV RX5 40 mX5_measureRegion 1 5 := ⟨gX5_measureRegion, am_t2 224 rfl rfl, am_t2 226 rfl rfl, am_t0 12 rfl rfl, _, rfl, rfl⟩
theorem lX5_44 : am_cV RX5 44 mX5_findPeaks 0 5 := ⟨gX5_findPeaks, am_t2 232 rfl rfl, am_t2 234 rfl rfl, am_t0 14 rfl rfl, _, rfl, rfl⟩
theorem lX5_47 : am_cV RX5 47 mX5_humNow 0 5 := ⟨gX5_humNow, am_t3 12 rfl rfl, am_t3 14 rfl rfl, am_t0 17 rfl rfl, _, rfl, rfl⟩
theorem lX6_22 : am_cV RX6 22 mX6_chargeOf 1 6 := ⟨gX6_chargeOf, am_t2 219 rfl rfl, am_t2 220 rfl rfl, am_t2 221 rfl rfl, _, rfl, rfl⟩
theorem lX5_55 : am_cV RX5 55 mX5_link 3 5 := ⟨gX5_link, am_t2 228 rfl rfl, am_t2 230 rfl rfl, am_t0 13 rfl rfl, _, rfl, rfl⟩
theorem lX5_62 : am_cV RX5 62 mX5_isSummit 1 5 := ⟨gX5_isSummit, am_t2 236 rfl rfl, am_t2 238 rfl rfl, am_t0 15 rfl rfl, _, rfl, rfl⟩
theorem lX5_65 : am_cV RX5 65 mX5_placeOf 2 5 := ⟨gX5_placeOf, am_t3 6 rfl rfl, am_t3 8 rfl rfl, am_t0 16 rfl rfl, _, rfl, rfl⟩
theorem jX5_69 : am_cJ RX5 69 Lib.Math.max.name Lib.Math.max.code 2 (some .int) := ⟨am_t3 0 rfl rfl, am_t3 1 rfl rfl, am_t1 20 rfl rfl, am_t3 2 rfl rfl⟩
theorem jX5_75 : am_cJ RX5 75 Lib.Math.min.name Lib.Math.min.code 2 (some .int) := ⟨am_t3 3 rfl rfl, am_t3 4 rfl rfl, am_t1 20 rfl rfl, am_t3 5 rfl rfl⟩
theorem jX5_82 : am_cJ RX5 82 Lib.MathLoose.abs_long.x Lib.MathLoose.abs_long.code 2 (some .long) := ⟨am_t3 16 rfl rfl, am_t3 17 rfl rfl, am_t1 20 rfl rfl, am_t3 18 rfl rfl⟩
theorem lX7_147 : am_cV RX7 147 mX3_cancelAll 0 3 := ⟨gX3_cancelAll, am_t3 27 rfl rfl, am_t3 28 rfl rfl, am_t3 29 rfl rfl, _, rfl, rfl⟩
theorem lX7_150 : am_cV RX7 150 mX6_baseOnHeat 0 6 := ⟨gX6_baseOnHeat, am_t3 31 rfl rfl, am_t3 32 rfl rfl, am_t3 33 rfl rfl, _, rfl, rfl⟩
theorem lX7_208 : am_cV RX7 208 mX6_copyFrom 1 6 := ⟨gX6_copyFrom, am_t3 39 rfl rfl, am_t3 40 rfl rfl, am_t3 41 rfl rfl, _, rfl, rfl⟩
theorem lX7_211 : am_cV RX7 211 mX5_isCalm 0 5 := ⟨gX5_isCalm, am_t3 43 rfl rfl, am_t3 44 rfl rfl, am_t3 45 rfl rfl, _, rfl, rfl⟩
theorem lX7_194 : am_cV RX7 194 mX7_manyAnswer 1 7 := ⟨gX7_manyAnswer, am_t3 52 rfl rfl, am_t3 54 rfl rfl, am_t0 18 rfl rfl, _, rfl, rfl⟩
theorem lX7_221 : am_cS RX7 221 mX7_mixed 2 := ⟨gX7_mixed, am_t3 61 rfl rfl, am_t3 62 rfl rfl⟩
theorem lX7_156 : am_cV RX7 156 mX7_cellAnswer 2 7 := ⟨gX7_cellAnswer, am_t3 65 rfl rfl, am_t3 67 rfl rfl, am_t0 19 rfl rfl, _, rfl, rfl⟩
theorem lX7_168 : am_cV RX7 168 mX7_peakAnswer 2 7 := ⟨gX7_peakAnswer, am_t3 71 rfl rfl, am_t3 73 rfl rfl, am_t0 20 rfl rfl, _, rfl, rfl⟩
theorem lX7_225 : am_cV RX7 225 mX3_has 1 3 := ⟨gX3_has, am_t3 77 rfl rfl, am_t3 78 rfl rfl, am_t3 79 rfl rfl, _, rfl, rfl⟩
theorem lX7_229 : am_cV RX7 229 mX7_mixedContact 2 7 := ⟨gX7_mixedContact, am_t3 81 rfl rfl, am_t3 83 rfl rfl, am_t0 21 rfl rfl, _, rfl, rfl⟩
theorem lX7_191 : am_cV RX7 191 mX7_areaAnswer 2 7 := ⟨gX7_areaAnswer, am_t3 106 rfl rfl, am_t3 108 rfl rfl, am_t0 23 rfl rfl, _, rfl, rfl⟩
theorem lX7_188 : am_cV RX7 188 mX7_rowAnswer 2 7 := ⟨gX7_rowAnswer, am_t3 118 rfl rfl, am_t3 120 rfl rfl, am_t0 24 rfl rfl, _, rfl, rfl⟩
theorem lX7_233 : am_cV RX7 233 mX7_calmIn 0 7 := ⟨gX7_calmIn, am_t3 134 rfl rfl, am_t3 36 rfl rfl, am_t3 37 rfl rfl, _, rfl, rfl⟩
theorem lX7_331 : am_cV RX7 331 mX5_countPalms 0 5 := ⟨gX5_countPalms, am_t3 56 rfl rfl, am_t3 57 rfl rfl, am_t3 58 rfl rfl, _, rfl, rfl⟩
theorem lX5_89 : am_cV RX5 89 mX5_isPalm 1 5 := ⟨gX5_isPalm, am_t3 60 rfl rfl, am_t2 104 rfl rfl, am_t2 105 rfl rfl, _, rfl, rfl⟩
theorem lX7_246 : am_cV RX7 246 mX6_chargeOf 1 6 := ⟨gX6_chargeOf, am_t3 69 rfl rfl, am_t2 220 rfl rfl, am_t2 221 rfl rfl, _, rfl, rfl⟩
theorem lX7_252 : am_cV RX7 252 mX5_isTouched 1 5 := ⟨gX5_isTouched, am_t3 70 rfl rfl, am_t2 198 rfl rfl, am_t2 199 rfl rfl, _, rfl, rfl⟩
theorem lX7_267 : am_cV RX7 267 mX5_sizeOf 1 5 := ⟨gX5_sizeOf, am_t3 75 rfl rfl, am_t2 108 rfl rfl, am_t2 109 rfl rfl, _, rfl, rfl⟩
theorem lX7_270 : am_cV RX7 270 mX5_isPalm 1 5 := ⟨gX5_isPalm, am_t3 76 rfl rfl, am_t2 104 rfl rfl, am_t2 105 rfl rfl, _, rfl, rfl⟩
theorem lX7_174 : am_cS RX7 174 mX7_contactAnswer 2 := ⟨gX7_contactAnswer, am_t3 85 rfl rfl, am_t3 86 rfl rfl⟩
theorem lX7_204 : am_cV RX7 204 mX7_matchIn 2 7 := ⟨gX7_matchIn, am_t3 88 rfl rfl, am_t3 90 rfl rfl, am_t0 22 rfl rfl, _, rfl, rfl⟩
theorem lX7_178 : am_cS RX7 178 mX7_whereAnswer 2 := ⟨gX7_whereAnswer, am_t3 93 rfl rfl, am_t3 94 rfl rfl⟩
theorem lX7_342 : am_cS RX7 342 mX7_sixteenths 1 := ⟨gX7_sixteenths, am_t3 96 rfl rfl, am_t3 97 rfl rfl⟩
theorem lX7_200 : am_cV RX7 200 mX2_guessAt 2 2 := ⟨gX2_guessAt, am_t3 100 rfl rfl, am_t3 101 rfl rfl, am_t3 102 rfl rfl, _, rfl, rfl⟩
theorem lX7_334 : am_cV RX7 334 mX4_peakOf 1 4 := ⟨gX4_peakOf, am_t3 92 rfl rfl, am_t2 100 rfl rfl, am_t2 101 rfl rfl, _, rfl, rfl⟩
theorem lX7_316 : am_cV RX7 316 mX1_countOf 2 1 := ⟨gX1_countOf, am_t3 110 rfl rfl, am_t3 111 rfl rfl, am_t3 112 rfl rfl, _, rfl, rfl⟩
theorem lX7_319 : am_cV RX7 319 mX3_contactsIn 1 3 := ⟨gX3_contactsIn, am_t3 114 rfl rfl, am_t3 115 rfl rfl, am_t3 116 rfl rfl, _, rfl, rfl⟩
theorem lX7_307 : am_cV RX7 307 mX5_signalOfRow 1 5 := ⟨gX5_signalOfRow, am_t3 122 rfl rfl, am_t3 123 rfl rfl, am_t3 124 rfl rfl, _, rfl, rfl⟩
theorem lX7_310 : am_cV RX7 310 mX5_touchedInRow 1 5 := ⟨gX5_touchedInRow, am_t3 126 rfl rfl, am_t3 127 rfl rfl, am_t3 128 rfl rfl, _, rfl, rfl⟩
theorem lX7_313 : am_cV RX7 313 mX5_peaksInRow 1 5 := ⟨gX5_peaksInRow, am_t3 130 rfl rfl, am_t3 131 rfl rfl, am_t3 132 rfl rfl, _, rfl, rfl⟩
theorem lL_7 : am_cV "PalmwardLaw" 7 mX7_area 4 7 := ⟨gX7_area, am_t3 140 rfl rfl, am_t3 141 rfl rfl, am_t3 142 rfl rfl, _, rfl, rfl⟩
theorem lX7_74 : am_cV RX7 74 mX1_tell 4 1 := ⟨gX1_tell, am_t3 228 rfl rfl, am_t3 229 rfl rfl, am_t3 230 rfl rfl, _, rfl, rfl⟩
theorem lL_17 : am_cV "PalmwardLaw" 17 mX7_dial 1 7 := ⟨gX7_dial, am_t3 235 rfl rfl, am_t3 236 rfl rfl, am_t3 237 rfl rfl, _, rfl, rfl⟩
theorem lL_21 : am_cV "PalmwardLaw" 21 mX7_limit 1 7 := ⟨gX7_limit, am_t4 3 rfl rfl, am_t4 4 rfl rfl, am_t4 5 rfl rfl, _, rfl, rfl⟩
theorem lL_24 : am_cV "PalmwardLaw" 24 mX7_heat 1 7 := ⟨gX7_heat, am_t4 11 rfl rfl, am_t4 12 rfl rfl, am_t4 13 rfl rfl, _, rfl, rfl⟩
theorem lL_27 : am_cV "PalmwardLaw" 27 mX7_press 3 7 := ⟨gX7_press, am_t4 20 rfl rfl, am_t4 21 rfl rfl, am_t4 22 rfl rfl, _, rfl, rfl⟩
theorem lX7_91 : am_cS RX7 91 mX7_checkCell 2 := ⟨gX7_checkCell, am_t4 24 rfl rfl, am_t4 25 rfl rfl⟩
theorem lX7_95 : am_cS RX7 95 mX7_checkStrength 1 := ⟨gX7_checkStrength, am_t4 47 rfl rfl, am_t4 48 rfl rfl⟩
theorem lX7_99 : am_cV RX7 99 mX6_addPress 3 6 := ⟨gX6_addPress, am_t4 51 rfl rfl, am_t4 52 rfl rfl, am_t4 53 rfl rfl, _, rfl, rfl⟩
theorem lX7_107 : am_cS RX7 107 mX7_checkRow 1 := ⟨gX7_checkRow, am_t4 43 rfl rfl, am_t4 44 rfl rfl⟩
theorem jX6_26 : am_cJ RX6 26 Lib.Math.max.name Lib.Math.max.code 2 (some .int) := ⟨am_t4 55 rfl rfl, am_t3 1 rfl rfl, am_t1 20 rfl rfl, am_t3 2 rfl rfl⟩
theorem jX6_32 : am_cJ RX6 32 Lib.Math.min.name Lib.Math.min.code 2 (some .int) := ⟨am_t4 56 rfl rfl, am_t3 4 rfl rfl, am_t1 20 rfl rfl, am_t3 5 rfl rfl⟩
theorem lL_33 : am_cV "PalmwardLaw" 33 mX7_noise 2 7 := ⟨gX7_noise, am_t4 60 rfl rfl, am_t4 61 rfl rfl, am_t4 62 rfl rfl, _, rfl, rfl⟩
theorem lX7_112 : am_cV RX7 112 mX6_addNoise 2 6 := ⟨gX6_addNoise, am_t4 65 rfl rfl, am_t4 66 rfl rfl, am_t4 67 rfl rfl, _, rfl, rfl⟩
theorem lL_37 : am_cV "PalmwardLaw" 37 mX7_ofCell 3 7 := ⟨gX7_ofCell, am_t4 72 rfl rfl, am_t4 73 rfl rfl, am_t4 74 rfl rfl, _, rfl, rfl⟩
theorem lX7_153 : am_cS RX7 153 mX7_checkWhat 2 := ⟨gX7_checkWhat, am_t4 76 rfl rfl, am_t4 77 rfl rfl⟩
theorem lL_40 : am_cV "PalmwardLaw" 40 mX7_ofPeak 2 7 := ⟨gX7_ofPeak, am_t4 83 rfl rfl, am_t4 84 rfl rfl, am_t4 85 rfl rfl, _, rfl, rfl⟩
theorem lL_43 : am_cV "PalmwardLaw" 43 mX7_ofContact 2 7 := ⟨gX7_ofContact, am_t4 91 rfl rfl, am_t4 92 rfl rfl, am_t4 93 rfl rfl, _, rfl, rfl⟩
theorem lX7_171 : am_cV RX7 171 mX7_checkName 1 7 := ⟨gX7_checkName, am_t4 95 rfl rfl, am_t4 97 rfl rfl, am_t0 26 rfl rfl, _, rfl, rfl⟩
theorem lL_46 : am_cV "PalmwardLaw" 46 mX7_where 2 7 := ⟨gX7_where, am_t4 103 rfl rfl, am_t4 104 rfl rfl, am_t4 105 rfl rfl, _, rfl, rfl⟩
theorem lL_50 : am_cV "PalmwardLaw" 50 mX7_apart 2 7 := ⟨gX7_apart, am_t4 110 rfl rfl, am_t4 111 rfl rfl, am_t4 112 rfl rfl, _, rfl, rfl⟩
theorem lX7_182 : am_cV RX7 182 mX2_distanceTo 1 2 := ⟨gX2_distanceTo, am_t4 114 rfl rfl, am_t2 167 rfl rfl, am_t2 168 rfl rfl, _, rfl, rfl⟩
theorem lL_53 : am_cV "PalmwardLaw" 53 mX7_ofRow 2 7 := ⟨gX7_ofRow, am_t4 118 rfl rfl, am_t4 119 rfl rfl, am_t4 120 rfl rfl, _, rfl, rfl⟩
theorem lL_56 : am_cV "PalmwardLaw" 56 mX7_ofArea 2 7 := ⟨gX7_ofArea, am_t4 125 rfl rfl, am_t4 126 rfl rfl, am_t4 127 rfl rfl, _, rfl, rfl⟩
theorem lL_59 : am_cV "PalmwardLaw" 59 mX7_many 1 7 := ⟨gX7_many, am_t4 132 rfl rfl, am_t4 133 rfl rfl, am_t4 134 rfl rfl, _, rfl, rfl⟩
theorem lL_62 : am_cV "PalmwardLaw" 62 mX7_guess 3 7 := ⟨gX7_guess, am_t4 139 rfl rfl, am_t4 140 rfl rfl, am_t4 141 rfl rfl, _, rfl, rfl⟩
theorem lL_66 : am_cV "PalmwardLaw" 66 mX7_wouldMatch 1 7 := ⟨gX7_wouldMatch, am_t4 147 rfl rfl, am_t4 148 rfl rfl, am_t4 149 rfl rfl, _, rfl, rfl⟩
theorem lL_69 : am_cV "PalmwardLaw" 69 mX7_keepBy 2 7 := ⟨gX7_keepBy, am_t4 154 rfl rfl, am_t4 155 rfl rfl, am_t4 156 rfl rfl, _, rfl, rfl⟩
theorem lX7_215 : am_cV RX7 215 mX7_wouldKeep 3 7 := ⟨gX7_wouldKeep, am_t4 158 rfl rfl, am_t4 160 rfl rfl, am_t0 27 rfl rfl, _, rfl, rfl⟩
theorem lX7_337 : am_cV RX7 337 mX5_peakAt 1 5 := ⟨gX5_peakAt, am_t4 162 rfl rfl, am_t4 163 rfl rfl, am_t4 164 rfl rfl, _, rfl, rfl⟩
theorem lX12_7 : am_cO RX12 7 := ⟨am_t4 171 rfl rfl, am_t1 38 rfl rfl, am_t1 39 rfl rfl⟩
theorem lX12_35 : am_cI RX12 35 mJx4a65c_init_da8c8 0 := ⟨gJx4a65c_init_da8c8, am_t4 176 rfl rfl, am_t4 177 rfl rfl, rfl, rfl⟩
theorem lJx4a65c_1 : am_cI RJx4a65c 1 mJxc12de_init_da8c8 0 := ⟨gJxc12de_init_da8c8, am_t4 179 rfl rfl, am_t4 180 rfl rfl, rfl, rfl⟩
theorem lJxc12de_1 : am_cI RJxc12de 1 mJxa1e45_init_da8c8 0 := ⟨gJxa1e45_init_da8c8, am_t4 182 rfl rfl, am_t4 183 rfl rfl, rfl, rfl⟩
theorem lJxa1e45_1 : am_cO RJxa1e45 1 := ⟨am_t4 185 rfl rfl, am_t1 38 rfl rfl, am_t1 39 rfl rfl⟩
theorem lX12_3 : am_cS RX12 3 mX12_isIn 3 := ⟨gX12_isIn, am_t5 9 rfl rfl, am_t5 10 rfl rfl⟩
theorem lX12_59 : am_cV RX12 59 mX12_start 2 12 := ⟨gX12_start, am_t5 12 rfl rfl, am_t5 14 rfl rfl, am_t0 28 rfl rfl, _, rfl, rfl⟩
theorem lX12_62 : am_cV RX12 62 mJx4a65c_size_8abf5 0 13 := ⟨gJx4a65c_size_8abf5, am_t5 20 rfl rfl, am_t5 21 rfl rfl, am_t5 22 rfl rfl, _, rfl, rfl⟩
theorem lX12_43 : am_cV RX12 43 mX12_refuse 2 12 := ⟨gX12_refuse, am_t5 16 rfl rfl, am_t5 18 rfl rfl, am_t0 29 rfl rfl, _, rfl, rfl⟩
theorem lX12_68 : am_cI RX12 68 mX8_init 4 := ⟨gX8_init, am_t5 26 rfl rfl, am_t5 27 rfl rfl, rfl, rfl⟩
theorem lX12_71 : am_cV RX12 71 mJx4a65c_add_9ea2d 1 13 := ⟨gJx4a65c_add_9ea2d, am_t5 51 rfl rfl, am_t5 52 rfl rfl, am_t5 53 rfl rfl, _, rfl, rfl⟩
theorem lX8_1 : am_cO RX8 1 := ⟨am_t5 29 rfl rfl, am_t1 38 rfl rfl, am_t1 39 rfl rfl⟩
theorem lJx4a65c_131 : am_cV RJx4a65c 131 mJx4a65c_add_72be8 3 13 := ⟨gJx4a65c_add_72be8, am_t5 55 rfl rfl, am_t5 57 rfl rfl, am_t0 30 rfl rfl, _, rfl, rfl⟩
theorem lJx4a65c_129 : am_cV RJx4a65c 129 mJx4a65c_grow_d5877 0 13 := ⟨gJx4a65c_grow_d5877, am_t5 59 rfl rfl, am_t5 61 rfl rfl, am_t0 31 rfl rfl, _, rfl, rfl⟩
theorem lJx4a65c_69 : am_cV RJx4a65c 69 mJx4a65c_grow_92f84 1 13 := ⟨gJx4a65c_grow_92f84, am_t5 63 rfl rfl, am_t5 65 rfl rfl, am_t0 32 rfl rfl, _, rfl, rfl⟩
theorem jJx4a65c_79 : am_cJ RJx4a65c 79 Lib.Math.max.name Lib.Math.max.code 2 (some .int) := ⟨am_t5 109 rfl rfl, am_t3 1 rfl rfl, am_t1 20 rfl rfl, am_t3 2 rfl rfl⟩
theorem lX12_75 : am_cS RX12 75 mX12_isGlass 2 := ⟨gX12_isGlass, am_t5 127 rfl rfl, am_t5 128 rfl rfl⟩
theorem lX12_89 : am_cV RX12 89 mX12_pressed 4 12 := ⟨gX12_pressed, am_t5 130 rfl rfl, am_t5 132 rfl rfl, am_t0 33 rfl rfl, _, rfl, rfl⟩
theorem lX12_79 : am_cS RX12 79 mX12_cell 2 := ⟨gX12_cell, am_t5 134 rfl rfl, am_t5 135 rfl rfl⟩
theorem jX12_83 : am_cJ RX12 83 Lib.Math.abs.name Lib.Math.abs.code 1 (some .int) := ⟨am_t5 137 rfl rfl, am_t5 138 rfl rfl, am_t1 20 rfl rfl, am_t5 139 rfl rfl⟩
theorem lX12_92 : am_cV RX12 92 mX12_view 0 12 := ⟨gX12_view, am_t5 144 rfl rfl, am_t5 146 rfl rfl, am_t0 34 rfl rfl, _, rfl, rfl⟩
theorem lX12_96 : am_cV RX12 96 mX11_hum 0 11 := ⟨gX11_hum, am_t5 196 rfl rfl, am_t5 197 rfl rfl, am_t5 198 rfl rfl, _, rfl, rfl⟩
theorem lX12_52 : am_cV RX12 52 mX12_charges 0 12 := ⟨gX12_charges, am_t5 150 rfl rfl, am_t5 152 rfl rfl, am_t0 35 rfl rfl, _, rfl, rfl⟩
theorem lX12_56 : am_cI RX12 56 mX11_init 2 := ⟨gX11_init, am_t5 154 rfl rfl, am_t5 155 rfl rfl, rfl, rfl⟩
theorem lX11_3 : am_cO RX11 3 := ⟨am_t5 157 rfl rfl, am_t1 38 rfl rfl, am_t1 39 rfl rfl⟩
theorem lX11_21 : am_cV RX11 21 mX11_isTouched 1 11 := ⟨gX11_isTouched, am_t5 158 rfl rfl, am_t5 159 rfl rfl, am_t5 160 rfl rfl, _, rfl, rfl⟩
theorem lX11_25 : am_cV RX11 25 mX11_region 3 11 := ⟨gX11_region, am_t5 162 rfl rfl, am_t5 164 rfl rfl, am_t0 36 rfl rfl, _, rfl, rfl⟩
theorem lX11_29 : am_cV RX11 29 mX11_isPeak 1 11 := ⟨gX11_isPeak, am_t5 172 rfl rfl, am_t5 174 rfl rfl, am_t0 38 rfl rfl, _, rfl, rfl⟩
theorem lX11_36 : am_cV RX11 36 mX11_spread 5 11 := ⟨gX11_spread, am_t5 166 rfl rfl, am_t5 168 rfl rfl, am_t0 37 rfl rfl, _, rfl, rfl⟩
theorem lX11_40 : am_cSN RX11 40 mX12_isGlass 2 := ⟨gX12_isGlass, ⟨"PalmwardModel", by decide +kernel⟩, am_t5 128 rfl rfl⟩
theorem lX11_44 : am_cSN RX11 44 mX12_cell 2 := ⟨gX12_cell, ⟨"PalmwardModel", by decide +kernel⟩, am_t5 135 rfl rfl⟩
theorem jX11_48 : am_cJ RX11 48 Lib.Math.abs.name Lib.Math.abs.code 1 (some .int) := ⟨am_t5 200 rfl rfl, am_t5 138 rfl rfl, am_t1 20 rfl rfl, am_t5 139 rfl rfl⟩
theorem lX12_226 : am_cV RX12 226 mX12_track 1 12 := ⟨gX12_track, am_t5 205 rfl rfl, am_t5 207 rfl rfl, am_t0 39 rfl rfl, _, rfl, rfl⟩
theorem lX12_230 : am_cV RX12 230 mX11_drift 1 11 := ⟨gX11_drift, am_t6 155 rfl rfl, am_t6 156 rfl rfl, am_t6 157 rfl rfl, _, rfl, rfl⟩
theorem lX12_233 : am_cV RX12 233 mX12_clean 0 12 := ⟨gX12_clean, am_t6 163 rfl rfl, am_t6 165 rfl rfl, am_t0 49 rfl rfl, _, rfl, rfl⟩
theorem lX12_236 : am_cV RX12 236 mX12_contactsNow 0 12 := ⟨gX12_contactsNow, am_t6 167 rfl rfl, am_t6 169 rfl rfl, am_t0 50 rfl rfl, _, rfl, rfl⟩
theorem lX12_186 : am_cI RX12 186 mX10_init 2 := ⟨gX10_init, am_t5 211 rfl rfl, am_t5 212 rfl rfl, rfl, rfl⟩
theorem lX12_195 : am_cV RX12 195 mX11_isPalm 1 11 := ⟨gX11_isPalm, am_t6 14 rfl rfl, am_t6 15 rfl rfl, am_t6 16 rfl rfl, _, rfl, rfl⟩
theorem lX12_198 : am_cV RX12 198 mX12_cancel 1 12 := ⟨gX12_cancel, am_t6 18 rfl rfl, am_t6 20 rfl rfl, am_t0 41 rfl rfl, _, rfl, rfl⟩
theorem lX12_202 : am_cV RX12 202 mX11_place 2 11 := ⟨gX11_place, am_t6 40 rfl rfl, am_t5 216 rfl rfl, am_t5 217 rfl rfl, _, rfl, rfl⟩
theorem lX12_206 : am_cV RX12 206 mX9_go 3 9 := ⟨gX9_go, am_t6 41 rfl rfl, am_t6 42 rfl rfl, am_t6 43 rfl rfl, _, rfl, rfl⟩
theorem lX12_209 : am_cV RX12 209 mX12_miss 1 12 := ⟨gX12_miss, am_t6 61 rfl rfl, am_t6 63 rfl rfl, am_t0 43 rfl rfl, _, rfl, rfl⟩
theorem lX12_215 : am_cV RX12 215 mX12_begin 3 12 := ⟨gX12_begin, am_t6 65 rfl rfl, am_t6 67 rfl rfl, am_t0 44 rfl rfl, _, rfl, rfl⟩
theorem lX12_218 : am_cV RX12 218 mX12_claims 0 12 := ⟨gX12_claims, am_t6 140 rfl rfl, am_t6 142 rfl rfl, am_t0 46 rfl rfl, _, rfl, rfl⟩
theorem lX10_9 : am_cO RX10 9 := ⟨am_t5 214 rfl rfl, am_t1 38 rfl rfl, am_t1 39 rfl rfl⟩
theorem lX10_44 : am_cV RX10 44 mX11_place 2 11 := ⟨gX11_place, am_t5 215 rfl rfl, am_t5 216 rfl rfl, am_t5 217 rfl rfl, _, rfl, rfl⟩
theorem lX10_48 : am_cV RX10 48 mX10_go 4 10 := ⟨gX10_go, am_t5 219 rfl rfl, am_t5 221 rfl rfl, am_t0 40 rfl rfl, _, rfl, rfl⟩
theorem lX10_65 : am_cV RX10 65 mX9_far 2 9 := ⟨gX9_far, am_t5 224 rfl rfl, am_t5 225 rfl rfl, am_t5 226 rfl rfl, _, rfl, rfl⟩
theorem lX12_112 : am_cV RX12 112 mX12_count 3 12 := ⟨gX12_count, am_t6 22 rfl rfl, am_t6 24 rfl rfl, am_t0 42 rfl rfl, _, rfl, rfl⟩
theorem lX12_147 : am_cV RX12 147 mX12_areaOf 1 12 := ⟨gX12_areaOf, am_t6 70 rfl rfl, am_t6 72 rfl rfl, am_t0 45 rfl rfl, _, rfl, rfl⟩
theorem lX12_150 : am_cI RX12 150 mX9_init 3 := ⟨gX9_init, am_t6 74 rfl rfl, am_t6 75 rfl rfl, rfl, rfl⟩
theorem lX12_160 : am_cV RX12 160 mX9_to 1 9 := ⟨gX9_to, am_t6 136 rfl rfl, am_t6 137 rfl rfl, am_t6 138 rfl rfl, _, rfl, rfl⟩
theorem lX9_3 : am_cO RX9 3 := ⟨am_t6 77 rfl rfl, am_t1 38 rfl rfl, am_t1 39 rfl rfl⟩
theorem lX12_168 : am_cV RX12 168 mX12_mayClaim 1 12 := ⟨gX12_mayClaim, am_t6 144 rfl rfl, am_t6 146 rfl rfl, am_t0 47 rfl rfl, _, rfl, rfl⟩
theorem lX12_176 : am_cV RX12 176 mX12_claim 2 12 := ⟨gX12_claim, am_t6 150 rfl rfl, am_t6 152 rfl rfl, am_t0 48 rfl rfl, _, rfl, rfl⟩
theorem lX11_54 : am_cV RX11 54 mX11_isPalm 1 11 := ⟨gX11_isPalm, am_t6 159 rfl rfl, am_t6 15 rfl rfl, am_t6 16 rfl rfl, _, rfl, rfl⟩
theorem lX11_57 : am_cS RX11 57 mJ6_signum_0f7a4 1 := ⟨gJ6_signum_0f7a4, am_t6 160 rfl rfl, am_t6 161 rfl rfl⟩
theorem lX12_248 : am_cV RX12 248 mX12_ofCellNow 3 12 := ⟨gX12_ofCellNow, am_t6 179 rfl rfl, am_t6 181 rfl rfl, am_t0 51 rfl rfl, _, rfl, rfl⟩
theorem lX12_242 : am_cV RX12 242 mX11_isTouched 1 11 := ⟨gX11_isTouched, am_t6 183 rfl rfl, am_t5 159 rfl rfl, am_t5 160 rfl rfl, _, rfl, rfl⟩
theorem lX12_252 : am_cS RX12 252 mX12_ofPeakNow 3 := ⟨gX12_ofPeakNow, am_t6 188 rfl rfl, am_t6 189 rfl rfl⟩
theorem lX12_261 : am_cV RX12 261 mX12_isNone 1 12 := ⟨gX12_isNone, am_t6 195 rfl rfl, am_t6 197 rfl rfl, am_t0 52 rfl rfl, _, rfl, rfl⟩
theorem lX12_264 : am_cS RX12 264 mX12_ofContactNow 2 := ⟨gX12_ofContactNow, am_t6 199 rfl rfl, am_t6 200 rfl rfl⟩
theorem lX12_274 : am_cS RX12 274 mX12_whereNow 2 := ⟨gX12_whereNow, am_t6 206 rfl rfl, am_t6 207 rfl rfl⟩
theorem lX12_278 : am_cS RX12 278 mX12_ofRowNow 3 := ⟨gX12_ofRowNow, am_t6 217 rfl rfl, am_t6 218 rfl rfl⟩
theorem lX12_281 : am_cV RX12 281 mX12_ofAreaNow 2 12 := ⟨gX12_ofAreaNow, am_t6 224 rfl rfl, am_t6 226 rfl rfl, am_t0 53 rfl rfl, _, rfl, rfl⟩
theorem lX12_284 : am_cV RX12 284 mX12_manyNow 2 12 := ⟨gX12_manyNow, am_t6 232 rfl rfl, am_t6 234 rfl rfl, am_t0 54 rfl rfl, _, rfl, rfl⟩
theorem lX12_297 : am_cS RX12 297 mX12_guessNow 3 := ⟨gX12_guessNow, am_t7 0 rfl rfl, am_t7 1 rfl rfl⟩
theorem lX12_301 : am_cV RX12 301 mX12_wouldMatchNow 2 12 := ⟨gX12_wouldMatchNow, am_t7 13 rfl rfl, am_t7 15 rfl rfl, am_t0 55 rfl rfl, _, rfl, rfl⟩
theorem lX12_304 : am_cV RX12 304 mX12_calmInNow 0 12 := ⟨gX12_calmInNow, am_t7 21 rfl rfl, am_t7 23 rfl rfl, am_t0 56 rfl rfl, _, rfl, rfl⟩
theorem lX12_307 : am_cV RX12 307 mX12_keepByNow 2 12 := ⟨gX12_keepByNow, am_t7 29 rfl rfl, am_t7 31 rfl rfl, am_t0 57 rfl rfl, _, rfl, rfl⟩
theorem lX12_312 : am_cS RX12 312 mX12_add 2 := ⟨gX12_add, am_t7 38 rfl rfl, am_t7 39 rfl rfl⟩
theorem lX12_319 : am_cV RX12 319 mX12_digestContact 3 12 := ⟨gX12_digestContact, am_t7 42 rfl rfl, am_t7 44 rfl rfl, am_t0 58 rfl rfl, _, rfl, rfl⟩
theorem kX4_18 : Cond.constantLong RX4 18 (1152921504606846976 : Int64) ∈ am_W := am_t2 71 rfl rfl
theorem kX4_70 : Cond.constantLong RX4 70 (256 : Int64) ∈ am_W := am_t2 75 rfl rfl
theorem kX4_72 : Cond.constantLong RX4 72 (17592186044416 : Int64) ∈ am_W := am_t2 89 rfl rfl
theorem kX4_74 : Cond.constantLong RX4 74 (63 : Int64) ∈ am_W := am_t2 90 rfl rfl
theorem kX2_63 : Cond.constantFloat RX2 63 (1082130432 : UInt32) ∈ am_W := am_t2 123 rfl rfl
theorem kX3_151 : Cond.constantFloat RX3 151 (1098907648 : UInt32) ∈ am_W := am_t2 183 rfl rfl
theorem kX3_156 : Cond.constantFloat RX3 156 (1094713344 : UInt32) ∈ am_W := am_t2 192 rfl rfl
theorem kX5_78 : Cond.constantLong RX5 78 (16 : Int64) ∈ am_W := am_t3 10 rfl rfl
theorem kX5_80 : Cond.constantLong RX5 80 (2 : Int64) ∈ am_W := am_t3 11 rfl rfl
theorem kX7_219 : Cond.constantLong RX7 219 (58249 : Int64) ∈ am_W := am_t3 51 rfl rfl
theorem kX7_340 : Cond.constantLong RX7 340 (31 : Int64) ∈ am_W := am_t3 64 rfl rfl
theorem kX7_346 : Cond.constantDouble RX7 346 (4625196817309499392 : UInt64) ∈ am_W := am_t3 99 rfl rfl
theorem kX2_68 : Cond.constantFloat RX2 68 (1109393408 : UInt32) ∈ am_W := am_t3 104 rfl rfl
theorem kX2_69 : Cond.constantFloat RX2 69 (1113587712 : UInt32) ∈ am_W := am_t3 105 rfl rfl
theorem kJ8_200 : Cond.constant RJ8 200 (2147483639 : Int32) ∈ am_W := am_t5 71 rfl rfl
theorem kX9_47 : Cond.constantFloat RX9 47 (1082130432 : UInt32) ∈ am_W := am_t6 45 rfl rfl
theorem kJ9_134 : Cond.constant RJ9 134 (2147483647 : Int32) ∈ am_W := am_t6 52 rfl rfl
theorem kX12_175 : Cond.constantFloat RX12 175 (1098907648 : UInt32) ∈ am_W := am_t6 149 rfl rfl
theorem kX12_183 : Cond.constantFloat RX12 183 (1094713344 : UInt32) ∈ am_W := am_t6 154 rfl rfl
theorem kX12_288 : Cond.constantFloat RX12 288 (1109393408 : UInt32) ∈ am_W := am_t7 3 rfl rfl
theorem kX12_289 : Cond.constantFloat RX12 289 (1113587712 : UInt32) ∈ am_W := am_t7 4 rfl rfl
theorem kX12_317 : Cond.constantLong RX12 317 (58249 : Int64) ∈ am_W := am_t7 37 rfl rfl
theorem kX12_310 : Cond.constantLong RX12 310 (31 : Int64) ∈ am_W := am_t7 41 rfl rfl
theorem kX12_315 : Cond.constantDouble RX12 315 (4625196817309499392 : UInt64) ∈ am_W := am_t7 46 rfl rfl
theorem nX7_7 : am_N RX7 7 6 3 [.null, .null, .int 0] := ⟨RX6, TX6, tyX6, rfl, am_t1 40 rfl rfl, am_t1 41 rfl rfl, am_t1 2 rfl rfl, uX6, tyX6_ok, by decide +kernel, by intro v hv; simp only [List.mem_cons, List.not_mem_nil, or_false] at hv; rcases hv with rfl | rfl | rfl <;> exact ⟨trivial, fun _ => rfl⟩⟩
theorem cX7_7 : Cond.classLink RX7 7 "Palmward$Sheet" ∈ am_W := am_t1 40 rfl rfl
theorem nX7_16 : am_N RX7 16 5 8 [.null, .null, .null, .null, .null, .null, .int 0, .int 0] := ⟨RX5, TX5, tyX5, rfl, am_t1 59 rfl rfl, am_t1 60 rfl rfl, am_t1 3 rfl rfl, uX5, tyX5_ok, by decide +kernel, by intro v hv; simp only [List.mem_cons, List.not_mem_nil, or_false] at hv; rcases hv with rfl | rfl | rfl | rfl | rfl | rfl | rfl | rfl <;> exact ⟨trivial, fun _ => rfl⟩⟩
theorem cX7_16 : Cond.classLink RX7 16 "Palmward$Picture" ∈ am_W := am_t1 59 rfl rfl
theorem nX7_29 : am_N RX7 29 4 3 [.null, .null, .long 0] := ⟨RX4, TX4, tyX4, rfl, am_t1 106 rfl rfl, am_t1 107 rfl rfl, am_t1 4 rfl rfl, uX4, tyX4_ok, by decide +kernel, by intro v hv; simp only [List.mem_cons, List.not_mem_nil, or_false] at hv; rcases hv with rfl | rfl | rfl <;> exact ⟨trivial, fun _ => rfl⟩⟩
theorem cX7_29 : Cond.classLink RX7 29 "Palmward$Pairing" ∈ am_W := am_t1 106 rfl rfl
theorem nX7_36 : am_N RX7 36 1 2 [.null, .int 0] := ⟨RX1, TX1, tyX1, rfl, am_t1 123 rfl rfl, am_t1 124 rfl rfl, am_t1 5 rfl rfl, uX1, tyX1_ok, by decide +kernel, by intro v hv; simp only [List.mem_cons, List.not_mem_nil, or_false] at hv; rcases hv with rfl | rfl <;> exact ⟨trivial, fun _ => rfl⟩⟩
theorem cX7_36 : Cond.classLink RX7 36 "Palmward$Areas" ∈ am_W := am_t1 123 rfl rfl
theorem nX7_43 : am_N RX7 43 3 5 [.null, .null, .int 0, .int 0, .int 0] := ⟨RX3, TX3, tyX3, rfl, am_t1 165 rfl rfl, am_t1 166 rfl rfl, am_t1 7 rfl rfl, uX3, tyX3_ok, by decide +kernel, by intro v hv; simp only [List.mem_cons, List.not_mem_nil, or_false] at hv; rcases hv with rfl | rfl | rfl | rfl | rfl <;> exact ⟨trivial, fun _ => rfl⟩⟩
theorem cX7_43 : Cond.classLink RX7 43 "Palmward$Hand" ∈ am_W := am_t1 165 rfl rfl
theorem nX1_9 : am_N RX1 9 0 5 [.int 0, .int 0, .int 0, .int 0, .null] := ⟨RX0, TX0, tyX0, rfl, am_t1 129 rfl rfl, am_t1 131 rfl rfl, am_t1 6 rfl rfl, uX0, tyX0_ok, by decide +kernel, by intro v hv; simp only [List.mem_cons, List.not_mem_nil, or_false] at hv; rcases hv with rfl | rfl | rfl | rfl | rfl <;> exact ⟨trivial, fun _ => rfl⟩⟩
theorem cX1_9 : Cond.classLink RX1 9 "Palmward$Area" ∈ am_W := am_t1 129 rfl rfl
theorem nX3_9 : am_N RX3 9 2 16 [.int 0, .int 0, .int 0, .int 0, .int 0, .int 0, .int 0, .int 0, .float 0, .float 0, .float 0, .float 0, .float 0, .float 0, .float 0, .null] := ⟨RX2, TX2, tyX2, rfl, am_t1 171 rfl rfl, am_t1 173 rfl rfl, am_t1 8 rfl rfl, uX2, tyX2_ok, by decide +kernel, by intro v hv; simp only [List.mem_cons, List.not_mem_nil, or_false] at hv; rcases hv with rfl | rfl | rfl | rfl | rfl | rfl | rfl | rfl | rfl | rfl | rfl | rfl | rfl | rfl | rfl | rfl <;> exact ⟨trivial, fun _ => rfl⟩⟩
theorem cX3_9 : Cond.classLink RX3 9 "Palmward$Contact" ∈ am_W := am_t1 171 rfl rfl
theorem nL_8 : am_N "PalmwardLaw" 8 7 11 [.null, .null, .null, .null, .null, .null, .null, .int 0, .int 0, .int 0, .int 0] := ⟨RX7, TX7, tyX7, rfl, am_t1 32 rfl rfl, am_t1 33 rfl rfl, am_t1 1 rfl rfl, uX7, tyX7_ok, by decide +kernel, by intro v hv; simp only [List.mem_cons, List.not_mem_nil, or_false] at hv; rcases hv with rfl | rfl | rfl | rfl | rfl | rfl | rfl | rfl | rfl | rfl | rfl <;> exact ⟨trivial, fun _ => rfl⟩⟩
theorem cL_8 : Cond.classLink "PalmwardLaw" 8 "Palmward" ∈ am_W := am_t1 32 rfl rfl
theorem nL_73 : am_N "PalmwardLaw" 73 12 13 [.int 0, .null, .null, .int 0, .int 0, .int 0, .null, .null, .int 0, .int 0, .int 0, .int 0, .int 0] := ⟨RX12, TX12, tyX12, rfl, am_t4 166 rfl rfl, am_t4 167 rfl rfl, am_t1 9 rfl rfl, uX12, tyX12_ok, by decide +kernel, by intro v hv; simp only [List.mem_cons, List.not_mem_nil, or_false] at hv; rcases hv with rfl | rfl | rfl | rfl | rfl | rfl | rfl | rfl | rfl | rfl | rfl | rfl | rfl <;> exact ⟨trivial, fun _ => rfl⟩⟩
theorem cL_73 : Cond.classLink "PalmwardLaw" 73 "PalmwardModel" ∈ am_W := am_t4 166 rfl rfl
theorem nX12_27 : am_N RX12 27 9 15 [.float 0, .float 0, .int 0, .null, .float 0, .float 0, .float 0, .float 0, .float 0, .int 0, .int 0, .int 0, .int 0, .int 0, .int 0] := ⟨RX9, TX9, tyX9, rfl, am_t4 172 rfl rfl, am_t6 69 rfl rfl, am_t1 31 rfl rfl, uX9, tyX9_ok, by decide +kernel, by intro v hv; simp only [List.mem_cons, List.not_mem_nil, or_false] at hv; rcases hv with rfl | rfl | rfl | rfl | rfl | rfl | rfl | rfl | rfl | rfl | rfl | rfl | rfl | rfl | rfl <;> exact ⟨trivial, fun _ => rfl⟩⟩
theorem cX12_27 : Cond.classLink RX12 27 "PalmwardModel$Contact" ∈ am_W := am_t4 172 rfl rfl
theorem nX12_33 : am_N RX12 33 13 3 [.int 0, .null, .int 0] := ⟨RJx4a65c, TJx4a65c, tyJx4a65c, rfl, am_t4 174 rfl rfl, am_t4 175 rfl rfl, am_t1 12 rfl rfl, uJx4a65c, tyJx4a65c_ok, by decide +kernel, by intro v hv; simp only [List.mem_cons, List.not_mem_nil, or_false] at hv; rcases hv with rfl | rfl | rfl <;> exact ⟨trivial, fun _ => rfl⟩⟩
theorem cX12_33 : Cond.classLink RX12 33 "java/util/ArrayList" ∈ am_W := am_t4 174 rfl rfl
theorem nX12_50 : am_N RX12 50 11 4 [.null, .null, .null, .int 0] := ⟨RX11, TX11, tyX11, rfl, am_t5 148 rfl rfl, am_t5 149 rfl rfl, am_t1 24 rfl rfl, uX11, tyX11_ok, by decide +kernel, by intro v hv; simp only [List.mem_cons, List.not_mem_nil, or_false] at hv; rcases hv with rfl | rfl | rfl | rfl <;> exact ⟨trivial, fun _ => rfl⟩⟩
theorem cX12_50 : Cond.classLink RX12 50 "PalmwardModel$View" ∈ am_W := am_t5 148 rfl rfl
theorem nX12_66 : am_N RX12 66 8 5 [.int 0, .int 0, .int 0, .int 0, .null] := ⟨RX8, TX8, tyX8, rfl, am_t5 24 rfl rfl, am_t5 25 rfl rfl, am_t1 18 rfl rfl, uX8, tyX8_ok, by decide +kernel, by intro v hv; simp only [List.mem_cons, List.not_mem_nil, or_false] at hv; rcases hv with rfl | rfl | rfl | rfl | rfl <;> exact ⟨trivial, fun _ => rfl⟩⟩
theorem cX12_66 : Cond.classLink RX12 66 "PalmwardModel$Area" ∈ am_W := am_t5 24 rfl rfl
theorem nX12_184 : am_N RX12 184 10 8 [.null, .null, .null, .null, .int 0, .int 0, .null, .null] := ⟨RX10, TX10, tyX10, rfl, am_t5 209 rfl rfl, am_t5 210 rfl rfl, am_t1 27 rfl rfl, uX10, tyX10_ok, by decide +kernel, by intro v hv; simp only [List.mem_cons, List.not_mem_nil, or_false] at hv; rcases hv with rfl | rfl | rfl | rfl | rfl | rfl | rfl | rfl <;> exact ⟨trivial, fun _ => rfl⟩⟩
theorem cX12_184 : Cond.classLink RX12 184 "PalmwardModel$Match" ∈ am_W := am_t5 209 rfl rfl
theorem ac_int : Cond.arrayClass .int ∈ am_W := am_t1 58 rfl rfl
theorem ac_long : Cond.arrayClass .long ∈ am_W := am_t1 122 rfl rfl
theorem ac_float : Cond.arrayClass .float ∈ am_W := am_t2 8 rfl rfl
theorem ac_boolean : Cond.arrayClass .boolean ∈ am_W := am_t5 195 rfl rfl
theorem ac_double : Cond.arrayClass .double ∈ am_W := am_t7 47 rfl rfl
end
section
/-! ===== small helpers ===== -/
theorem am_leN (N : Nat) {k : Nat} (c : nI N ≤ nI k) (hN : N < 2 ^ 31) (hk : k < 2 ^ 31) : N ≤ k := (nI_leI hN hk).mp c
theorem am_nleN (N : Nat) {k : Nat} (c : ¬ nI N ≤ nI k) (hN : N < 2 ^ 31) (hk : k < 2 ^ 31) : k < N := Nat.lt_of_not_le fun h => c ((nI_leI hN hk).mpr h)
theorem am_ltN (N : Nat) {k : Nat} (c : nI k < nI N) (hN : N < 2 ^ 31) (hk : k < 2 ^ 31) : k < N := (nI_ltI hk hN).mp c
theorem am_nltN (N : Nat) {k : Nat} (c : ¬ nI k < nI N) (hN : N < 2 ^ 31) (hk : k < 2 ^ 31) : N ≤ k := Nat.le_of_not_lt fun h => c ((nI_ltI hk hN).mpr h)
theorem am_gtN (N : Nat) {k : Nat} (c : nI N < nI k) (hN : N < 2 ^ 31) (hk : k < 2 ^ 31) : N < k := (nI_ltI hN hk).mp c
theorem am_ngtN (N : Nat) {k : Nat} (c : ¬ nI N < nI k) (hN : N < 2 ^ 31) (hk : k < 2 ^ 31) : k ≤ N := Nat.le_of_not_lt fun h => c ((nI_ltI hN hk).mpr h)
theorem am_eqN (N : Nat) {k : Nat} (c : nI k = nI N) (hN : N < 2 ^ 31) (hk : k < 2 ^ 31) : k = N := (nI_eq hk hN).mp c
theorem am_neN (N : Nat) {k : Nat} (c : ¬ nI k = nI N) : k ≠ N := fun h => c (by rw [h])
theorem am_up_eq {α : Type} {f : Nat → α} {i : Nat} {c : α} : va_up f i c i = c := by simp [va_up]
theorem am_up_ne {α : Type} {f : Nat → α} {i j : Nat} {c : α} (h : j ≠ i) : va_up f i c j = f j := by simp [va_up, h]
/-- an index within, in either form -/
theorem am_ix {c N : Nat} (h : c < N) (hN : N < 2 ^ 31) : vp_in (nI c) N := vp_in_nI h hN
/-- a counting loop: from k to N with a thing s that changes -/
theorem am_for {σ : Type} (N : Nat) (I : Nat → σ → Prop) (G : Nat → σ → Prop) (hx : ∀ s, I N s → G N s) (hs : ∀ k s, k < N → I k s → (∀ s', I (k + 1) s' → G (k + 1) s') → G k s) : ∀ k s, k ≤ N → I k s → G k s := by
  intro k
  generalize hd : N - k = d
  induction d generalizing k with
  | zero =>
    intro s hk hI
    have e : k = N := by omega
    subst e
    exact hx s hI
  | succ d ih =>
    intro s hk hI
    exact hs k s (by omega) hI (fun s' hI' => ih (k + 1) (by omega) s' (by omega) hI')
theorem am_lo1 {y : Nat} (h : y < 2 ^ 30) : (if nI y - 1 < 0 then 0 else nI y - 1) = nI (y - 1) := by
  cases y with
  | zero => decide
  | succ y => rw [nI_pred, if_neg (nI_pos (by omega))]; rfl
theorem am_hi1 (N : Nat) {y : Nat} (h : y < 2 ^ 30) (hN : N < 2 ^ 30) : (if nI N < nI y + 1 then nI N else nI y + 1) = nI (min (y + 1) N) := by
  rw [nI_1]
  by_cases c : N < y + 1
  · rw [if_pos (nI_lt c (by omega)), Nat.min_eq_right (by omega)]
  · rw [if_neg (nI_nlt (by omega) (by omega)), Nat.min_eq_left (by omega)]
theorem am_cellN (r c : Nat) : nI r * 8 + nI c = nI (8 * r + c) := by
  rw [show (8 : Int32) = nI 8 from rfl, pk_mul, nI_add, Nat.mul_comm]
theorem am_cond {α : Type} {c d : Prop} [Decidable c] [Decidable d] {x y : α} (h : c ↔ d) : (if c then x else y) = (if d then x else y) := by
  by_cases hc : c
  · rw [if_pos hc, if_pos (h.mp hc)]
  · rw [if_neg hc, if_neg (fun q => hc (h.mpr q))]
end
section
/-! ===== what the class reckons, as plain functions ===== -/
def m_cmp (x y : Int32) : Int32 := if y ≤ x then (if x = y then 0 else 1) else -1
def m_step (s : Int32) : Int32 := if -10 < s then (if s < 10 then m_cmp s 0 else 4) else -4
def m_settle (sig reg bs : Nat → Int32) : Nat → Int32 := fun k => if 20 ≤ sig k ∧ reg k ≤ 14 then bs k else bs k + m_step (sig k)
/-- what a press of s at (x, y) brings to the cell j -/
def m_pr (s : Int32) (x y j : Nat) : Int32 := s >>> (((if j / 8 = y then 0 else 1) + (if j % 8 = x then 0 else 1)) &&& 31)
def m_pressTo (w : Nat → Int32) (s : Int32) (x y r c : Nat) : Nat → Int32 := fun j => if (j / 8 < r ∨ (j / 8 = r ∧ j % 8 < c)) ∧ y ≤ j / 8 + 1 ∧ j / 8 ≤ y + 1 ∧ x ≤ j % 8 + 1 ∧ j % 8 ≤ x + 1 then w j + m_pr s x y j else w j
def m_press (w : Nat → Int32) (s : Int32) (x y : Nat) : Nat → Int32 := m_pressTo w s x y 6 0
theorem m_pressTo_row {w : Nat → Int32} {s : Int32} {x y r : Nat} : m_pressTo w s x y r (min (x + 1) 7 + 1) = m_pressTo w s x y (r + 1) 0 := by
  funext j
  unfold m_pressTo
  exact am_cond (by have : j % 8 < 8 := Nat.mod_lt _ (by decide); omega)
theorem m_pressTo_col {w : Nat → Int32} {s : Int32} {x y r : Nat} : m_pressTo w s x y r (x - 1) = m_pressTo w s x y r 0 := by
  funext j
  unfold m_pressTo
  exact am_cond (by omega)
theorem m_pressTo_start {w : Nat → Int32} {s : Int32} {x y : Nat} : m_pressTo w s x y (y - 1) 0 = w := by
  funext j
  unfold m_pressTo
  rw [if_neg (by omega)]
theorem m_pressTo_end {w : Nat → Int32} {s : Int32} {x y : Nat} {j : Nat} (hj : j < 48) : m_pressTo w s x y (min (y + 1) 5 + 1) 0 j = m_press w s x y j := by
  unfold m_press m_pressTo
  exact am_cond (by omega)
theorem m_pressTo_step {w : Nat → Int32} {s : Int32} {x y r c : Nat} (hr : y ≤ r + 1) (hr2 : r ≤ y + 1) (hc : x ≤ c + 1) (hc2 : c ≤ x + 1) (hc8 : c < 8) : va_up (m_pressTo w s x y r c) (8 * r + c) (m_pressTo w s x y r c (8 * r + c) + s >>> (((if r = y then 0 else 1) + (if c = x then 0 else 1)) &&& 31)) = m_pressTo w s x y r (c + 1) := by
  have e1 : (8 * r + c) / 8 = r := by omega
  have e2 : (8 * r + c) % 8 = c := by omega
  funext j
  by_cases e : j = 8 * r + c
  · subst e
    rw [am_up_eq]
    unfold m_pressTo m_pr
    have hn : ¬ ((r < r ∨ r = r ∧ c < c) ∧ y ≤ r + 1 ∧ r ≤ y + 1 ∧ x ≤ c + 1 ∧ c ≤ x + 1) := by omega
    have hp : (r < r ∨ r = r ∧ c < c + 1) ∧ y ≤ r + 1 ∧ r ≤ y + 1 ∧ x ≤ c + 1 ∧ c ≤ x + 1 := by omega
    rw [e1, e2, if_neg hn, if_pos hp]
  · rw [am_up_ne e]
    unfold m_pressTo
    exact am_cond (by omega)
end
section
/-! ===== regions, peaks, places, hum ===== -/
abbrev m_R : Type := (Nat → Int32) × List Nat
def m_try (sig : Nat → Int32) (c : Nat) (r : m_R) : m_R := if r.2.length < 48 ∧ 20 ≤ sig c ∧ r.1 c = 0 then (va_up r.1 c 1, r.2 ++ [c]) else r
def m_tryO (sig : Nat → Int32) (c : Option Nat) (r : m_R) : m_R := match c with
  | none => r
  | some c => m_try sig c r
def m_left (c : Nat) : Option Nat := if c % 8 = 0 then none else some (c - 1)
def m_right (c : Nat) : Option Nat := if c % 8 = 7 then none else some (c + 1)
def m_up (c : Nat) : Option Nat := if c / 8 = 0 then none else some (c - 8)
def m_down (c : Nat) : Option Nat := if c / 8 = 5 then none else some (c + 8)
def m_exp (sig : Nat → Int32) (c : Nat) (r : m_R) : m_R := m_tryO sig (m_down c) (m_tryO sig (m_up c) (m_tryO sig (m_right c) (m_tryO sig (m_left c) r)))
def m_bfs (sig : Nat → Int32) : Nat → Nat → m_R → m_R
  | 0, _, r => r
  | d + 1, k, r => if k < r.2.length then m_bfs sig d (k + 1) (m_exp sig (r.2.getD k 0) r) else r
def m_region (sig : Nat → Int32) (s : Nat) (reg : Nat → Int32) : Nat → Int32 := fun c => if c ∈ (m_bfs sig 48 0 (m_try sig s (reg, []))).2 then nI (m_bfs sig 48 0 (m_try sig s (reg, []))).2.length else (m_bfs sig 48 0 (m_try sig s (reg, []))).1 c
def m_regs (sig : Nat → Int32) : Nat → Nat → Int32
  | 0 => fun _ => 0
  | k + 1 => if 20 ≤ sig k ∧ m_regs sig k k = 0 then m_region sig k (m_regs sig k) else m_regs sig k
/-- a queue that is well: cells, at most 48, all touched -/
def m_ok (sig : Nat → Int32) (r : m_R) : Prop := r.2.length ≤ 48 ∧ (∀ c ∈ r.2, c < 48 ∧ 20 ≤ sig c) ∧ ∀ c, c < 48 → r.1 c = 0 ∨ (20 ≤ sig c ∧ ∃ j : Nat, 1 ≤ j ∧ j ≤ 48 ∧ r.1 c = nI j)
theorem m_ok_try {sig : Nat → Int32} {c : Nat} {r : m_R} (h : m_ok sig r) (hc : c < 48) : m_ok sig (m_try sig c r) := by
  unfold m_try
  split
  · rename_i q
    refine ⟨by simp; omega, fun x hx => ?_, fun x hx => ?_⟩
    · rcases List.mem_append.mp hx with hx | hx
      · exact h.2.1 x hx
      · rw [List.mem_singleton.mp hx]
        exact ⟨hc, q.2.1⟩
    · by_cases e : x = c
      · subst e
        exact Or.inr ⟨q.2.1, 1, by omega, by omega, am_up_eq⟩
      · show va_up r.1 c 1 x = 0 ∨ _
        rw [show ((va_up r.1 c 1, r.2 ++ [c]) : m_R).1 x = r.1 x from am_up_ne e, am_up_ne e]
        exact h.2.2 x hx
  · exact h
theorem m_ok_tryO {sig : Nat → Int32} {c : Option Nat} {r : m_R} (h : m_ok sig r) (hc : ∀ x, c = some x → x < 48) : m_ok sig (m_tryO sig c r) := by
  cases c with
  | none => exact h
  | some c => exact m_ok_try h (hc c rfl)
theorem m_left_lt {c x : Nat} (hc : c < 48) (h : m_left c = some x) : x < 48 := by
  unfold m_left at h
  split at h <;> simp at h
  omega
theorem m_right_lt {c x : Nat} (hc : c < 48) (h : m_right c = some x) : x < 48 := by
  unfold m_right at h
  split at h <;> simp at h
  omega
theorem m_up_lt {c x : Nat} (hc : c < 48) (h : m_up c = some x) : x < 48 := by
  unfold m_up at h
  split at h <;> simp at h
  omega
theorem m_down_lt {c x : Nat} (hc : c < 48) (h : m_down c = some x) : x < 48 := by
  unfold m_down at h
  split at h <;> simp at h
  omega
theorem m_ok_exp {sig : Nat → Int32} {c : Nat} {r : m_R} (h : m_ok sig r) (hc : c < 48) : m_ok sig (m_exp sig c r) :=
  m_ok_tryO (m_ok_tryO (m_ok_tryO (m_ok_tryO h (fun _ q => m_left_lt hc q)) (fun _ q => m_right_lt hc q)) (fun _ q => m_up_lt hc q)) (fun _ q => m_down_lt hc q)
theorem m_ok_get {sig : Nat → Int32} {r : m_R} (h : m_ok sig r) {k : Nat} (hk : k < r.2.length) : r.2.getD k 0 < 48 ∧ 20 ≤ sig (r.2.getD k 0) := by
  have : r.2.getD k 0 ∈ r.2 := by
    rw [List.getD_eq_getElem?_getD, List.getElem?_eq_getElem hk]
    exact List.getElem_mem hk
  exact h.2.1 _ this
theorem m_ok_bfs {sig : Nat → Int32} : ∀ (d k : Nat) (r : m_R), m_ok sig r → m_ok sig (m_bfs sig d k r)
  | 0, _, _, h => h
  | d + 1, k, r, h => by
    unfold m_bfs
    split
    · rename_i q
      exact m_ok_bfs d (k + 1) _ (m_ok_exp h (m_ok_get h q).1)
    · exact h
/-- what was noted stays noted -/
theorem m_try_sub {sig : Nat → Int32} {c x : Nat} {r : m_R} : (r.1 x ≠ 0 → (m_try sig c r).1 x ≠ 0) ∧ (x ∈ r.2 → x ∈ (m_try sig c r).2) := by
  unfold m_try
  split
  · refine ⟨fun h => ?_, fun h => List.mem_append_left _ h⟩
    by_cases e : x = c
    · subst e
      show va_up r.1 x 1 x ≠ 0
      rw [am_up_eq]
      decide
    · show va_up r.1 c 1 x ≠ 0
      rw [am_up_ne e]
      exact h
  · exact ⟨id, id⟩
theorem m_tryO_sub {sig : Nat → Int32} {c : Option Nat} {x : Nat} {r : m_R} : (r.1 x ≠ 0 → (m_tryO sig c r).1 x ≠ 0) ∧ (x ∈ r.2 → x ∈ (m_tryO sig c r).2) := by
  cases c with
  | none => exact ⟨id, id⟩
  | some c => exact m_try_sub
theorem m_exp_sub {sig : Nat → Int32} {c x : Nat} {r : m_R} : (r.1 x ≠ 0 → (m_exp sig c r).1 x ≠ 0) ∧ (x ∈ r.2 → x ∈ (m_exp sig c r).2) :=
  ⟨fun h => m_tryO_sub.1 (m_tryO_sub.1 (m_tryO_sub.1 (m_tryO_sub.1 h))), fun h => m_tryO_sub.2 (m_tryO_sub.2 (m_tryO_sub.2 (m_tryO_sub.2 h)))⟩
theorem m_bfs_sub {sig : Nat → Int32} : ∀ (d k x : Nat) (r : m_R), (r.1 x ≠ 0 → (m_bfs sig d k r).1 x ≠ 0) ∧ (x ∈ r.2 → x ∈ (m_bfs sig d k r).2)
  | 0, _, _, _ => ⟨id, id⟩
  | d + 1, k, x, r => by
    unfold m_bfs
    split
    · exact ⟨fun h => (m_bfs_sub d (k + 1) x _).1 (m_exp_sub.1 h), fun h => (m_bfs_sub d (k + 1) x _).2 (m_exp_sub.2 h)⟩
    · exact ⟨id, id⟩
def m_rok (sig reg : Nat → Int32) : Prop := ∀ c, c < 48 → reg c = 0 ∨ (20 ≤ sig c ∧ ∃ j : Nat, 1 ≤ j ∧ j ≤ 48 ∧ reg c = nI j)
theorem m_region_ok {sig reg : Nat → Int32} {s : Nat} (hs : s < 48) (h20 : 20 ≤ sig s) (h0 : reg s = 0) (h : m_rok sig reg) : m_rok sig (m_region sig s reg) ∧ m_region sig s reg s ≠ 0 ∧ ∀ x, reg x ≠ 0 → m_region sig s reg x ≠ 0 := by
  have h1 : m_ok sig (reg, []) := ⟨by simp, (fun c hc => by cases hc), h⟩
  have h2 := m_ok_try (sig := sig) (c := s) h1 hs
  have h3 := m_ok_bfs 48 0 _ h2
  have hs2 : s ∈ (m_try sig s (reg, [])).2 := by
    unfold m_try
    rw [if_pos ⟨by simp, h20, h0⟩]
    simp
  have hs3 := (m_bfs_sub (sig := sig) 48 0 s _).2 hs2
  have hlen : 1 ≤ (m_bfs sig 48 0 (m_try sig s (reg, []))).2.length := by
    cases hq : (m_bfs sig 48 0 (m_try sig s (reg, []))).2 with
    | nil => rw [hq] at hs3; cases hs3
    | cons _ _ => simp
  refine ⟨fun c hc => ?_, ?_, fun x hx => ?_⟩
  · unfold m_region
    split
    · rename_i q
      exact Or.inr ⟨(h3.2.1 c q).2, _, hlen, h3.1, rfl⟩
    · exact h3.2.2 c hc
  · unfold m_region
    rw [if_pos hs3]
    exact nI_ne0 (by omega) (by have := h3.1; omega)
  · unfold m_region
    split
    · exact nI_ne0 (by omega) (by have := h3.1; omega)
    · exact (m_bfs_sub 48 0 x _).1 (m_try_sub.1 hx)
theorem m_regs_ok {sig : Nat → Int32} : ∀ k : Nat, k ≤ 48 → m_rok sig (m_regs sig k) ∧ ∀ c, c < k → 20 ≤ sig c → m_regs sig k c ≠ 0
  | 0, _ => ⟨fun c _ => Or.inl rfl, fun c hc => by omega⟩
  | k + 1, hk => by
    obtain ⟨h1, h2⟩ := m_regs_ok (sig := sig) k (by omega)
    unfold m_regs
    split
    · rename_i q
      obtain ⟨g1, g2, g3⟩ := m_region_ok (by omega) q.1 q.2 h1
      refine ⟨g1, fun c hc h20 => ?_⟩
      by_cases e : c = k
      · subst e; exact g2
      · exact g3 c (h2 c (by omega) h20)
    · rename_i q
      refine ⟨h1, fun c hc h20 => ?_⟩
      by_cases e : c = k
      · subst e
        exact fun h => q ⟨h20, h⟩
      · exact h2 c (by omega) h20
/-- how many cells each region has, by cell -/
def m_reg (sig : Nat → Int32) : Nat → Int32 := m_regs sig 48
theorem m_reg_spec {sig : Nat → Int32} {c : Nat} (hc : c < 48) : (20 ≤ sig c → ∃ j : Nat, 1 ≤ j ∧ j ≤ 48 ∧ m_reg sig c = nI j) ∧ (¬ 20 ≤ sig c → m_reg sig c = 0) := by
  obtain ⟨h1, h2⟩ := m_regs_ok (sig := sig) 48 (Nat.le_refl _)
  rcases h1 c hc with h | ⟨h, j, a1, a2, a3⟩
  · exact ⟨fun q => absurd h (h2 c hc q), fun _ => h⟩
  · exact ⟨fun _ => ⟨j, a1, a2, a3⟩, fun q => absurd h q⟩
/-- the eight around a cell and itself -/
def m_adj (c o : Nat) : Prop := c / 8 ≤ o / 8 + 1 ∧ o / 8 ≤ c / 8 + 1 ∧ c % 8 ≤ o % 8 + 1 ∧ o % 8 ≤ c % 8 + 1
def m_beat (sig : Nat → Int32) (c o : Nat) : Prop := sig c < sig o ∨ (sig o = sig c ∧ o < c)
def m_Sum (sig : Nat → Int32) (c : Nat) : Prop := ∀ o, o < 48 → m_adj c o → ¬ m_beat sig c o
def m_sum (sig : Nat → Int32) (c : Nat) : Bool := (List.range 48).all fun o => !(decide (c / 8 ≤ o / 8 + 1) && decide (o / 8 ≤ c / 8 + 1) && decide (c % 8 ≤ o % 8 + 1) && decide (o % 8 ≤ c % 8 + 1) && (decide (sig c < sig o) || (decide (sig o = sig c) && decide (o < c))))
theorem m_sum_iff {sig : Nat → Int32} {c : Nat} : m_sum sig c = true ↔ m_Sum sig c := by
  unfold m_sum m_Sum m_adj m_beat
  rw [List.all_eq_true]
  constructor
  · intro h o ho ha hb
    have := h o (List.mem_range.mpr ho)
    simp [ha.1, ha.2.1, ha.2.2.1, ha.2.2.2] at this
    rcases hb with hb | hb
    · exact absurd hb (Int32.not_lt.mpr this.1)
    · rcases this.2 with h1 | h1
      · exact h1 hb.1
      · have := hb.2; omega
  · intro h o ho
    have := h o (List.mem_range.mp ho)
    simp only [Bool.not_eq_true', Bool.and_eq_false_iff, Bool.or_eq_false_iff, decide_eq_false_iff_not, not_or, not_and] at this ⊢
    by_cases h1 : c / 8 ≤ o / 8 + 1
    · by_cases h2 : o / 8 ≤ c / 8 + 1
      · by_cases h3 : c % 8 ≤ o % 8 + 1
        · by_cases h4 : o % 8 ≤ c % 8 + 1
          · obtain ⟨b1, b2⟩ := this ⟨h1, h2, h3, h4⟩
            refine Or.inr ⟨b1, ?_⟩
            by_cases e : sig o = sig c
            · exact Or.inr (b2 e)
            · exact Or.inl e
          · exact Or.inl (Or.inr h4)
        · exact Or.inl (Or.inl (Or.inr h3))
      · exact Or.inl (Or.inl (Or.inl (Or.inr h2)))
    · exact Or.inl (Or.inl (Or.inl (Or.inl h1)))
def m_isPk (sig : Nat → Int32) (c : Nat) : Bool := decide (20 ≤ sig c) && m_sum sig c
def m_pks (sig : Nat → Int32) (k : Nat) : List Nat := (List.range k).filter (m_isPk sig)
theorem m_pks_succ {sig : Nat → Int32} {k : Nat} : m_pks sig (k + 1) = if m_isPk sig k = true then m_pks sig k ++ [k] else m_pks sig k := by
  unfold m_pks
  rw [List.range_succ, List.filter_append]
  split
  · rename_i h; simp [h]
  · rename_i h; simp [h]
theorem m_pks_len {sig : Nat → Int32} {k : Nat} : (m_pks sig k).length ≤ k := by
  unfold m_pks
  exact Nat.le_trans (List.length_filter_le _ _) (by simp)
theorem m_pks_mem {sig : Nat → Int32} {k c : Nat} : c ∈ m_pks sig k ↔ c < k ∧ m_isPk sig c = true := by
  unfold m_pks
  rw [List.mem_filter, List.mem_range]
/-- sums over the cells -/
def m_S (g : Nat → Nat) : Nat → Nat
  | 0 => 0
  | k + 1 => m_S g k + g k
theorem m_S_up {g : Nat → Nat} {k d : Nat} : ∀ {N : Nat}, k < N → m_S (va_up g k (g k + d)) N = m_S g N + d
  | 0, h => by omega
  | N + 1, h => by
    unfold m_S
    by_cases e : k = N
    · subst e
      rw [am_up_eq]
      have : ∀ M, M ≤ k → m_S (va_up g k (g k + d)) M = m_S g M := by
        intro M
        induction M with
        | zero => intro _; rfl
        | succ M ih => intro hM; unfold m_S; rw [ih (by omega), am_up_ne (by omega)]
      rw [this k (Nat.le_refl _)]
      omega
    · rw [m_S_up (N := N) (by omega), am_up_ne (by omega)]
      omega
theorem m_S_congr {g h : Nat → Nat} : ∀ {N : Nat}, (∀ j, j < N → g j = h j) → m_S g N = m_S h N
  | 0, _ => rfl
  | N + 1, e => by
    unfold m_S
    rw [m_S_congr (N := N) (fun j hj => e j (by omega)), e N (by omega)]
theorem m_S_le {g h : Nat → Nat} : ∀ {N : Nat}, (∀ j, j < N → g j ≤ h j) → m_S g N ≤ m_S h N
  | 0, _ => Nat.le_refl _
  | N + 1, e => by
    unfold m_S
    exact Nat.add_le_add (m_S_le (N := N) (fun j hj => e j (by omega))) (e N (by omega))
theorem m_S_const {b : Nat} : ∀ {N : Nat}, m_S (fun _ => b) N = N * b
  | 0 => by simp [m_S]
  | N + 1 => by unfold m_S; rw [m_S_const (N := N), Nat.succ_mul]
theorem m_S_mul {g : Nat → Nat} {b : Nat} : ∀ {N : Nat}, m_S (fun j => b * g j) N = b * m_S g N
  | 0 => by simp [m_S]
  | N + 1 => by unfold m_S; rw [m_S_mul (N := N), Nat.mul_add]
theorem m_S_one {g : Nat → Nat} {k : Nat} : ∀ {N : Nat}, k < N → g k ≤ m_S g N
  | 0, h => by omega
  | N + 1, h => by
    unfold m_S
    by_cases e : k = N
    · subst e; omega
    · have := m_S_one (g := g) (N := N) (k := k) (by omega); omega
/-- a signal where it is above 0 -/
def m_sp (sig : Nat → Int32) (o : Nat) : Nat := (sig o).toInt.toNat
def m_bef (r c o : Nat) : Prop := o / 8 < r ∨ (o / 8 = r ∧ o % 8 < c)
/-- the weight of the neighbours ahead of (r, c), and their moment -/
def m_wtF (sig : Nat → Int32) (x y r c : Nat) : Nat → Nat := fun o => if (o / 8 < r ∨ (o / 8 = r ∧ o % 8 < c)) ∧ y ≤ o / 8 + 1 ∧ o / 8 ≤ y + 1 ∧ x ≤ o % 8 + 1 ∧ o % 8 ≤ x + 1 then m_sp sig o else 0
def m_moF (sig : Nat → Int32) (isY : Bool) (x y r c : Nat) : Nat → Nat := fun o => if (o / 8 < r ∨ (o / 8 = r ∧ o % 8 < c)) ∧ y ≤ o / 8 + 1 ∧ o / 8 ≤ y + 1 ∧ x ≤ o % 8 + 1 ∧ o % 8 ≤ x + 1 then 16 * m_sp sig o * (if isY then o / 8 else o % 8) else 0
def m_wt (sig : Nat → Int32) (x y r c : Nat) : Nat := m_S (m_wtF sig x y r c) 48
def m_mo (sig : Nat → Int32) (isY : Bool) (x y r c : Nat) : Nat := m_S (m_moF sig isY x y r c) 48
def m_placeN (sig : Nat → Int32) (c : Nat) (isY : Bool) : Nat := if 0 < m_wt sig (c % 8) (c / 8) 6 0 then (m_mo sig isY (c % 8) (c / 8) 6 0 + m_wt sig (c % 8) (c / 8) 6 0) / (2 * m_wt sig (c % 8) (c / 8) 6 0) else 0
theorem m_wtF_step {sig : Nat → Int32} {x y r c : Nat} (hr : y ≤ r + 1) (hr2 : r ≤ y + 1) (hc : x ≤ c + 1) (hc2 : c ≤ x + 1) (hc8 : c < 8) : m_wtF sig x y r (c + 1) = va_up (m_wtF sig x y r c) (8 * r + c) (m_wtF sig x y r c (8 * r + c) + m_sp sig (8 * r + c)) := by
  have e1 : (8 * r + c) / 8 = r := by omega
  have e2 : (8 * r + c) % 8 = c := by omega
  funext j
  by_cases e : j = 8 * r + c
  · subst e
    rw [am_up_eq]
    unfold m_wtF
    have hn : ¬ ((r < r ∨ r = r ∧ c < c) ∧ y ≤ r + 1 ∧ r ≤ y + 1 ∧ x ≤ c + 1 ∧ c ≤ x + 1) := by omega
    have hp : (r < r ∨ r = r ∧ c < c + 1) ∧ y ≤ r + 1 ∧ r ≤ y + 1 ∧ x ≤ c + 1 ∧ c ≤ x + 1 := by omega
    rw [e1, e2, if_neg hn, if_pos hp]
    omega
  · rw [am_up_ne e]
    unfold m_wtF
    exact am_cond (by omega)
theorem m_moF_step {sig : Nat → Int32} {isY : Bool} {x y r c : Nat} (hr : y ≤ r + 1) (hr2 : r ≤ y + 1) (hc : x ≤ c + 1) (hc2 : c ≤ x + 1) (hc8 : c < 8) : m_moF sig isY x y r (c + 1) = va_up (m_moF sig isY x y r c) (8 * r + c) (m_moF sig isY x y r c (8 * r + c) + 16 * m_sp sig (8 * r + c) * (if isY then r else c)) := by
  have e1 : (8 * r + c) / 8 = r := by omega
  have e2 : (8 * r + c) % 8 = c := by omega
  funext j
  by_cases e : j = 8 * r + c
  · subst e
    rw [am_up_eq]
    unfold m_moF
    have hn : ¬ ((r < r ∨ r = r ∧ c < c) ∧ y ≤ r + 1 ∧ r ≤ y + 1 ∧ x ≤ c + 1 ∧ c ≤ x + 1) := by omega
    have hp : (r < r ∨ r = r ∧ c < c + 1) ∧ y ≤ r + 1 ∧ r ≤ y + 1 ∧ x ≤ c + 1 ∧ c ≤ x + 1 := by omega
    rw [e1, e2, if_neg hn, if_pos hp]
    omega
  · rw [am_up_ne e]
    unfold m_moF
    exact am_cond (by omega)
theorem m_wt_step {sig : Nat → Int32} {x y r c : Nat} (hr : y ≤ r + 1) (hr2 : r ≤ y + 1) (hc : x ≤ c + 1) (hc2 : c ≤ x + 1) (hc8 : c < 8) (hr6 : r < 6) : m_wt sig x y r (c + 1) = m_wt sig x y r c + m_sp sig (8 * r + c) := by
  unfold m_wt
  rw [m_wtF_step hr hr2 hc hc2 hc8, m_S_up (by omega)]
theorem m_mo_step {sig : Nat → Int32} {isY : Bool} {x y r c : Nat} (hr : y ≤ r + 1) (hr2 : r ≤ y + 1) (hc : x ≤ c + 1) (hc2 : c ≤ x + 1) (hc8 : c < 8) (hr6 : r < 6) : m_mo sig isY x y r (c + 1) = m_mo sig isY x y r c + 16 * m_sp sig (8 * r + c) * (if isY then r else c) := by
  unfold m_mo
  rw [m_moF_step hr hr2 hc hc2 hc8, m_S_up (by omega)]
theorem m_wt_row {sig : Nat → Int32} {x y r : Nat} : m_wt sig x y r (min (x + 1) 7 + 1) = m_wt sig x y (r + 1) 0 :=
  m_S_congr fun j _ => by unfold m_wtF; exact am_cond (by have : j % 8 < 8 := Nat.mod_lt _ (by decide); omega)
theorem m_mo_row {sig : Nat → Int32} {isY : Bool} {x y r : Nat} : m_mo sig isY x y r (min (x + 1) 7 + 1) = m_mo sig isY x y (r + 1) 0 :=
  m_S_congr fun j _ => by unfold m_moF; exact am_cond (by have : j % 8 < 8 := Nat.mod_lt _ (by decide); omega)
theorem m_wt_col {sig : Nat → Int32} {x y r : Nat} : m_wt sig x y r (x - 1) = m_wt sig x y r 0 := m_S_congr fun j _ => by unfold m_wtF; exact am_cond (by omega)
theorem m_mo_col {sig : Nat → Int32} {isY : Bool} {x y r : Nat} : m_mo sig isY x y r (x - 1) = m_mo sig isY x y r 0 := m_S_congr fun j _ => by unfold m_moF; exact am_cond (by omega)
theorem m_wt_end {sig : Nat → Int32} {x y : Nat} : m_wt sig x y (min (y + 1) 5 + 1) 0 = m_wt sig x y 6 0 := m_S_congr fun j hj => by unfold m_wtF; exact am_cond (by omega)
theorem m_mo_end {sig : Nat → Int32} {isY : Bool} {x y : Nat} : m_mo sig isY x y (min (y + 1) 5 + 1) 0 = m_mo sig isY x y 6 0 := m_S_congr fun j hj => by unfold m_moF; exact am_cond (by omega)
theorem m_wt_start {sig : Nat → Int32} {x y : Nat} : m_wt sig x y (y - 1) 0 = 0 := by
  have : m_wt sig x y (y - 1) 0 = m_S (fun _ => 0) 48 := m_S_congr fun j _ => by unfold m_wtF; rw [if_neg (by omega)]
  rw [this, m_S_const]
theorem m_mo_start {sig : Nat → Int32} {isY : Bool} {x y : Nat} : m_mo sig isY x y (y - 1) 0 = 0 := by
  have : m_mo sig isY x y (y - 1) 0 = m_S (fun _ => 0) 48 := m_S_congr fun j _ => by unfold m_moF; rw [if_neg (by omega)]
  rw [this, m_S_const]
theorem m_sp_lt {sig : Nat → Int32} {o : Nat} : m_sp sig o < 2 ^ 31 := by
  unfold m_sp
  have := (sig o).toInt_lt
  omega
theorem m_wt_lt {sig : Nat → Int32} {x y r c : Nat} : m_wt sig x y r c ≤ 48 * 2 ^ 31 := by
  refine Nat.le_trans (m_S_le (h := fun _ => 2 ^ 31) fun j _ => ?_) (by rw [m_S_const]; decide)
  unfold m_wtF
  split
  · exact Nat.le_of_lt m_sp_lt
  · omega
theorem m_mo_lt {sig : Nat → Int32} {isY : Bool} {x y r c : Nat} : m_mo sig isY x y r c ≤ 48 * (16 * 2 ^ 31 * 8) := by
  refine Nat.le_trans (m_S_le (h := fun _ => 16 * 2 ^ 31 * 8) fun j hj => ?_) (by rw [m_S_const]; decide)
  unfold m_moF
  split
  · refine Nat.mul_le_mul (Nat.mul_le_mul_left _ (Nat.le_of_lt m_sp_lt)) ?_
    split <;> omega
  · omega
theorem m_moF_ge {sig : Nat → Int32} {isY : Bool} {x y r c j t : Nat} (h : y ≤ j / 8 + 1 → j / 8 ≤ y + 1 → x ≤ j % 8 + 1 → j % 8 ≤ x + 1 → t ≤ (if isY then j / 8 else j % 8)) : 16 * t * m_wtF sig x y r c j ≤ m_moF sig isY x y r c j := by
  unfold m_wtF m_moF
  by_cases q : (j / 8 < r ∨ (j / 8 = r ∧ j % 8 < c)) ∧ y ≤ j / 8 + 1 ∧ j / 8 ≤ y + 1 ∧ x ≤ j % 8 + 1 ∧ j % 8 ≤ x + 1
  · rw [if_pos q, if_pos q, Nat.mul_right_comm]
    exact Nat.mul_le_mul_left _ (h q.2.1 q.2.2.1 q.2.2.2.1 q.2.2.2.2)
  · rw [if_neg q, if_neg q]
    exact Nat.le_refl _
theorem m_moF_le {sig : Nat → Int32} {isY : Bool} {x y r c j t : Nat} (h : y ≤ j / 8 + 1 → j / 8 ≤ y + 1 → x ≤ j % 8 + 1 → j % 8 ≤ x + 1 → (if isY then j / 8 else j % 8) ≤ t) : m_moF sig isY x y r c j ≤ 16 * t * m_wtF sig x y r c j := by
  unfold m_wtF m_moF
  by_cases q : (j / 8 < r ∨ (j / 8 = r ∧ j % 8 < c)) ∧ y ≤ j / 8 + 1 ∧ j / 8 ≤ y + 1 ∧ x ≤ j % 8 + 1 ∧ j % 8 ≤ x + 1
  · rw [if_pos q, if_pos q, Nat.mul_right_comm 16 t]
    exact Nat.mul_le_mul_left _ (h q.2.1 q.2.2.1 q.2.2.2.1 q.2.2.2.2)
  · rw [if_neg q, if_neg q]
    exact Nat.le_refl _
/-- a place lies within a cell's width of its cell, and on the glass -/
theorem m_place_spec {sig : Nat → Int32} {c : Nat} {isY : Bool} (hc : c < 48) (h20 : 20 ≤ sig c) : 8 * (if isY then c / 8 else c % 8) ≤ m_placeN sig c isY + 8 ∧ m_placeN sig c isY ≤ 8 * (if isY then c / 8 else c % 8) + 8 ∧ m_placeN sig c isY ≤ 8 * (if isY then 5 else 7) := by
  have hw : 20 ≤ m_wt sig (c % 8) (c / 8) 6 0 := by
    have h1 := m_S_one (g := m_wtF sig (c % 8) (c / 8) 6 0) (N := 48) hc
    have h2 : m_wtF sig (c % 8) (c / 8) 6 0 c = m_sp sig c := by
      unfold m_wtF
      rw [if_pos (by omega)]
    have h3 : (20 : Int) ≤ (sig c).toInt := Int32.le_iff_toInt_le.mp h20
    unfold m_wt
    rw [h2] at h1
    unfold m_sp at h1
    omega
  have hlo : 16 * ((if isY then c / 8 else c % 8) - 1) * m_wt sig (c % 8) (c / 8) 6 0 ≤ m_mo sig isY (c % 8) (c / 8) 6 0 := by
    unfold m_wt m_mo
    rw [← m_S_mul]
    exact m_S_le fun j hj => m_moF_ge (fun h1 h2 h3 h4 => by cases isY <;> simp <;> omega)
  have hhi : m_mo sig isY (c % 8) (c / 8) 6 0 ≤ 16 * ((if isY then c / 8 else c % 8) + 1) * m_wt sig (c % 8) (c / 8) 6 0 := by
    unfold m_wt m_mo
    rw [← m_S_mul]
    exact m_S_le fun j hj => m_moF_le (fun h1 h2 h3 h4 => by cases isY <;> simp <;> omega)
  have hhi2 : m_mo sig isY (c % 8) (c / 8) 6 0 ≤ 16 * (if isY then 5 else 7) * m_wt sig (c % 8) (c / 8) 6 0 := by
    unfold m_wt m_mo
    rw [← m_S_mul]
    exact m_S_le fun j hj => m_moF_le (fun h1 h2 h3 h4 => by cases isY <;> simp <;> omega)
  unfold m_placeN
  have hw0 : 0 < m_wt sig (c % 8) (c / 8) 6 0 := by omega
  rw [if_pos hw0]
  clear hw0
  generalize m_wt sig (c % 8) (c / 8) 6 0 = w at hw hlo hhi hhi2 ⊢
  generalize m_mo sig isY (c % 8) (c / 8) 6 0 = mo at hlo hhi hhi2 ⊢
  generalize (if isY = true then c / 8 else c % 8) = z at hlo hhi ⊢
  generalize (if isY = true then 5 else 7) = t at hhi2 ⊢
  refine ⟨?_, ?_, ?_⟩
  · have : 8 * (z - 1) ≤ (mo + w) / (2 * w) := by
      rw [Nat.le_div_iff_mul_le (by omega)]
      have : 8 * (z - 1) * (2 * w) = 16 * (z - 1) * w := by rw [← Nat.mul_assoc, Nat.mul_right_comm 8 (z - 1) 2]
      omega
    omega
  · have : (mo + w) / (2 * w) < 8 * z + 9 := by
      rw [Nat.div_lt_iff_lt_mul (by omega)]
      have e : (8 * z + 9) * (2 * w) = 16 * (z + 1) * w + 2 * w := by
        rw [show 8 * z + 9 = 8 * (z + 1) + 1 by omega, Nat.add_mul, Nat.one_mul, ← Nat.mul_assoc, Nat.mul_right_comm 8 (z + 1) 2]
      omega
    omega
  · have : (mo + w) / (2 * w) < 8 * t + 1 := by
      rw [Nat.div_lt_iff_lt_mul (by omega)]
      have e : (8 * t + 1) * (2 * w) = 16 * t * w + 2 * w := by
        rw [Nat.add_mul, Nat.one_mul, ← Nat.mul_assoc, Nat.mul_right_comm 8 t 2]
      omega
    omega
/-- the hum -/
def m_huF (sig : Nat → Int32) : Nat → Nat := fun o => if 20 ≤ sig o then 0 else (sig o).toInt.natAbs
def m_caF (sig : Nat → Int32) : Nat → Nat := fun o => if 20 ≤ sig o then 0 else 1
def m_hum (sig : Nat → Int32) : Int32 := if 0 < m_S (m_caF sig) 48 then nI (m_S (m_huF sig) 48 / m_S (m_caF sig) 48) else 0
def m_tc (sig : Nat → Int32) (c : Nat) : Int32 := if sig c < 20 then 0 else 1
def m_Pic (f : Nat → am_C) (i : Nat) (sig reg pc px py chn : Nat → Int32) (pk hm : Int32) : Prop := f i = .inr (5, [.ref (i + 1), .ref (i + 2), .ref (i + 3), .ref (i + 4), .ref (i + 5), .ref (i + 6), .int pk, .int hm]) ∧ f (i + 1) = .inl (0, 48, .inl sig) ∧ f (i + 2) = .inl (0, 48, .inl reg) ∧ f (i + 3) = .inl (0, 48, .inl pc) ∧ f (i + 4) = .inl (0, 48, .inl px) ∧ f (i + 5) = .inl (0, 48, .inl py) ∧ f (i + 6) = .inl (0, 48, .inl chn)
/-- the chain holds the queue -/
def m_chn (chn : Nat → Int32) (q : List Nat) : Prop := ∀ j, j < q.length → chn j = nI (q.getD j 0)
theorem m_chn_push {chn : Nat → Int32} {q : List Nat} {c : Nat} (h : m_chn chn q) : m_chn (va_up chn q.length (nI c)) (q ++ [c]) := by
  intro j hj
  simp at hj
  by_cases e : j = q.length
  · subst e
    rw [am_up_eq]
    simp
  · rw [am_up_ne e, h j (by omega)]
    simp [List.getElem?_append_left (show j < q.length by omega)]
/-- what link is called with: a cell, or none -/
def m_at (x y : Int32) (c : Option Nat) : Prop := (∃ a b : Nat, a < 8 ∧ b < 6 ∧ x = nI a ∧ y = nI b ∧ c = some (8 * b + a)) ∨ (c = none ∧ (x < 0 ∨ 8 ≤ x ∨ y < 0 ∨ 6 ≤ y))
theorem m_Pic.rc {f : Nat → am_C} {i : Nat} {sig reg pc px py chn : Nat → Int32} {pk hm : Int32} (h : m_Pic f i sig reg pc px py chn pk hm) (reg' chn' : Nat → Int32) : m_Pic (va_up (va_up f (i + 2) (.inl (0, 48, .inl reg'))) (i + 6) (.inl (0, 48, .inl chn'))) i sig reg' pc px py chn' pk hm := by
  obtain ⟨h0, h1, h2, h3, h4, h5, h6⟩ := h
  exact ⟨am_un (by omega) (am_un (by omega) h0), am_un (by omega) (am_un (by omega) h1), am_un (by omega) am_ue, am_un (by omega) (am_un (by omega) h3), am_un (by omega) (am_un (by omega) h4), am_un (by omega) (am_un (by omega) h5), am_ue⟩
theorem m_at_in {a b : Nat} (ha : a < 8) (hb : b < 6) : m_at (nI a) (nI b) (some (8 * b + a)) := Or.inl ⟨a, b, ha, hb, rfl, rfl, rfl⟩
theorem m_at_left {c : Nat} (hc : c < 48) : m_at (nI (c % 8) - 1) (nI (c / 8)) (m_left c) := by
  unfold m_left
  split
  · rename_i h
    rw [h]
    exact Or.inr ⟨rfl, Or.inl (by decide)⟩
  · rename_i h
    refine Or.inl ⟨c % 8 - 1, c / 8, by omega, by omega, ?_, rfl, ?_⟩
    · rw [show nI (c % 8) = nI (c % 8 - 1 + 1) by rw [Nat.sub_add_cancel (by omega)], nI_pred]
    · congr 1; omega
theorem m_at_right {c : Nat} (hc : c < 48) : m_at (nI (c % 8) + 1) (nI (c / 8)) (m_right c) := by
  unfold m_right
  rw [nI_1]
  split
  · rename_i h
    rw [h]
    exact Or.inr ⟨rfl, Or.inr (Or.inl (by decide))⟩
  · rename_i h
    exact Or.inl ⟨c % 8 + 1, c / 8, by omega, by omega, rfl, rfl, by congr 1; omega⟩
theorem m_at_up {c : Nat} (hc : c < 48) : m_at (nI (c % 8)) (nI (c / 8) - 1) (m_up c) := by
  unfold m_up
  split
  · rename_i h
    rw [h]
    exact Or.inr ⟨rfl, Or.inr (Or.inr (Or.inl (by decide)))⟩
  · rename_i h
    refine Or.inl ⟨c % 8, c / 8 - 1, by omega, by omega, rfl, ?_, ?_⟩
    · rw [show nI (c / 8) = nI (c / 8 - 1 + 1) by rw [Nat.sub_add_cancel (by omega)], nI_pred]
    · congr 1; omega
theorem m_at_down {c : Nat} (hc : c < 48) : m_at (nI (c % 8)) (nI (c / 8) + 1) (m_down c) := by
  unfold m_down
  rw [nI_1]
  split
  · rename_i h
    rw [h]
    exact Or.inr ⟨rfl, Or.inr (Or.inr (Or.inr (by decide)))⟩
  · rename_i h
    exact Or.inl ⟨c % 8, c / 8 + 1, by omega, by omega, rfl, rfl, by congr 1; omega⟩
theorem am_rem8 {c : Nat} (h : c < 2 ^ 31) : nI c - nI c / 8 * 8 = nI (c % 8) := pk_rem h (by decide) (by decide)
theorem am_div8 {c : Nat} (h : c < 2 ^ 31) : nI c / 8 = nI (c / 8) := pk_div h (by decide) (by decide)
theorem m_take_in {q : List Nat} {k c : Nat} (hk : k < q.length) : c ∈ q.take (k + 1) ↔ c ∈ q.take k ∨ c = q.getD k 0 := by
  rw [List.take_succ, List.mem_append, List.getElem?_eq_getElem hk, List.getD_eq_getElem?_getD, List.getElem?_eq_getElem hk]
  simp
end
section
/-! ===== throws, handlers, calls of methods that have handlers ===== -/
def am_nms : List String := ["java/lang/RuntimeException", "java/lang/Exception"]
/-- 'throw new E("text")': what the tables must say -/
def am_Tw (own : String) (ik is ic k : Nat) : Prop := Bundle.fit (am_E k) = true ∧ Cond.classLink own ik (am_E k) ∈ am_W ∧ Cond.initialized (am_E k) ∈ am_W ∧ (∃ text, (own, is, text) ∈ am_str) ∧ ∀ w ∈ vx_atS own ic (am_E k) am_nms, w ∈ am_W ∨ w ∈ am_fW
theorem am_tw (own : String) (ic : Nat) (X : String) (h : (vx_atS own ic X am_nms).all (fun w => decide (w ∈ lw_tbl) && (goodWord w || (w.faceAtom && w.onTables))) = true) : ∀ w ∈ vx_atS own ic X am_nms, w ∈ am_W ∨ w ∈ am_fW := by
  intro w hw
  have h1 := List.all_eq_true.mp h w hw
  simp only [Bool.and_eq_true, Bool.or_eq_true, decide_eq_true_eq] at h1
  rcases h1.2 with g | g
  · exact Or.inl (List.mem_filter.mpr ⟨h1.1, g⟩)
  · exact Or.inr (List.mem_filter.mpr ⟨h1.1, by simp only [Bool.and_eq_true]; exact g⟩)
theorem am_throw (pc : Nat) {M : am_M} {rc rs n ik is ic k : Nat} {L : List (Option Value)} {st : List Value} {f : Nat → am_C} {P : am_P} (hh : am_hh M = []) (hTw : am_Tw (am_y M).cls ik is ic k) (d0 : decode (am_by M) pc = .ok (.new ik, 3)) (d3 : decode (am_by M) (pc + 3) = .ok (.dup, 1)) (d4 : decode (am_by M) (pc + 4) = .ok (.ldc is, 2)) (d6 : decode (am_by M) (pc + 6) = .ok (.invokespecial ic, 3)) (d9 : decode (am_by M) (pc + 9) = .ok (.athrow, 1)) (hfr : 6 ≤ am_fr M) (hlo : (st.map fun v => v.category).sum + 82 ≤ am_lo M) (hP : P (.inr k) n f) : AW M (rc + 1) (rs + 6) pc L st n f P := by
  intro D cA p l e R s m args below meth c A n0 ρ0 mc ms hC hR H locs cells slots ρ ls hT hcs
  obtain ⟨t1, t3, t4, ⟨text, t5⟩, t6⟩ := hTw
  have hW := hC.2.2.2.2.2.1
  obtain ⟨-, -, s3, -, -, s5, s6, s8⟩ := hC.2.2.2.2.2.2.2.2.2.2.2
  obtain ⟨sa, hsa⟩ := s3 _ t5
  have hfw : ∀ w ∈ am_fW, w.before args s = true := fun w hw => am_face_at hw (Vm.Alike.refl _) (s8 w hw)
  have hat : ∀ w ∈ vx_atS (am_y M).cls ic (am_E k) am_nms, w.before args s = true := fun w hw => (t6 w hw).elim (fun h => hW _ h) (fun h => hfw _ h)
  have hot : ∀ w, w ∈ am_W → vx_ot w = true := fun w hw => by simp [vx_ot, (List.mem_filter.mp hw).2]
  have hot2 : ∀ w, w ∈ am_fW → vx_ot w = true := fun w hw => by
    have h1 := (List.mem_filter.mp hw).2
    simp only [Bool.and_eq_true] at h1
    simp [vx_ot, h1.2]
  have hgood : ∀ w ∈ Cond.classLink (am_y M).cls ik (am_E k) :: Cond.initialized (am_E k) :: vx_atS (am_y M).cls ic (am_E k) am_nms, vx_ot w = true := fun w hw => by
    rcases List.mem_cons.mp hw with h | hw
    · rw [h]; exact hot _ t3
    · rcases List.mem_cons.mp hw with h | hw
      · rw [h]; exact hot _ t4
      · exact (t6 w hw).elim (hot w) (hot2 w)
  refine vx_throwS (names := am_nms) (A := A) hC.1 hC.2.1 hC.2.2.2.2.2.2.2.2.1 hC.2.2.2.2.1 t1 (by decide +kernel) (hW _ t3) (hW _ t4) hsa hat hgood s5 s6 hT.2.2.2.2.1 (by rw [hC.2.2.2.1]; exact hT.2.1.2.1) d0 d3 d4 d6 d9 (by rw [hC.2.2.2.2.2.2.2.1, hh]; intro x hx; cases hx) (Nat.lt_of_lt_of_le (show 2 + 3 < 6 by omega) (Nat.le_trans hfr hR.1)) (am_jroom hR hlo) (by have := hR.2.2.1; omega) (by have := hR.2.2.2; omega) hC.2.2.2.2.2.2.1 ?_ hT.2.2.2.2.1.2.2 (by omega) (by omega)
  intro t ha hsz hk
  exact ⟨⟨k, n, f, ρ, rfl, hP, fun z q hq => (hT.2.2.1 z q hq).kept (hk _ (vx_lt hT.2.2.1 hq)), hT.2.2.2.1, ⟨hT.2.2.2.2.2.1.1, hT.2.2.2.2.2.1.2.2.1⟩, hT.2.2.2.2.2.2.1, hT.2.2.2.2.2.2.2⟩, Nat.le_trans hT.2.2.2.2.1.1 hsz, fun q h1 h2 => (hk q (Nat.lt_of_lt_of_le h1 hT.2.2.2.2.1.1)).trans (hT.2.2.2.2.1.2.1 q h1 h2)⟩
/-- a local that is no longer known -/
def am_s0 (L : List (Option Value)) (i : Nat) : List (Option Value) := (am_cl L i).set i none
theorem am_s0_at {L : List (Option Value)} {i j : Nat} {w : Value} (h : (am_s0 L i)[j]? = some (some w)) : j ≠ i ∧ L[j]? = some (some w) ∧ ¬ (j + 1 = i ∧ w.category = 2) := by
  unfold am_s0 at h
  rw [List.getElem?_set] at h
  by_cases e : i = j
  · rw [if_pos e] at h
    split at h <;> simp at h
  · rw [if_neg e] at h
    exact ⟨fun q => e q.symm, am_cl_at L i j w h⟩
theorem am_ln_s0 {n : Nat} {L : List (Option Value)} {i : Nat} (h : am_ln n L) : am_ln n (am_s0 L i) := fun j w q => h j w (am_s0_at q).2.1
theorem am_L_s0 {ρ : Nat → Nat} {L : List (Option Value)} {nL i : Nat} {v' : Value} {ls : Array Slot} (h : lv_has ls nL ((i, v') :: (am_ll ρ L 0).filter (fun q => !(q.1 == i) && !(q.1 + 1 == i && q.2.category == 2)))) : am_L ρ (am_s0 L i) nL ls := by
  refine ⟨h.1, h.2.1, fun j w hw => ?_⟩
  obtain ⟨e1, e2, e3⟩ := am_s0_at hw
  refine h.2.2 (j, am_v ρ w) (List.mem_cons_of_mem _ (List.mem_filter.mpr ⟨by have := am_ll_mem ρ L 0 j w e2; rwa [Nat.zero_add] at this, ?_⟩))
  have e4 : ¬ (j + 1 = i ∧ (am_v ρ w).category = 2) := by rw [am_cat]; exact e3
  simp
  exact ⟨e1, Classical.not_and_iff_not_or_not.mp e4⟩
abbrev am_he (z : Nat × Nat × Nat × Nat) : ExceptionTableEntry := ⟨z.1, z.2.1, z.2.2.1, z.2.2.2⟩
theorem AX.catch {M : am_M} {rc rs pc E n i : Nat} {name : String} {L : List (Option Value)} {st : List Value} {f : Nat → am_C} {P : am_P} (pre : List (Nat × Nat × Nat × Nat)) (x : Nat × Nat × Nat × Nat) (suf : List (Nat × Nat × Nat × Nat)) (hh : am_hh M = pre ++ x :: suf) (hpass : ∀ z ∈ pre, covers (am_he z) pc = false ∨ (z.2.2.2 ≠ 0 ∧ ∃ nm, Cond.classLink (am_y M).cls z.2.2.2 nm ∈ am_W ∧ (am_E E, nm) ∈ am_ncs)) (hx : covers (am_he x) pc = true) (h0 : x.2.2.2 ≠ 0) (hlink : Cond.classLink (am_y M).cls x.2.2.2 name ∈ am_W) (hcast : Cond.castable (am_E E) name ∈ am_fW) (hd : decode (am_by M) x.2.2.1 = .ok (.astore i, 2)) (hi : i < am_mL M) (kk : AW M rc rs (x.2.2.1 + 2) (am_s0 L i) [] n f P) : AX M rc rs pc L st E n f P := by
  intro D cA p l e R s m args below meth c A n0 ρ0 mc ms hC hR H locs cells slots ρ ls q9 ce hT hcs hq hv hcl
  have hW := hC.2.2.2.2.2.1
  obtain ⟨-, -, -, s4, -, -, -, s8⟩ := hC.2.2.2.2.2.2.2.2.2.2.2
  refine vx_catch hC.2.2.2.2.1 (tableOf pre) (am_he x) (tableOf suf) (by rw [hC.2.2.2.2.2.2.2.1, hh]; simp [tableOf]) ?_ hx h0 (hW _ hlink) (am_face_at hcast (Vm.Alike.refl _) (s8 _ hcast)) hq hv hcl ?_
  · intro z hz
    obtain ⟨y, hy, rfl⟩ := List.mem_map.mp hz
    rcases hpass y hy with h | ⟨h1, nm, h2, h3⟩
    · exact Or.inl h
    · exact Or.inr ⟨h1, nm, hW _ h2, s4 _ h3⟩
  · refine lv_astore hC.1 hC.2.1 hd (am_L_has hT.2.1.2) hi rfl ?_
    intro ls hl
    exact am_k kk hC hR ⟨trivial, ⟨am_ln_s0 hT.2.1.1, am_L_s0 hl⟩, hT.2.2⟩ hcs
theorem AX.catch_n {M : am_M} {rc rs pc E n : Nat} {q : Fin 4} {name : String} {L : List (Option Value)} {st : List Value} {f : Nat → am_C} {P : am_P} (pre : List (Nat × Nat × Nat × Nat)) (x : Nat × Nat × Nat × Nat) (suf : List (Nat × Nat × Nat × Nat)) (hh : am_hh M = pre ++ x :: suf) (hpass : ∀ z ∈ pre, covers (am_he z) pc = false ∨ (z.2.2.2 ≠ 0 ∧ ∃ nm, Cond.classLink (am_y M).cls z.2.2.2 nm ∈ am_W ∧ (am_E E, nm) ∈ am_ncs)) (hx : covers (am_he x) pc = true) (h0 : x.2.2.2 ≠ 0) (hlink : Cond.classLink (am_y M).cls x.2.2.2 name ∈ am_W) (hcast : Cond.castable (am_E E) name ∈ am_fW) (hd : decode (am_by M) x.2.2.1 = .ok (.astore_n q, 1)) (hi : (q : Nat) < am_mL M) (kk : AW M rc rs (x.2.2.1 + 1) (am_s0 L (q : Nat)) [] n f P) : AX M rc rs pc L st E n f P := by
  intro D cA p l e R s m args below meth c A n0 ρ0 mc ms hC hR H locs cells slots ρ ls q9 ce hT hcs hq hv hcl
  have hW := hC.2.2.2.2.2.1
  obtain ⟨-, -, -, s4, -, -, -, s8⟩ := hC.2.2.2.2.2.2.2.2.2.2.2
  refine vx_catch hC.2.2.2.2.1 (tableOf pre) (am_he x) (tableOf suf) (by rw [hC.2.2.2.2.2.2.2.1, hh]; simp [tableOf]) ?_ hx h0 (hW _ hlink) (am_face_at hcast (Vm.Alike.refl _) (s8 _ hcast)) hq hv hcl ?_
  · intro z hz
    obtain ⟨y, hy, rfl⟩ := List.mem_map.mp hz
    rcases hpass y hy with h | ⟨h1, nm, h2, h3⟩
    · exact Or.inl h
    · exact Or.inr ⟨h1, nm, hW _ h2, s4 _ h3⟩
  · refine lv_astore_n hC.1 hC.2.1 hd rfl (am_L_has hT.2.1.2) hi rfl ?_
    intro ls hl
    exact am_k kk hC hR ⟨trivial, ⟨am_ln_s0 hT.2.1.1, am_L_s0 hl⟩, hT.2.2⟩ hcs
/-! methods with handlers, called -/
abbrev am_wsW (N : am_M) : List Cond := Cond.codeWith (am_y N) (am_by N) (am_mL N) (am_rt N) (am_hh N) :: am_W
def am_GW (N : am_M) (k : Nat) : Prop := plainName (am_y N).cls = true ∧ Cond.codeWith (am_y N) (am_by N) (am_mL N) (am_rt N) (am_hh N) ∈ am_W ∧ Cond.initialized (am_y N).cls ∈ am_W ∧ ((am_y N).cls ≠ "java/lang/invoke/MethodHandle" ∧ (am_y N).cls ≠ "java/lang/invoke/VarHandle") ∧ (parseMethodDescriptor (am_y N).desc).map (fun d => d.parameters.length) = some k
theorem am_metW {N : am_M} {mc' ms' n : Nat} {vs : List Value} {f : Nat → am_C} {P : am_P} (hpl : plainName (am_y N).cls = true) (k : AW N mc' ms' 0 (am_en (am_mL N) vs) [] n f P) {D : va_G} {cA : Nat → ClassId} {ρ : Nat → Nat} {l : Launch} (hl : l.stackTraces = false) (hvs : am_sn n vs) (hf : ∀ i, i < n → am_cn n (f i)) (hlen : (lg_sl vs).length ≤ am_mL N) (sz : Nat) :
    vx_Met l (am_y N) (am_wsW N) (am_rm N mc' ms') (am_Pc D cA ρ n f sz (vs.map (am_v ρ))) (am_Q D cA (va_A (am_w cA ρ n f) sz) (n, f) ρ P) (am_X D cA (va_A (am_w cA ρ n f) sz) (n, f) ρ P) mc' ms' (va_A (am_w cA ρ n f) sz) := by
  refine vx_ofWH (cc := am_by N) (maxL := am_mL N) (ret := am_rt N) (hh := am_hh N) hpl rfl ?_
  intro p e s m args below meth c s₁ B hml hv
  obtain ⟨rfl, hsz, hP, hD0, hS0, hk0, hE0⟩ := hv
  subst hsz
  rw [lg_entry_eq]
  have hts := atoms_spec (ws := am_wsW N) B.pre
  have htab : c.exceptionTable.toList = tableOf (am_hh N) := vx_table (x := am_y N) B (hts _ List.mem_cons_self)
  have hC : am_K N D cA p l s m (vs.map (am_v ρ)).toArray meth c (va_A (am_w cA ρ n f) s.heap.size) :=
    ⟨B.exec, B.bytes, B.returns, hml, findClass_of_methodNamed B.named, fun w h => hts w (List.mem_cons_of_mem _ h), B.notSynchronized, htab, hl, (name_of_methodNamed B.named B.method).1, fun q h => Or.inr h, hS0⟩
  exact am_k k hC ⟨Nat.le_refl _, Nat.le_refl _, Nat.le_refl _, Nat.le_refl _⟩
    ⟨trivial, ⟨am_en_n hvs, am_en_L (by rw [am_sl_len]; exact hlen)⟩, hP, hD0.self, va_S.rf, ⟨Nat.le_refl _, hk0, fun _ _ => rfl, hE0⟩, fun _ _ => rfl, hf⟩ ⟨by omega, by omega⟩
theorem am_invSW (pc : Nat) {M N : am_M} {rc rs mc' ms' n idx k : Nat} {L : List (Option Value)} {as rest : List Value} {f : Nat → am_C} {P : am_P} (hd : decode (am_by M) pc = .ok (.invokestatic idx, 3)) (hG : am_GW N k) (hG2 : am_G2 M N) (hl : Cond.methodLink (am_y M).cls idx (am_y N) ∈ am_W) (hi : Cond.static (am_y N) ∈ am_W)
    (hk : as.length = k) (hr : (rest.map fun v => v.category).sum ≤ 8) (hlen : (lg_sl as).length ≤ am_mL N)
    (kk : AW N mc' ms' 0 (am_en (am_mL N) as) [] n f (am_ct M rc rs pc L rest P)) : AW M (mc' + rc) (ms' + rs) pc L (as.reverse ++ rest) n f P := by
  intro D cA p l e R s m args below meth c A n0 ρ0 mc ms hC hR H locs cells slots ρ ls hT hcs
  have hst := am_sn_app.mp hT.1
  have hT2 : am_T D cA A s n0 ρ0 (am_mL M) n f L rest H locs ρ ls := ⟨hst.2, hT.2⟩
  have hvs : am_sn n as := am_sn_rev.mp hst.1
  obtain ⟨g0, g1, g2, g3, g4⟩ := hG
  have hgood : GoodIn am_W (am_wsW N) := fun w hw => (List.mem_cons.mp hw).elim (fun e => by rw [e]; exact ⟨g1, am_good _ g1⟩) (fun h => ⟨h, am_good _ h⟩)
  have hts := hC.2.2.2.2.2.1
  refine am_goX (mc' := mc') (ms' := ms') (a := (as.map (am_v ρ)).toArray) (vx_runSX (As := as.map (am_v ρ)) (n := k) (nL := am_mL M) ⟨hC.1, hC.2.1, hC.2.2.2.1, hC.2.2.2.2.1, hC.2.2.2.2.2.1⟩ (am_metW g0 kk (ρ := ρ) (D := D) (cA := cA) hC.2.2.2.2.2.2.2.2.1 hvs hT.2.2.2.2.2.2.2 hlen H.size)
    ⟨⟨rfl, rfl, Nat.le_trans hG2.1 hR.1, Nat.le_trans hG2.2 hR.2.1, pay_in hts hgood, List.mem_cons_self⟩, hts _ g1, hts _ g2, g3, fun sig h => (by rw [h] at g4; exact (Option.some.inj g4).symm), hts _ hl, hts _ hi⟩ ⟨am_Pc_blind, am_pre (vs := as) hC hT⟩
    rfl (by rw [List.length_map]; exact hk) hT.2.1.2.1 (by rw [← List.map_reverse, List.map_append]) (am_room8 hr) hd ⟨by have := hR.2.2.1; omega, by have := hR.2.2.2; omega⟩) hC hR hT2 ⟨by omega, by omega⟩
def am_cSW (own : String) (ix : Nat) (N : am_M) (k : Nat) : Prop := am_GW N k ∧ Cond.methodLink own ix (am_y N) ∈ am_W ∧ Cond.static (am_y N) ∈ am_W
theorem am_SW2 (pc : Nat) {M N : am_M} {rc rs mc' ms' n ix : Nat} {x1 x2 : Value} {L : List (Option Value)} {st : List Value} {f : Nat → am_C} {P P' : am_P} (hd : decode (am_by M) pc = .ok (.invokestatic ix, 3)) (hc : am_cSW (am_y M).cls ix N 2) (hG2 : am_G2 M N) (hr : (st.map fun v => v.category).sum ≤ 8) (hlen : (lg_sl [x1, x2]).length ≤ am_mL N) (hs : AM N mc' ms' [x1, x2] n f P') (k : ∀ o n' f', P' o n' f' → am_ct M rc rs pc L st P o n' f') : AW M (mc' + rc) (ms' + rs) pc L (x2 :: x1 :: st) n f P := by
  obtain ⟨h1, h2, h3⟩ := hc
  exact am_invSW (as := [x1, x2]) pc hd h1 hG2 h2 h3 rfl hr hlen (AW.mono k hs)
theorem am_SW3 (pc : Nat) {M N : am_M} {rc rs mc' ms' n ix : Nat} {x1 x2 x3 : Value} {L : List (Option Value)} {st : List Value} {f : Nat → am_C} {P P' : am_P} (hd : decode (am_by M) pc = .ok (.invokestatic ix, 3)) (hc : am_cSW (am_y M).cls ix N 3) (hG2 : am_G2 M N) (hr : (st.map fun v => v.category).sum ≤ 8) (hlen : (lg_sl [x1, x2, x3]).length ≤ am_mL N) (hs : AM N mc' ms' [x1, x2, x3] n f P') (k : ∀ o n' f', P' o n' f' → am_ct M rc rs pc L st P o n' f') : AW M (mc' + rc) (ms' + rs) pc L (x3 :: x2 :: x1 :: st) n f P := by
  obtain ⟨h1, h2, h3⟩ := hc
  exact am_invSW (as := [x1, x2, x3]) pc hd h1 hG2 h2 h3 rfl hr hlen (AW.mono k hs)
theorem am_SW4 (pc : Nat) {M N : am_M} {rc rs mc' ms' n ix : Nat} {x1 x2 x3 x4 : Value} {L : List (Option Value)} {st : List Value} {f : Nat → am_C} {P P' : am_P} (hd : decode (am_by M) pc = .ok (.invokestatic ix, 3)) (hc : am_cSW (am_y M).cls ix N 4) (hG2 : am_G2 M N) (hr : (st.map fun v => v.category).sum ≤ 8) (hlen : (lg_sl [x1, x2, x3, x4]).length ≤ am_mL N) (hs : AM N mc' ms' [x1, x2, x3, x4] n f P') (k : ∀ o n' f', P' o n' f' → am_ct M rc rs pc L st P o n' f') : AW M (mc' + rc) (ms' + rs) pc L (x4 :: x3 :: x2 :: x1 :: st) n f P := by
  obtain ⟨h1, h2, h3⟩ := hc
  exact am_invSW (as := [x1, x2, x3, x4]) pc hd h1 hG2 h2 h3 rfl hr hlen (AW.mono k hs)
theorem am_SW5 (pc : Nat) {M N : am_M} {rc rs mc' ms' n ix : Nat} {x1 x2 x3 x4 x5 : Value} {L : List (Option Value)} {st : List Value} {f : Nat → am_C} {P P' : am_P} (hd : decode (am_by M) pc = .ok (.invokestatic ix, 3)) (hc : am_cSW (am_y M).cls ix N 5) (hG2 : am_G2 M N) (hr : (st.map fun v => v.category).sum ≤ 8) (hlen : (lg_sl [x1, x2, x3, x4, x5]).length ≤ am_mL N) (hs : AM N mc' ms' [x1, x2, x3, x4, x5] n f P') (k : ∀ o n' f', P' o n' f' → am_ct M rc rs pc L st P o n' f') : AW M (mc' + rc) (ms' + rs) pc L (x5 :: x4 :: x3 :: x2 :: x1 :: st) n f P := by
  obtain ⟨h1, h2, h3⟩ := hc
  exact am_invSW (as := [x1, x2, x3, x4, x5]) pc hd h1 hG2 h2 h3 rfl hr hlen (AW.mono k hs)
theorem am_SW6 (pc : Nat) {M N : am_M} {rc rs mc' ms' n ix : Nat} {x1 x2 x3 x4 x5 x6 : Value} {L : List (Option Value)} {st : List Value} {f : Nat → am_C} {P P' : am_P} (hd : decode (am_by M) pc = .ok (.invokestatic ix, 3)) (hc : am_cSW (am_y M).cls ix N 6) (hG2 : am_G2 M N) (hr : (st.map fun v => v.category).sum ≤ 8) (hlen : (lg_sl [x1, x2, x3, x4, x5, x6]).length ≤ am_mL N) (hs : AM N mc' ms' [x1, x2, x3, x4, x5, x6] n f P') (k : ∀ o n' f', P' o n' f' → am_ct M rc rs pc L st P o n' f') : AW M (mc' + rc) (ms' + rs) pc L (x6 :: x5 :: x4 :: x3 :: x2 :: x1 :: st) n f P := by
  obtain ⟨h1, h2, h3⟩ := hc
  exact am_invSW (as := [x1, x2, x3, x4, x5, x6]) pc hd h1 hG2 h2 h3 rfl hr hlen (AW.mono k hs)
theorem am_I2 (pc : Nat) {M N : am_M} {rc rs mc' ms' n ix b : Nat} {x1 x2 : Value} {L : List (Option Value)} {st : List Value} {f : Nat → am_C} {P P' : am_P} (hd : decode (am_by M) pc = .ok (.invokespecial ix, 3)) (hc : am_cI (am_y M).cls ix N 2) (hG2 : am_G2 M N) (hr : (st.map fun v => v.category).sum ≤ 8) (hlen : (lg_sl [.ref b, x1, x2]).length ≤ am_mL N) (hs : AM N mc' ms' [.ref b, x1, x2] n f P') (k : ∀ o n' f', P' o n' f' → ∃ v, o = .inl v ∧ AW M rc rs (pc + 3) L (v.toList ++ st) n' f' P) : AW M (mc' + rc) (ms' + rs) pc L (x2 :: x1 :: .ref b :: st) n f P := by
  obtain ⟨h1, h2, h3, h4, h5⟩ := hc
  refine am_invI (as := [x1, x2]) pc hd h1 hG2 h4 h5 h2 h3 rfl hr hlen (AW.mono (fun o n' f' hp => ?_) hs)
  obtain ⟨v, rfl, h⟩ := k o n' f' hp
  exact h
theorem am_I3 (pc : Nat) {M N : am_M} {rc rs mc' ms' n ix b : Nat} {x1 x2 x3 : Value} {L : List (Option Value)} {st : List Value} {f : Nat → am_C} {P P' : am_P} (hd : decode (am_by M) pc = .ok (.invokespecial ix, 3)) (hc : am_cI (am_y M).cls ix N 3) (hG2 : am_G2 M N) (hr : (st.map fun v => v.category).sum ≤ 8) (hlen : (lg_sl [.ref b, x1, x2, x3]).length ≤ am_mL N) (hs : AM N mc' ms' [.ref b, x1, x2, x3] n f P') (k : ∀ o n' f', P' o n' f' → ∃ v, o = .inl v ∧ AW M rc rs (pc + 3) L (v.toList ++ st) n' f' P) : AW M (mc' + rc) (ms' + rs) pc L (x3 :: x2 :: x1 :: .ref b :: st) n f P := by
  obtain ⟨h1, h2, h3, h4, h5⟩ := hc
  refine am_invI (as := [x1, x2, x3]) pc hd h1 hG2 h4 h5 h2 h3 rfl hr hlen (AW.mono (fun o n' f' hp => ?_) hs)
  obtain ⟨v, rfl, h⟩ := k o n' f' hp
  exact h
theorem am_I4 (pc : Nat) {M N : am_M} {rc rs mc' ms' n ix b : Nat} {x1 x2 x3 x4 : Value} {L : List (Option Value)} {st : List Value} {f : Nat → am_C} {P P' : am_P} (hd : decode (am_by M) pc = .ok (.invokespecial ix, 3)) (hc : am_cI (am_y M).cls ix N 4) (hG2 : am_G2 M N) (hr : (st.map fun v => v.category).sum ≤ 8) (hlen : (lg_sl [.ref b, x1, x2, x3, x4]).length ≤ am_mL N) (hs : AM N mc' ms' [.ref b, x1, x2, x3, x4] n f P') (k : ∀ o n' f', P' o n' f' → ∃ v, o = .inl v ∧ AW M rc rs (pc + 3) L (v.toList ++ st) n' f' P) : AW M (mc' + rc) (ms' + rs) pc L (x4 :: x3 :: x2 :: x1 :: .ref b :: st) n f P := by
  obtain ⟨h1, h2, h3, h4, h5⟩ := hc
  refine am_invI (as := [x1, x2, x3, x4]) pc hd h1 hG2 h4 h5 h2 h3 rfl hr hlen (AW.mono (fun o n' f' hp => ?_) hs)
  obtain ⟨v, rfl, h⟩ := k o n' f' hp
  exact h
end
section
/-! ===== facts: throws, handlers ===== -/
theorem wX7_63 : ∀ w ∈ vx_atS RX7 63 "java/lang/IllegalArgumentException" am_nms, w ∈ am_W ∨ w ∈ am_fW := am_tw RX7 63 "java/lang/IllegalArgumentException" (by decide +kernel)
theorem tX7_59_61 : am_Tw RX7 59 61 63 0 := ⟨by decide +kernel, am_t3 144 rfl rfl, am_t1 16 rfl rfl, ⟨"no such area", by decide +kernel⟩, wX7_63⟩
theorem wX7_73 : ∀ w ∈ vx_atS RX7 73 "java/lang/IllegalStateException" am_nms, w ∈ am_W ∨ w ∈ am_fW := am_tw RX7 73 "java/lang/IllegalStateException" (by decide +kernel)
theorem tX7_69_71 : am_Tw RX7 69 71 73 1 := ⟨by decide +kernel, am_t3 212 rfl rfl, am_t1 17 rfl rfl, ⟨"all areas are told", by decide +kernel⟩, wX7_73⟩
theorem tX7_59_78 : am_Tw RX7 59 78 63 0 := ⟨by decide +kernel, am_t3 144 rfl rfl, am_t1 16 rfl rfl, ⟨"dial is not 1 to 4", by decide +kernel⟩, wX7_63⟩
theorem tX7_59_80 : am_Tw RX7 59 80 63 0 := ⟨by decide +kernel, am_t3 144 rfl rfl, am_t1 16 rfl rfl, ⟨"limit is not 1 to 30", by decide +kernel⟩, wX7_63⟩
theorem tX7_59_82 : am_Tw RX7 59 82 63 0 := ⟨by decide +kernel, am_t3 144 rfl rfl, am_t1 16 rfl rfl, ⟨"heat is not -30 to 30", by decide +kernel⟩, wX7_63⟩
theorem wX7_167 : ∀ w ∈ vx_atS RX7 167 "java/lang/IndexOutOfBoundsException" am_nms, w ∈ am_W ∨ w ∈ am_fW := am_tw RX7 167 "java/lang/IndexOutOfBoundsException" (by decide +kernel)
theorem tX7_163_236 : am_Tw RX7 163 236 167 2 := ⟨by decide +kernel, am_t4 27 rfl rfl, am_t1 23 rfl rfl, ⟨"x is not 0 to 7", by decide +kernel⟩, wX7_167⟩
theorem tX7_163_238 : am_Tw RX7 163 238 167 2 := ⟨by decide +kernel, am_t4 27 rfl rfl, am_t1 23 rfl rfl, ⟨"y is not 0 to 5", by decide +kernel⟩, wX7_167⟩
theorem tX7_59_240 : am_Tw RX7 59 240 63 0 := ⟨by decide +kernel, am_t3 144 rfl rfl, am_t1 16 rfl rfl, ⟨"strength is not 1 to 200", by decide +kernel⟩, wX7_63⟩
theorem tX7_59_110 : am_Tw RX7 59 110 63 0 := ⟨by decide +kernel, am_t3 144 rfl rfl, am_t1 16 rfl rfl, ⟨"much is not -40 to 40", by decide +kernel⟩, wX7_63⟩
theorem tX7_59_242 : am_Tw RX7 59 242 63 0 := ⟨by decide +kernel, am_t3 144 rfl rfl, am_t1 16 rfl rfl, ⟨"what is not told of", by decide +kernel⟩, wX7_63⟩
theorem tX7_163_165 : am_Tw RX7 163 165 167 2 := ⟨by decide +kernel, am_t4 27 rfl rfl, am_t1 23 rfl rfl, ⟨"no such peak", by decide +kernel⟩, wX7_167⟩
theorem tX7_163_244 : am_Tw RX7 163 244 167 2 := ⟨by decide +kernel, am_t4 27 rfl rfl, am_t1 23 rfl rfl, ⟨"no contact of that name", by decide +kernel⟩, wX7_167⟩
theorem tX7_163_61 : am_Tw RX7 163 61 167 2 := ⟨by decide +kernel, am_t4 27 rfl rfl, am_t1 23 rfl rfl, ⟨"no such area", by decide +kernel⟩, wX7_167⟩
theorem tX7_59_198 : am_Tw RX7 59 198 63 0 := ⟨by decide +kernel, am_t3 144 rfl rfl, am_t1 16 rfl rfl, ⟨"ahead is not 0 to 9", by decide +kernel⟩, wX7_63⟩
theorem fc_0 : Cond.castable (am_E 0) "java/lang/IllegalArgumentException" ∈ am_fW := List.mem_filter.mpr ⟨List.mem_of_getElem? (i := 685) (by decide +kernel), by decide +kernel⟩
theorem fc_1 : Cond.castable (am_E 1) "java/lang/IllegalStateException" ∈ am_fW := List.mem_filter.mpr ⟨List.mem_of_getElem? (i := 753) (by decide +kernel), by decide +kernel⟩
theorem fc_2 : Cond.castable (am_E 2) "java/lang/IndexOutOfBoundsException" ∈ am_fW := List.mem_filter.mpr ⟨List.mem_of_getElem? (i := 808) (by decide +kernel), by decide +kernel⟩
theorem gL_area : am_GW mL_area 6 := ⟨by decide +kernel, am_t3 137 rfl rfl, am_t1 0 rfl rfl, ⟨by decide +kernel, by decide +kernel⟩, by decide +kernel⟩
theorem gL_dial : am_GW mL_dial 3 := ⟨by decide +kernel, am_t3 234 rfl rfl, am_t1 0 rfl rfl, ⟨by decide +kernel, by decide +kernel⟩, by decide +kernel⟩
theorem gL_limit : am_GW mL_limit 3 := ⟨by decide +kernel, am_t4 2 rfl rfl, am_t1 0 rfl rfl, ⟨by decide +kernel, by decide +kernel⟩, by decide +kernel⟩
theorem gL_heat : am_GW mL_heat 3 := ⟨by decide +kernel, am_t4 10 rfl rfl, am_t1 0 rfl rfl, ⟨by decide +kernel, by decide +kernel⟩, by decide +kernel⟩
theorem gL_press : am_GW mL_press 5 := ⟨by decide +kernel, am_t4 18 rfl rfl, am_t1 0 rfl rfl, ⟨by decide +kernel, by decide +kernel⟩, by decide +kernel⟩
theorem gL_noise : am_GW mL_noise 4 := ⟨by decide +kernel, am_t4 59 rfl rfl, am_t1 0 rfl rfl, ⟨by decide +kernel, by decide +kernel⟩, by decide +kernel⟩
theorem gL_ofCell : am_GW mL_ofCell 5 := ⟨by decide +kernel, am_t4 71 rfl rfl, am_t1 0 rfl rfl, ⟨by decide +kernel, by decide +kernel⟩, by decide +kernel⟩
theorem gL_ofPeak : am_GW mL_ofPeak 4 := ⟨by decide +kernel, am_t4 82 rfl rfl, am_t1 0 rfl rfl, ⟨by decide +kernel, by decide +kernel⟩, by decide +kernel⟩
theorem gL_ofContact : am_GW mL_ofContact 4 := ⟨by decide +kernel, am_t4 90 rfl rfl, am_t1 0 rfl rfl, ⟨by decide +kernel, by decide +kernel⟩, by decide +kernel⟩
theorem gL_where : am_GW mL_where 4 := ⟨by decide +kernel, am_t4 102 rfl rfl, am_t1 0 rfl rfl, ⟨by decide +kernel, by decide +kernel⟩, by decide +kernel⟩
theorem gL_apart : am_GW mL_apart 4 := ⟨by decide +kernel, am_t4 109 rfl rfl, am_t1 0 rfl rfl, ⟨by decide +kernel, by decide +kernel⟩, by decide +kernel⟩
theorem gL_ofRow : am_GW mL_ofRow 4 := ⟨by decide +kernel, am_t4 117 rfl rfl, am_t1 0 rfl rfl, ⟨by decide +kernel, by decide +kernel⟩, by decide +kernel⟩
theorem gL_ofArea : am_GW mL_ofArea 4 := ⟨by decide +kernel, am_t4 124 rfl rfl, am_t1 0 rfl rfl, ⟨by decide +kernel, by decide +kernel⟩, by decide +kernel⟩
theorem gL_many : am_GW mL_many 3 := ⟨by decide +kernel, am_t4 131 rfl rfl, am_t1 0 rfl rfl, ⟨by decide +kernel, by decide +kernel⟩, by decide +kernel⟩
theorem gL_guess : am_GW mL_guess 5 := ⟨by decide +kernel, am_t4 138 rfl rfl, am_t1 0 rfl rfl, ⟨by decide +kernel, by decide +kernel⟩, by decide +kernel⟩
theorem gL_wouldMatch : am_GW mL_wouldMatch 3 := ⟨by decide +kernel, am_t4 146 rfl rfl, am_t1 0 rfl rfl, ⟨by decide +kernel, by decide +kernel⟩, by decide +kernel⟩
theorem gL_keepBy : am_GW mL_keepBy 4 := ⟨by decide +kernel, am_t4 153 rfl rfl, am_t1 0 rfl rfl, ⟨by decide +kernel, by decide +kernel⟩, by decide +kernel⟩
end
section
/-! ===== a picture in the world, as one change ===== -/
def m_bi (b : Bool) : Int32 := if b then 1 else 0
def m_put (f : Nat → am_C) (i : Nat) (sig reg pc px py chn : Nat → Int32) (pk hm : Int32) : Nat → am_C := fun x =>
  if x = i then .inr (5, [.ref (i + 1), .ref (i + 2), .ref (i + 3), .ref (i + 4), .ref (i + 5), .ref (i + 6), .int pk, .int hm])
  else if x = i + 1 then .inl (0, 48, .inl sig) else if x = i + 2 then .inl (0, 48, .inl reg) else if x = i + 3 then .inl (0, 48, .inl pc)
  else if x = i + 4 then .inl (0, 48, .inl px) else if x = i + 5 then .inl (0, 48, .inl py) else if x = i + 6 then .inl (0, 48, .inl chn) else f x
section Put
variable {f : Nat → am_C} {i : Nat} {sig reg pc px py chn : Nat → Int32} {pk hm : Int32}
theorem m_put_a0 : m_put f i sig reg pc px py chn pk hm i = .inr (5, [.ref (i + 1), .ref (i + 2), .ref (i + 3), .ref (i + 4), .ref (i + 5), .ref (i + 6), .int pk, .int hm]) := by simp [m_put]
theorem m_put_a1 : m_put f i sig reg pc px py chn pk hm (i + 1) = .inl (0, 48, .inl sig) := by simp [m_put]
theorem m_put_a2 : m_put f i sig reg pc px py chn pk hm (i + 2) = .inl (0, 48, .inl reg) := by simp [m_put]
theorem m_put_a3 : m_put f i sig reg pc px py chn pk hm (i + 3) = .inl (0, 48, .inl pc) := by simp [m_put]
theorem m_put_a4 : m_put f i sig reg pc px py chn pk hm (i + 4) = .inl (0, 48, .inl px) := by simp [m_put]
theorem m_put_a5 : m_put f i sig reg pc px py chn pk hm (i + 5) = .inl (0, 48, .inl py) := by simp [m_put]
theorem m_put_a6 : m_put f i sig reg pc px py chn pk hm (i + 6) = .inl (0, 48, .inl chn) := by simp [m_put]
theorem m_put_out {x : Nat} (h : x < i ∨ i + 6 < x) : m_put f i sig reg pc px py chn pk hm x = f x := by
  unfold m_put
  rw [if_neg (by omega), if_neg (by omega), if_neg (by omega), if_neg (by omega), if_neg (by omega), if_neg (by omega), if_neg (by omega)]
theorem m_put_ext {g : Nat → am_C} (h0 : g i = m_put f i sig reg pc px py chn pk hm i) (h1 : g (i + 1) = .inl (0, 48, .inl sig)) (h2 : g (i + 2) = .inl (0, 48, .inl reg)) (h3 : g (i + 3) = .inl (0, 48, .inl pc)) (h4 : g (i + 4) = .inl (0, 48, .inl px)) (h5 : g (i + 5) = .inl (0, 48, .inl py)) (h6 : g (i + 6) = .inl (0, 48, .inl chn)) (h : ∀ x, x < i ∨ i + 6 < x → g x = f x) : g = m_put f i sig reg pc px py chn pk hm := by
  funext x
  by_cases c : x < i ∨ i + 6 < x
  · rw [h x c, m_put_out c]
  · have c2 : x = i ∨ x = i + 1 ∨ x = i + 2 ∨ x = i + 3 ∨ x = i + 4 ∨ x = i + 5 ∨ x = i + 6 := by omega
    rcases c2 with e | e | e | e | e | e | e <;> subst e
    · exact h0
    · rw [h1, m_put_a1]
    · rw [h2, m_put_a2]
    · rw [h3, m_put_a3]
    · rw [h4, m_put_a4]
    · rw [h5, m_put_a5]
    · rw [h6, m_put_a6]
theorem m_put_pic : m_Pic (m_put f i sig reg pc px py chn pk hm) i sig reg pc px py chn pk hm := ⟨m_put_a0, m_put_a1, m_put_a2, m_put_a3, m_put_a4, m_put_a5, m_put_a6⟩
theorem m_Pic.put (h : m_Pic f i sig reg pc px py chn pk hm) : f = m_put f i sig reg pc px py chn pk hm := by
  obtain ⟨h0, h1, h2, h3, h4, h5, h6⟩ := h
  exact m_put_ext (by rw [h0, m_put_a0]) h1 h2 h3 h4 h5 h6 (fun x _ => rfl)
theorem m_put_0 {v w : Int32} : va_up (m_put f i sig reg pc px py chn pk hm) i (.inr (5, [.ref (i + 1), .ref (i + 2), .ref (i + 3), .ref (i + 4), .ref (i + 5), .ref (i + 6), .int v, .int w])) = m_put f i sig reg pc px py chn v w := by
  funext x; unfold va_up m_put; repeat' split
  all_goals first | rfl | omega
theorem m_put_1 {g : Nat → Int32} : va_up (m_put f i sig reg pc px py chn pk hm) (i + 1) (.inl (0, 48, .inl g)) = m_put f i g reg pc px py chn pk hm := by
  funext x; unfold va_up m_put; repeat' split
  all_goals first | rfl | omega
theorem m_put_2 {g : Nat → Int32} : va_up (m_put f i sig reg pc px py chn pk hm) (i + 2) (.inl (0, 48, .inl g)) = m_put f i sig g pc px py chn pk hm := by
  funext x; unfold va_up m_put; repeat' split
  all_goals first | rfl | omega
theorem m_put_3 {g : Nat → Int32} : va_up (m_put f i sig reg pc px py chn pk hm) (i + 3) (.inl (0, 48, .inl g)) = m_put f i sig reg g px py chn pk hm := by
  funext x; unfold va_up m_put; repeat' split
  all_goals first | rfl | omega
theorem m_put_4 {g : Nat → Int32} : va_up (m_put f i sig reg pc px py chn pk hm) (i + 4) (.inl (0, 48, .inl g)) = m_put f i sig reg pc g py chn pk hm := by
  funext x; unfold va_up m_put; repeat' split
  all_goals first | rfl | omega
theorem m_put_5 {g : Nat → Int32} : va_up (m_put f i sig reg pc px py chn pk hm) (i + 5) (.inl (0, 48, .inl g)) = m_put f i sig reg pc px g chn pk hm := by
  funext x; unfold va_up m_put; repeat' split
  all_goals first | rfl | omega
theorem m_put_6 {g : Nat → Int32} : va_up (m_put f i sig reg pc px py chn pk hm) (i + 6) (.inl (0, 48, .inl g)) = m_put f i sig reg pc px py g pk hm := by
  funext x; unfold va_up m_put; repeat' split
  all_goals first | rfl | omega
end Put
def m_Sh (f : Nat → am_C) (j : Nat) (w bs : Nat → Int32) (ht : Int32) : Prop := f j = .inr (6, [.ref (j + 1), .ref (j + 2), .int ht]) ∧ f (j + 1) = .inl (0, 48, .inl w) ∧ f (j + 2) = .inl (0, 48, .inl bs)
theorem m_Sh.put {f : Nat → am_C} {i j : Nat} {w bs sig reg pc px py chn : Nat → Int32} {ht pk hm : Int32} (h : m_Sh f j w bs ht) (hd : j + 2 < i ∨ i + 6 < j) : m_Sh (m_put f i sig reg pc px py chn pk hm) j w bs ht :=
  ⟨(m_put_out (by omega)).trans h.1, (m_put_out (by omega)).trans h.2.1, (m_put_out (by omega)).trans h.2.2⟩
def m_pkOk (sig : Nat → Int32) (q : List Nat) (pc px py : Nat → Int32) : Prop := ∀ j, j < q.length → pc j = nI (q.getD j 0) ∧ px j = nI (m_placeN sig (q.getD j 0) false) ∧ py j = nI (m_placeN sig (q.getD j 0) true)
theorem m_pkOk_push {sig : Nat → Int32} {q : List Nat} {pc px py : Nat → Int32} {c : Nat} (h : m_pkOk sig q pc px py) : m_pkOk sig (q ++ [c]) (va_up pc q.length (nI c)) (va_up px q.length (nI (m_placeN sig c false))) (va_up py q.length (nI (m_placeN sig c true))) := by
  intro j hj
  simp at hj
  by_cases e : j = q.length
  · subst e
    rw [am_up_eq, am_up_eq, am_up_eq]
    simp
  · rw [am_up_ne e, am_up_ne e, am_up_ne e]
    have := h j (by omega)
    simp only [List.getD_eq_getElem?_getD, List.getElem?_append_left (show j < q.length by omega)] at this ⊢
    exact this
/-- after a look -/
def m_Look (f : Nat → am_C) (i : Nat) (sig : Nat → Int32) : Prop := ∃ pc px py chn, m_Pic f i sig (m_reg sig) pc px py chn (nI (m_pks sig 48).length) (m_hum sig) ∧ m_pkOk sig (m_pks sig 48) pc px py
theorem m_pks48 {sig : Nat → Int32} {j : Nat} (hj : j < (m_pks sig 48).length) : (m_pks sig 48).getD j 0 < 48 ∧ 20 ≤ sig ((m_pks sig 48).getD j 0) := by
  have h : (m_pks sig 48).getD j 0 ∈ m_pks sig 48 := by
    rw [List.getD_eq_getElem?_getD, List.getElem?_eq_getElem hj]
    exact List.getElem_mem hj
  obtain ⟨h1, h2⟩ := m_pks_mem.mp h
  unfold m_isPk at h2
  simp only [Bool.and_eq_true, decide_eq_true_eq] at h2
  exact ⟨h1, h2.1⟩
/-! sums of ints in the order of the code -/
def m_I (g : Nat → Int32) : Nat → Int32
  | 0 => 0
  | k + 1 => m_I g k + g k
theorem m_tc_0 {sig : Nat → Int32} {c : Nat} : m_tc sig c = 0 ↔ ¬ 20 ≤ sig c := by
  unfold m_tc
  rw [Int32.not_le]
  split
  · rename_i h; exact ⟨fun _ => h, fun _ => rfl⟩
  · rename_i h; exact ⟨fun z => absurd z (by decide), fun z => absurd z h⟩
/-! longs -/
theorem m_lN {n : Nat} (h : n < 2 ^ 63) : (lN n).toInt = n := lg_ofNat_toInt h
theorem m_sp_l (s : Int32) : (if s < 0 then (0 : Int32) else s).toInt64 = lN s.toInt.toNat := by
  have hb := s.toInt_lt
  apply Int64.toInt_inj.mp
  rw [Int32.toInt_toInt64, m_lN (by omega)]
  split
  · rename_i h
    have h2 := Int32.lt_iff_toInt_lt.mp h
    have e : (0 : Int32).toInt = 0 := rfl
    rw [e] at h2 ⊢
    omega
  · rename_i h
    have h2 := Int32.le_iff_toInt_le.mp (Int32.not_lt.mp h)
    have e : (0 : Int32).toInt = 0 := rfl
    rw [e] at h2
    omega
theorem m_abs_l (s : Int32) : (if (0 : Int64) < s.toInt64 then s.toInt64 else -s.toInt64) = lN s.toInt.natAbs := by
  have hb := s.toInt_lt
  have hb2 := s.le_toInt
  apply Int64.toInt_inj.mp
  rw [m_lN (by omega)]
  split
  · rename_i h
    have h2 := Int64.lt_iff_toInt_lt.mp h
    rw [Int32.toInt_toInt64] at h2 ⊢
    have e : (0 : Int64).toInt = 0 := rfl
    rw [e] at h2
    omega
  · rename_i h
    have h2 := Int64.le_iff_toInt_le.mp (Int64.not_lt.mp h)
    rw [Int32.toInt_toInt64] at h2
    have e : (0 : Int64).toInt = 0 := rfl
    rw [e] at h2
    rw [Int64.toInt_neg, Int32.toInt_toInt64, Int.bmod_eq_of_le (by omega) (by omega)]
    omega
theorem m_lN0 {n : Nat} (h : n < 2 ^ 63) : lN n ≤ 0 ↔ n = 0 := by
  rw [Int64.le_iff_toInt_le, m_lN h]
  have e : (0 : Int64).toInt = 0 := rfl
  rw [e]
  omega
theorem m_lNe {n : Nat} (h : n < 2 ^ 63) (h0 : 0 < n) : ¬ lN n = 0 := fun z => by
  have := congrArg Int64.toInt z
  rw [m_lN h] at this
  have e : (0 : Int64).toInt = 0 := rfl
  rw [e] at this
  omega
theorem m_ca_le {sig : Nat → Int32} : m_S (m_caF sig) 48 ≤ 48 := by
  refine Nat.le_trans (m_S_le (h := fun _ => 1) fun j _ => ?_) (by rw [m_S_const]; decide)
  unfold m_caF; split <;> omega
theorem m_hu_le {sig : Nat → Int32} : m_S (m_huF sig) 48 ≤ 48 * 2 ^ 31 := by
  refine Nat.le_trans (m_S_le (h := fun _ => 2 ^ 31) fun j _ => ?_) (by rw [m_S_const]; decide)
  unfold m_huF
  have h1 := (sig j).toInt_lt
  have h2 := (sig j).le_toInt
  split <;> omega
end
section
/-! ===== what the class's objects look like in the world ===== -/
def m_rf (N a : Nat) : Nat → Option Nat := fun k => if k < N then some (a + 2 * k) else none
def m_Pr (f : Nat → am_C) (q : Nat) (le we : Nat → Int64) (be : Int64) : Prop := f q = .inr (4, [.ref (q + 1), .ref (q + 2), .long be]) ∧ f (q + 1) = .inl (1, 32, .inr (.inl le)) ∧ f (q + 2) = .inl (1, 5, .inr (.inl we))
def m_Ar (f : Nat → am_C) (a : Nat) (l r t b : Int32) (c : Nat → Int32) : Prop := f a = .inr (0, [.int l, .int r, .int t, .int b, .ref (a + 1)]) ∧ f (a + 1) = .inl (0, 4, .inl c)
def m_Co (f : Nat → am_C) (c : Nat) (th mt lx ly fr mi cl ar : Int32) (x y dx dy mo fx fy : UInt32) (fa : Nat → UInt32) : Prop := f c = .inr (2, [.int th, .int mt, .int lx, .int ly, .int fr, .int mi, .int cl, .int ar, .float x, .float y, .float dx, .float dy, .float mo, .float fx, .float fy, .ref (c + 1)]) ∧ f (c + 1) = .inl (2, 5, .inr (.inr (.inl fa)))
def m_CoF (f : Nat → am_C) (c : Nat) : Prop := m_Co f c 0 0 0 0 0 0 0 0 0 0 0 0 0 0 0 (fun _ => 0)
def m_ArF (f : Nat → am_C) (a : Nat) : Prop := m_Ar f a 0 0 0 0 (fun _ => 0)
def m_AsF (f : Nat → am_C) (a : Nat) : Prop := f a = .inr (1, [.ref (a + 1), .int 0]) ∧ f (a + 1) = .inl (4, 4, .inr (.inr (.inr (.inr (m_rf 4 (a + 2)))))) ∧ ∀ k, k < 4 → m_ArF f (a + 2 + 2 * k)
def m_HaF (f : Nat → am_C) (h a : Nat) : Prop := f h = .inr (3, [.ref (h + 1), .ref a, .int 0, .int 0, .int 0]) ∧ f (h + 1) = .inl (5, 5, .inr (.inr (.inr (.inr (m_rf 5 (h + 2)))))) ∧ ∀ k, k < 5 → m_CoF f (h + 2 + 2 * k)
section On
variable {f f' : Nat → am_C}
theorem m_Sh.on {j : Nat} {w bs : Nat → Int32} {ht : Int32} (h : m_Sh f j w bs ht) (e : ∀ x, j ≤ x → x ≤ j + 2 → f' x = f x) : m_Sh f' j w bs ht := ⟨(e _ (by omega) (by omega)).trans h.1, (e _ (by omega) (by omega)).trans h.2.1, (e _ (by omega) (by omega)).trans h.2.2⟩
theorem m_Pr.on {j : Nat} {le we : Nat → Int64} {be : Int64} (h : m_Pr f j le we be) (e : ∀ x, j ≤ x → x ≤ j + 2 → f' x = f x) : m_Pr f' j le we be := ⟨(e _ (by omega) (by omega)).trans h.1, (e _ (by omega) (by omega)).trans h.2.1, (e _ (by omega) (by omega)).trans h.2.2⟩
theorem m_Pic.on {i : Nat} {sig reg pc px py chn : Nat → Int32} {pk hm : Int32} (h : m_Pic f i sig reg pc px py chn pk hm) (e : ∀ x, i ≤ x → x ≤ i + 6 → f' x = f x) : m_Pic f' i sig reg pc px py chn pk hm := by
  obtain ⟨h0, h1, h2, h3, h4, h5, h6⟩ := h
  exact ⟨(e _ (by omega) (by omega)).trans h0, (e _ (by omega) (by omega)).trans h1, (e _ (by omega) (by omega)).trans h2, (e _ (by omega) (by omega)).trans h3, (e _ (by omega) (by omega)).trans h4, (e _ (by omega) (by omega)).trans h5, (e _ (by omega) (by omega)).trans h6⟩
theorem m_Look.on {i : Nat} {sig : Nat → Int32} (h : m_Look f i sig) (e : ∀ x, i ≤ x → x ≤ i + 6 → f' x = f x) : m_Look f' i sig := by
  obtain ⟨pc, px, py, chn, h1, h2⟩ := h
  exact ⟨pc, px, py, chn, h1.on e, h2⟩
theorem m_Ar.on {a : Nat} {l r t b : Int32} {c : Nat → Int32} (h : m_Ar f a l r t b c) (e : ∀ x, a ≤ x → x ≤ a + 1 → f' x = f x) : m_Ar f' a l r t b c := ⟨(e _ (by omega) (by omega)).trans h.1, (e _ (by omega) (by omega)).trans h.2⟩
theorem m_Co.on {c : Nat} {th mt lx ly fr mi cl ar : Int32} {x y dx dy mo fx fy : UInt32} {fa : Nat → UInt32} (h : m_Co f c th mt lx ly fr mi cl ar x y dx dy mo fx fy fa) (e : ∀ x, c ≤ x → x ≤ c + 1 → f' x = f x) : m_Co f' c th mt lx ly fr mi cl ar x y dx dy mo fx fy fa := ⟨(e _ (by omega) (by omega)).trans h.1, (e _ (by omega) (by omega)).trans h.2⟩
theorem m_AsF.on {a : Nat} (h : m_AsF f a) (e : ∀ x, a ≤ x → x ≤ a + 9 → f' x = f x) : m_AsF f' a := ⟨(e _ (by omega) (by omega)).trans h.1, (e _ (by omega) (by omega)).trans h.2.1, fun k hk => m_Ar.on (h.2.2 k hk) fun x h1 h2 => e x (by omega) (by omega)⟩
theorem m_HaF.on {h a : Nat} (hh : m_HaF f h a) (e : ∀ x, h ≤ x → x ≤ h + 11 → f' x = f x) : m_HaF f' h a := ⟨(e _ (by omega) (by omega)).trans hh.1, (e _ (by omega) (by omega)).trans hh.2.1, fun k hk => m_Co.on (hh.2.2 k hk) fun x h1 h2 => e x (by omega) (by omega)⟩
end On
theorem m_rf_at {N a k : Nat} (h : k < N) : m_rf N a k = some (a + 2 * k) := if_pos h
theorem m_rf_up {a k : Nat} : va_up (m_rf k a) k (some (a + 2 * k)) = m_rf (k + 1) a := by
  funext x
  unfold va_up m_rf
  by_cases e : x = k
  · subst e; simp
  · rw [if_neg e]
    by_cases c : x < k
    · rw [if_pos c, if_pos (by omega)]
    · rw [if_neg c, if_neg (by omega)]
/-- the glass: Palmward and all that it is made of -/
def m_Gl (f : Nat → am_C) (p : Nat) (w bs : Nat → Int32) (ht : Int32) (w2 bs2 : Nat → Int32) (ht2 : Int32) (di li ta to : Int32) : Prop :=
  f p = .inr (7, [.ref (p + 1), .ref (p + 4), .ref (p + 11), .ref (p + 14), .ref (p + 21), .ref (p + 24), .ref (p + 34), .int di, .int li, .int ta, .int to]) ∧ m_Sh f (p + 1) w bs ht ∧ m_Sh f (p + 11) w2 bs2 ht2
theorem m_pks_0 : m_pks (fun _ => 0) 48 = [] := by
  unfold m_pks
  rw [List.filter_eq_nil_iff]
  intro x _ h
  unfold m_isPk at h
  simp only [Bool.and_eq_true, decide_eq_true_eq] at h
  exact absurd h.1 (by decide)
theorem m_reg_0 : m_reg (fun _ => 0) = fun _ => 0 := by
  have h : ∀ k, m_regs (fun _ => 0) k = fun _ => 0 := by
    intro k
    induction k with
    | zero => rfl
    | succ k ih =>
      have : m_regs (fun _ => 0) (k + 1) = if 20 ≤ (0 : Int32) ∧ m_regs (fun _ => 0) k k = 0 then m_region (fun _ => 0) k (m_regs (fun _ => 0) k) else m_regs (fun _ => 0) k := rfl
      rw [this, if_neg (fun z => absurd z.1 (by decide)), ih]
  exact h 48
theorem m_hum_0 : m_hum (fun _ => 0) = 0 := by
  have e1 : m_S (m_huF (fun _ => 0)) 48 = 0 := by
    rw [show m_huF (fun _ => 0) = fun _ => 0 from by funext x; unfold m_huF; rw [if_neg (show ¬ (20 : Int32) ≤ 0 by decide)]; rfl, m_S_const]
  unfold m_hum
  rw [e1]
  split
  · rw [Nat.zero_div]; rfl
  · rfl
theorem m_Look_0 {f : Nat → am_C} {i : Nat} (h : m_Pic f i (fun _ => 0) (fun _ => 0) (fun _ => 0) (fun _ => 0) (fun _ => 0) (fun _ => 0) 0 0) : m_Look f i (fun _ => 0) :=
  ⟨_, _, _, _, by rw [m_reg_0, m_pks_0, m_hum_0]; exact h, by rw [m_pks_0]; intro j hj; simp at hj⟩
end
section
/-! ===== Sheet ===== -/
theorem dX6_init_0 : decode cX6_init 0 = .ok (.aload_n 0, 1) := by decide +kernel
theorem dX6_init_1 : decode cX6_init 1 = .ok (.invokespecial 3, 3) := by decide +kernel
theorem dX6_init_4 : decode cX6_init 4 = .ok (.aload_n 0, 1) := by decide +kernel
theorem dX6_init_5 : decode cX6_init 5 = .ok (.bipush 48, 2) := by decide +kernel
theorem dX6_init_7 : decode cX6_init 7 = .ok (.newarray .int, 2) := by decide +kernel
theorem dX6_init_9 : decode cX6_init 9 = .ok (.putfield 9, 3) := by decide +kernel
theorem dX6_init_12 : decode cX6_init 12 = .ok (.aload_n 0, 1) := by decide +kernel
theorem dX6_init_13 : decode cX6_init 13 = .ok (.bipush 48, 2) := by decide +kernel
theorem dX6_init_15 : decode cX6_init 15 = .ok (.newarray .int, 2) := by decide +kernel
theorem dX6_init_17 : decode cX6_init 17 = .ok (.putfield 15, 3) := by decide +kernel
theorem dX6_init_20 : decode cX6_init 20 = .ok (.return_, 1) := by decide +kernel
theorem dX6_chargeOf_0 : decode cX6_chargeOf 0 = .ok (.aload_n 0, 1) := by decide +kernel
theorem dX6_chargeOf_1 : decode cX6_chargeOf 1 = .ok (.getfield 18, 3) := by decide +kernel
theorem dX6_chargeOf_4 : decode cX6_chargeOf 4 = .ok (.aload_n 0, 1) := by decide +kernel
theorem dX6_chargeOf_5 : decode cX6_chargeOf 5 = .ok (.getfield 9, 3) := by decide +kernel
theorem dX6_chargeOf_8 : decode cX6_chargeOf 8 = .ok (.iload_n 1, 1) := by decide +kernel
theorem dX6_chargeOf_9 : decode cX6_chargeOf 9 = .ok (.iaload, 1) := by decide +kernel
theorem dX6_chargeOf_10 : decode cX6_chargeOf 10 = .ok (.iadd, 1) := by decide +kernel
theorem dX6_chargeOf_11 : decode cX6_chargeOf 11 = .ok (.ireturn, 1) := by decide +kernel
theorem dX6_signalOf_0 : decode cX6_signalOf 0 = .ok (.aload_n 0, 1) := by decide +kernel
theorem dX6_signalOf_1 : decode cX6_signalOf 1 = .ok (.iload_n 1, 1) := by decide +kernel
theorem dX6_signalOf_2 : decode cX6_signalOf 2 = .ok (.invokevirtual 22, 3) := by decide +kernel
theorem dX6_signalOf_5 : decode cX6_signalOf 5 = .ok (.aload_n 0, 1) := by decide +kernel
theorem dX6_signalOf_6 : decode cX6_signalOf 6 = .ok (.getfield 15, 3) := by decide +kernel
theorem dX6_signalOf_9 : decode cX6_signalOf 9 = .ok (.iload_n 1, 1) := by decide +kernel
theorem dX6_signalOf_10 : decode cX6_signalOf 10 = .ok (.iaload, 1) := by decide +kernel
theorem dX6_signalOf_11 : decode cX6_signalOf 11 = .ok (.isub, 1) := by decide +kernel
theorem dX6_signalOf_12 : decode cX6_signalOf 12 = .ok (.ireturn, 1) := by decide +kernel
theorem dX6_addPress_0 : decode cX6_addPress 0 = .ok (.iload_n 2, 1) := by decide +kernel
theorem dX6_addPress_1 : decode cX6_addPress 1 = .ok (.iconst 1, 1) := by decide +kernel
theorem dX6_addPress_2 : decode cX6_addPress 2 = .ok (.isub, 1) := by decide +kernel
theorem dX6_addPress_3 : decode cX6_addPress 3 = .ok (.iconst 0, 1) := by decide +kernel
theorem dX6_addPress_4 : decode cX6_addPress 4 = .ok (.invokestatic 26, 3) := by decide +kernel
theorem dX6_addPress_7 : decode cX6_addPress 7 = .ok (.istore 4, 2) := by decide +kernel
theorem dX6_addPress_9 : decode cX6_addPress 9 = .ok (.iload 4, 2) := by decide +kernel
theorem dX6_addPress_11 : decode cX6_addPress 11 = .ok (.iload_n 2, 1) := by decide +kernel
theorem dX6_addPress_12 : decode cX6_addPress 12 = .ok (.iconst 1, 1) := by decide +kernel
theorem dX6_addPress_13 : decode cX6_addPress 13 = .ok (.iadd, 1) := by decide +kernel
theorem dX6_addPress_14 : decode cX6_addPress 14 = .ok (.iconst 5, 1) := by decide +kernel
theorem dX6_addPress_15 : decode cX6_addPress 15 = .ok (.invokestatic 32, 3) := by decide +kernel
theorem dX6_addPress_18 : decode cX6_addPress 18 = .ok (.if_icmp .gt 82, 3) := by decide +kernel
theorem dX6_addPress_21 : decode cX6_addPress 21 = .ok (.iload_n 1, 1) := by decide +kernel
theorem dX6_addPress_22 : decode cX6_addPress 22 = .ok (.iconst 1, 1) := by decide +kernel
theorem dX6_addPress_23 : decode cX6_addPress 23 = .ok (.isub, 1) := by decide +kernel
theorem dX6_addPress_24 : decode cX6_addPress 24 = .ok (.iconst 0, 1) := by decide +kernel
theorem dX6_addPress_25 : decode cX6_addPress 25 = .ok (.invokestatic 26, 3) := by decide +kernel
theorem dX6_addPress_28 : decode cX6_addPress 28 = .ok (.istore 5, 2) := by decide +kernel
theorem dX6_addPress_30 : decode cX6_addPress 30 = .ok (.iload 5, 2) := by decide +kernel
theorem dX6_addPress_32 : decode cX6_addPress 32 = .ok (.iload_n 1, 1) := by decide +kernel
theorem dX6_addPress_33 : decode cX6_addPress 33 = .ok (.iconst 1, 1) := by decide +kernel
theorem dX6_addPress_34 : decode cX6_addPress 34 = .ok (.iadd, 1) := by decide +kernel
theorem dX6_addPress_35 : decode cX6_addPress 35 = .ok (.bipush 7, 2) := by decide +kernel
theorem dX6_addPress_37 : decode cX6_addPress 37 = .ok (.invokestatic 32, 3) := by decide +kernel
theorem dX6_addPress_40 : decode cX6_addPress 40 = .ok (.if_icmp .gt 54, 3) := by decide +kernel
theorem dX6_addPress_43 : decode cX6_addPress 43 = .ok (.iload 4, 2) := by decide +kernel
theorem dX6_addPress_45 : decode cX6_addPress 45 = .ok (.iload_n 2, 1) := by decide +kernel
theorem dX6_addPress_46 : decode cX6_addPress 46 = .ok (.if_icmp .ne 7, 3) := by decide +kernel
theorem dX6_addPress_49 : decode cX6_addPress 49 = .ok (.iconst 0, 1) := by decide +kernel
theorem dX6_addPress_50 : decode cX6_addPress 50 = .ok (.goto 4, 3) := by decide +kernel
theorem dX6_addPress_53 : decode cX6_addPress 53 = .ok (.iconst 1, 1) := by decide +kernel
theorem dX6_addPress_54 : decode cX6_addPress 54 = .ok (.iload 5, 2) := by decide +kernel
theorem dX6_addPress_56 : decode cX6_addPress 56 = .ok (.iload_n 1, 1) := by decide +kernel
theorem dX6_addPress_57 : decode cX6_addPress 57 = .ok (.if_icmp .ne 7, 3) := by decide +kernel
theorem dX6_addPress_60 : decode cX6_addPress 60 = .ok (.iconst 0, 1) := by decide +kernel
theorem dX6_addPress_61 : decode cX6_addPress 61 = .ok (.goto 4, 3) := by decide +kernel
theorem dX6_addPress_64 : decode cX6_addPress 64 = .ok (.iconst 1, 1) := by decide +kernel
theorem dX6_addPress_65 : decode cX6_addPress 65 = .ok (.iadd, 1) := by decide +kernel
theorem dX6_addPress_66 : decode cX6_addPress 66 = .ok (.istore 6, 2) := by decide +kernel
theorem dX6_addPress_68 : decode cX6_addPress 68 = .ok (.aload_n 0, 1) := by decide +kernel
theorem dX6_addPress_69 : decode cX6_addPress 69 = .ok (.getfield 9, 3) := by decide +kernel
theorem dX6_addPress_72 : decode cX6_addPress 72 = .ok (.iload 4, 2) := by decide +kernel
theorem dX6_addPress_74 : decode cX6_addPress 74 = .ok (.bipush 8, 2) := by decide +kernel
theorem dX6_addPress_76 : decode cX6_addPress 76 = .ok (.imul, 1) := by decide +kernel
theorem dX6_addPress_77 : decode cX6_addPress 77 = .ok (.iload 5, 2) := by decide +kernel
theorem dX6_addPress_79 : decode cX6_addPress 79 = .ok (.iadd, 1) := by decide +kernel
theorem dX6_addPress_80 : decode cX6_addPress 80 = .ok (.dup2, 1) := by decide +kernel
theorem dX6_addPress_81 : decode cX6_addPress 81 = .ok (.iaload, 1) := by decide +kernel
theorem dX6_addPress_82 : decode cX6_addPress 82 = .ok (.iload_n 3, 1) := by decide +kernel
theorem dX6_addPress_83 : decode cX6_addPress 83 = .ok (.iload 6, 2) := by decide +kernel
theorem dX6_addPress_85 : decode cX6_addPress 85 = .ok (.ishr, 1) := by decide +kernel
theorem dX6_addPress_86 : decode cX6_addPress 86 = .ok (.iadd, 1) := by decide +kernel
theorem dX6_addPress_87 : decode cX6_addPress 87 = .ok (.iastore, 1) := by decide +kernel
theorem dX6_addPress_88 : decode cX6_addPress 88 = .ok (.iinc 5 1, 3) := by decide +kernel
theorem dX6_addPress_91 : decode cX6_addPress 91 = .ok (.goto (-61), 3) := by decide +kernel
theorem dX6_addPress_94 : decode cX6_addPress 94 = .ok (.iinc 4 1, 3) := by decide +kernel
theorem dX6_addPress_97 : decode cX6_addPress 97 = .ok (.goto (-88), 3) := by decide +kernel
theorem dX6_addPress_100 : decode cX6_addPress 100 = .ok (.return_, 1) := by decide +kernel
theorem dX6_addNoise_0 : decode cX6_addNoise 0 = .ok (.iconst 0, 1) := by decide +kernel
theorem dX6_addNoise_1 : decode cX6_addNoise 1 = .ok (.istore_n 3, 1) := by decide +kernel
theorem dX6_addNoise_2 : decode cX6_addNoise 2 = .ok (.iload_n 3, 1) := by decide +kernel
theorem dX6_addNoise_3 : decode cX6_addNoise 3 = .ok (.bipush 8, 2) := by decide +kernel
theorem dX6_addNoise_5 : decode cX6_addNoise 5 = .ok (.if_icmp .ge 24, 3) := by decide +kernel
theorem dX6_addNoise_8 : decode cX6_addNoise 8 = .ok (.aload_n 0, 1) := by decide +kernel
theorem dX6_addNoise_9 : decode cX6_addNoise 9 = .ok (.getfield 9, 3) := by decide +kernel
theorem dX6_addNoise_12 : decode cX6_addNoise 12 = .ok (.iload_n 1, 1) := by decide +kernel
theorem dX6_addNoise_13 : decode cX6_addNoise 13 = .ok (.bipush 8, 2) := by decide +kernel
theorem dX6_addNoise_15 : decode cX6_addNoise 15 = .ok (.imul, 1) := by decide +kernel
theorem dX6_addNoise_16 : decode cX6_addNoise 16 = .ok (.iload_n 3, 1) := by decide +kernel
theorem dX6_addNoise_17 : decode cX6_addNoise 17 = .ok (.iadd, 1) := by decide +kernel
theorem dX6_addNoise_18 : decode cX6_addNoise 18 = .ok (.dup2, 1) := by decide +kernel
theorem dX6_addNoise_19 : decode cX6_addNoise 19 = .ok (.iaload, 1) := by decide +kernel
theorem dX6_addNoise_20 : decode cX6_addNoise 20 = .ok (.iload_n 2, 1) := by decide +kernel
theorem dX6_addNoise_21 : decode cX6_addNoise 21 = .ok (.iadd, 1) := by decide +kernel
theorem dX6_addNoise_22 : decode cX6_addNoise 22 = .ok (.iastore, 1) := by decide +kernel
theorem dX6_addNoise_23 : decode cX6_addNoise 23 = .ok (.iinc 3 1, 3) := by decide +kernel
theorem dX6_addNoise_26 : decode cX6_addNoise 26 = .ok (.goto (-24), 3) := by decide +kernel
theorem dX6_addNoise_29 : decode cX6_addNoise 29 = .ok (.return_, 1) := by decide +kernel
theorem dX6_settle_0 : decode cX6_settle 0 = .ok (.iconst 0, 1) := by decide +kernel
theorem dX6_settle_1 : decode cX6_settle 1 = .ok (.istore_n 2, 1) := by decide +kernel
theorem dX6_settle_2 : decode cX6_settle 2 = .ok (.iload_n 2, 1) := by decide +kernel
theorem dX6_settle_3 : decode cX6_settle 3 = .ok (.bipush 48, 2) := by decide +kernel
theorem dX6_settle_5 : decode cX6_settle 5 = .ok (.if_icmp .ge 46, 3) := by decide +kernel
theorem dX6_settle_8 : decode cX6_settle 8 = .ok (.aload_n 1, 1) := by decide +kernel
theorem dX6_settle_9 : decode cX6_settle 9 = .ok (.iload_n 2, 1) := by decide +kernel
theorem dX6_settle_10 : decode cX6_settle 10 = .ok (.invokevirtual 35, 3) := by decide +kernel
theorem dX6_settle_13 : decode cX6_settle 13 = .ok (.ifCond .eq 14, 3) := by decide +kernel
theorem dX6_settle_16 : decode cX6_settle 16 = .ok (.aload_n 1, 1) := by decide +kernel
theorem dX6_settle_17 : decode cX6_settle 17 = .ok (.getfield 41, 3) := by decide +kernel
theorem dX6_settle_20 : decode cX6_settle 20 = .ok (.iload_n 2, 1) := by decide +kernel
theorem dX6_settle_21 : decode cX6_settle 21 = .ok (.iaload, 1) := by decide +kernel
theorem dX6_settle_22 : decode cX6_settle 22 = .ok (.bipush 14, 2) := by decide +kernel
theorem dX6_settle_24 : decode cX6_settle 24 = .ok (.if_icmp .le 21, 3) := by decide +kernel
theorem dX6_settle_27 : decode cX6_settle 27 = .ok (.aload_n 0, 1) := by decide +kernel
theorem dX6_settle_28 : decode cX6_settle 28 = .ok (.getfield 15, 3) := by decide +kernel
theorem dX6_settle_31 : decode cX6_settle 31 = .ok (.iload_n 2, 1) := by decide +kernel
theorem dX6_settle_32 : decode cX6_settle 32 = .ok (.dup2, 1) := by decide +kernel
theorem dX6_settle_33 : decode cX6_settle 33 = .ok (.iaload, 1) := by decide +kernel
theorem dX6_settle_34 : decode cX6_settle 34 = .ok (.aload_n 1, 1) := by decide +kernel
theorem dX6_settle_35 : decode cX6_settle 35 = .ok (.getfield 44, 3) := by decide +kernel
theorem dX6_settle_38 : decode cX6_settle 38 = .ok (.iload_n 2, 1) := by decide +kernel
theorem dX6_settle_39 : decode cX6_settle 39 = .ok (.iaload, 1) := by decide +kernel
theorem dX6_settle_40 : decode cX6_settle 40 = .ok (.invokestatic 47, 3) := by decide +kernel
theorem dX6_settle_43 : decode cX6_settle 43 = .ok (.iadd, 1) := by decide +kernel
theorem dX6_settle_44 : decode cX6_settle 44 = .ok (.iastore, 1) := by decide +kernel
theorem dX6_settle_45 : decode cX6_settle 45 = .ok (.iinc 2 1, 3) := by decide +kernel
theorem dX6_settle_48 : decode cX6_settle 48 = .ok (.goto (-46), 3) := by decide +kernel
theorem dX6_settle_51 : decode cX6_settle 51 = .ok (.return_, 1) := by decide +kernel
theorem dX6_stepFor_0 : decode cX6_stepFor 0 = .ok (.iload_n 0, 1) := by decide +kernel
theorem dX6_stepFor_1 : decode cX6_stepFor 1 = .ok (.bipush (-10), 2) := by decide +kernel
theorem dX6_stepFor_3 : decode cX6_stepFor 3 = .ok (.if_icmp .gt 6, 3) := by decide +kernel
theorem dX6_stepFor_6 : decode cX6_stepFor 6 = .ok (.bipush (-4), 2) := by decide +kernel
theorem dX6_stepFor_8 : decode cX6_stepFor 8 = .ok (.ireturn, 1) := by decide +kernel
theorem dX6_stepFor_9 : decode cX6_stepFor 9 = .ok (.iload_n 0, 1) := by decide +kernel
theorem dX6_stepFor_10 : decode cX6_stepFor 10 = .ok (.bipush 10, 2) := by decide +kernel
theorem dX6_stepFor_12 : decode cX6_stepFor 12 = .ok (.if_icmp .lt 5, 3) := by decide +kernel
theorem dX6_stepFor_15 : decode cX6_stepFor 15 = .ok (.iconst 4, 1) := by decide +kernel
theorem dX6_stepFor_16 : decode cX6_stepFor 16 = .ok (.ireturn, 1) := by decide +kernel
theorem dX6_stepFor_17 : decode cX6_stepFor 17 = .ok (.iload_n 0, 1) := by decide +kernel
theorem dX6_stepFor_18 : decode cX6_stepFor 18 = .ok (.iconst 0, 1) := by decide +kernel
theorem dX6_stepFor_19 : decode cX6_stepFor 19 = .ok (.invokestatic 50, 3) := by decide +kernel
theorem dX6_stepFor_22 : decode cX6_stepFor 22 = .ok (.ireturn, 1) := by decide +kernel
theorem dX6_forgetWaits_0 : decode cX6_forgetWaits 0 = .ok (.iconst 0, 1) := by decide +kernel
theorem dX6_forgetWaits_1 : decode cX6_forgetWaits 1 = .ok (.istore_n 1, 1) := by decide +kernel
theorem dX6_forgetWaits_2 : decode cX6_forgetWaits 2 = .ok (.iload_n 1, 1) := by decide +kernel
theorem dX6_forgetWaits_3 : decode cX6_forgetWaits 3 = .ok (.bipush 48, 2) := by decide +kernel
theorem dX6_forgetWaits_5 : decode cX6_forgetWaits 5 = .ok (.if_icmp .ge 16, 3) := by decide +kernel
theorem dX6_forgetWaits_8 : decode cX6_forgetWaits 8 = .ok (.aload_n 0, 1) := by decide +kernel
theorem dX6_forgetWaits_9 : decode cX6_forgetWaits 9 = .ok (.getfield 9, 3) := by decide +kernel
theorem dX6_forgetWaits_12 : decode cX6_forgetWaits 12 = .ok (.iload_n 1, 1) := by decide +kernel
theorem dX6_forgetWaits_13 : decode cX6_forgetWaits 13 = .ok (.iconst 0, 1) := by decide +kernel
theorem dX6_forgetWaits_14 : decode cX6_forgetWaits 14 = .ok (.iastore, 1) := by decide +kernel
theorem dX6_forgetWaits_15 : decode cX6_forgetWaits 15 = .ok (.iinc 1 1, 3) := by decide +kernel
theorem dX6_forgetWaits_18 : decode cX6_forgetWaits 18 = .ok (.goto (-16), 3) := by decide +kernel
theorem dX6_forgetWaits_21 : decode cX6_forgetWaits 21 = .ok (.return_, 1) := by decide +kernel
theorem dX6_baseOnHeat_0 : decode cX6_baseOnHeat 0 = .ok (.iconst 0, 1) := by decide +kernel
theorem dX6_baseOnHeat_1 : decode cX6_baseOnHeat 1 = .ok (.istore_n 1, 1) := by decide +kernel
theorem dX6_baseOnHeat_2 : decode cX6_baseOnHeat 2 = .ok (.iload_n 1, 1) := by decide +kernel
theorem dX6_baseOnHeat_3 : decode cX6_baseOnHeat 3 = .ok (.bipush 48, 2) := by decide +kernel
theorem dX6_baseOnHeat_5 : decode cX6_baseOnHeat 5 = .ok (.if_icmp .ge 19, 3) := by decide +kernel
theorem dX6_baseOnHeat_8 : decode cX6_baseOnHeat 8 = .ok (.aload_n 0, 1) := by decide +kernel
theorem dX6_baseOnHeat_9 : decode cX6_baseOnHeat 9 = .ok (.getfield 15, 3) := by decide +kernel
theorem dX6_baseOnHeat_12 : decode cX6_baseOnHeat 12 = .ok (.iload_n 1, 1) := by decide +kernel
theorem dX6_baseOnHeat_13 : decode cX6_baseOnHeat 13 = .ok (.aload_n 0, 1) := by decide +kernel
theorem dX6_baseOnHeat_14 : decode cX6_baseOnHeat 14 = .ok (.getfield 18, 3) := by decide +kernel
theorem dX6_baseOnHeat_17 : decode cX6_baseOnHeat 17 = .ok (.iastore, 1) := by decide +kernel
theorem dX6_baseOnHeat_18 : decode cX6_baseOnHeat 18 = .ok (.iinc 1 1, 3) := by decide +kernel
theorem dX6_baseOnHeat_21 : decode cX6_baseOnHeat 21 = .ok (.goto (-19), 3) := by decide +kernel
theorem dX6_baseOnHeat_24 : decode cX6_baseOnHeat 24 = .ok (.return_, 1) := by decide +kernel
theorem dX6_copyFrom_0 : decode cX6_copyFrom 0 = .ok (.aload_n 0, 1) := by decide +kernel
theorem dX6_copyFrom_1 : decode cX6_copyFrom 1 = .ok (.aload_n 1, 1) := by decide +kernel
theorem dX6_copyFrom_2 : decode cX6_copyFrom 2 = .ok (.getfield 18, 3) := by decide +kernel
theorem dX6_copyFrom_5 : decode cX6_copyFrom 5 = .ok (.putfield 18, 3) := by decide +kernel
theorem dX6_copyFrom_8 : decode cX6_copyFrom 8 = .ok (.iconst 0, 1) := by decide +kernel
theorem dX6_copyFrom_9 : decode cX6_copyFrom 9 = .ok (.istore_n 2, 1) := by decide +kernel
theorem dX6_copyFrom_10 : decode cX6_copyFrom 10 = .ok (.iload_n 2, 1) := by decide +kernel
theorem dX6_copyFrom_11 : decode cX6_copyFrom 11 = .ok (.bipush 48, 2) := by decide +kernel
theorem dX6_copyFrom_13 : decode cX6_copyFrom 13 = .ok (.if_icmp .ge 33, 3) := by decide +kernel
theorem dX6_copyFrom_16 : decode cX6_copyFrom 16 = .ok (.aload_n 0, 1) := by decide +kernel
theorem dX6_copyFrom_17 : decode cX6_copyFrom 17 = .ok (.getfield 9, 3) := by decide +kernel
theorem dX6_copyFrom_20 : decode cX6_copyFrom 20 = .ok (.iload_n 2, 1) := by decide +kernel
theorem dX6_copyFrom_21 : decode cX6_copyFrom 21 = .ok (.aload_n 1, 1) := by decide +kernel
theorem dX6_copyFrom_22 : decode cX6_copyFrom 22 = .ok (.getfield 9, 3) := by decide +kernel
theorem dX6_copyFrom_25 : decode cX6_copyFrom 25 = .ok (.iload_n 2, 1) := by decide +kernel
theorem dX6_copyFrom_26 : decode cX6_copyFrom 26 = .ok (.iaload, 1) := by decide +kernel
theorem dX6_copyFrom_27 : decode cX6_copyFrom 27 = .ok (.iastore, 1) := by decide +kernel
theorem dX6_copyFrom_28 : decode cX6_copyFrom 28 = .ok (.aload_n 0, 1) := by decide +kernel
theorem dX6_copyFrom_29 : decode cX6_copyFrom 29 = .ok (.getfield 15, 3) := by decide +kernel
theorem dX6_copyFrom_32 : decode cX6_copyFrom 32 = .ok (.iload_n 2, 1) := by decide +kernel
theorem dX6_copyFrom_33 : decode cX6_copyFrom 33 = .ok (.aload_n 1, 1) := by decide +kernel
theorem dX6_copyFrom_34 : decode cX6_copyFrom 34 = .ok (.getfield 15, 3) := by decide +kernel
theorem dX6_copyFrom_37 : decode cX6_copyFrom 37 = .ok (.iload_n 2, 1) := by decide +kernel
theorem dX6_copyFrom_38 : decode cX6_copyFrom 38 = .ok (.iaload, 1) := by decide +kernel
theorem dX6_copyFrom_39 : decode cX6_copyFrom 39 = .ok (.iastore, 1) := by decide +kernel
theorem dX6_copyFrom_40 : decode cX6_copyFrom 40 = .ok (.iinc 2 1, 3) := by decide +kernel
theorem dX6_copyFrom_43 : decode cX6_copyFrom 43 = .ok (.goto (-33), 3) := by decide +kernel
theorem dX6_copyFrom_46 : decode cX6_copyFrom 46 = .ok (.return_, 1) := by decide +kernel
theorem dJ6_compare_7cf53_0 : decode cJ6_compare_7cf53 0 = .ok (.iload_n 0, 1) := by decide +kernel
theorem dJ6_compare_7cf53_1 : decode cJ6_compare_7cf53 1 = .ok (.iload_n 1, 1) := by decide +kernel
theorem dJ6_compare_7cf53_2 : decode cJ6_compare_7cf53 2 = .ok (.if_icmp .ge 7, 3) := by decide +kernel
theorem dJ6_compare_7cf53_5 : decode cJ6_compare_7cf53 5 = .ok (.iconst (-1), 1) := by decide +kernel
theorem dJ6_compare_7cf53_6 : decode cJ6_compare_7cf53 6 = .ok (.goto 13, 3) := by decide +kernel
theorem dJ6_compare_7cf53_9 : decode cJ6_compare_7cf53 9 = .ok (.iload_n 0, 1) := by decide +kernel
theorem dJ6_compare_7cf53_10 : decode cJ6_compare_7cf53 10 = .ok (.iload_n 1, 1) := by decide +kernel
theorem dJ6_compare_7cf53_11 : decode cJ6_compare_7cf53 11 = .ok (.if_icmp .ne 7, 3) := by decide +kernel
theorem dJ6_compare_7cf53_14 : decode cJ6_compare_7cf53 14 = .ok (.iconst 0, 1) := by decide +kernel
theorem dJ6_compare_7cf53_15 : decode cJ6_compare_7cf53 15 = .ok (.goto 4, 3) := by decide +kernel
theorem dJ6_compare_7cf53_18 : decode cJ6_compare_7cf53 18 = .ok (.iconst 1, 1) := by decide +kernel
theorem dJ6_compare_7cf53_19 : decode cJ6_compare_7cf53 19 = .ok (.ireturn, 1) := by decide +kernel
theorem dJ6_signum_0f7a4_0 : decode cJ6_signum_0f7a4 0 = .ok (.iload_n 0, 1) := by decide +kernel
theorem dJ6_signum_0f7a4_1 : decode cJ6_signum_0f7a4 1 = .ok (.bipush 31, 2) := by decide +kernel
theorem dJ6_signum_0f7a4_3 : decode cJ6_signum_0f7a4 3 = .ok (.ishr, 1) := by decide +kernel
theorem dJ6_signum_0f7a4_4 : decode cJ6_signum_0f7a4 4 = .ok (.iload_n 0, 1) := by decide +kernel
theorem dJ6_signum_0f7a4_5 : decode cJ6_signum_0f7a4 5 = .ok (.ineg, 1) := by decide +kernel
theorem dJ6_signum_0f7a4_6 : decode cJ6_signum_0f7a4 6 = .ok (.bipush 31, 2) := by decide +kernel
theorem dJ6_signum_0f7a4_8 : decode cJ6_signum_0f7a4 8 = .ok (.iushr, 1) := by decide +kernel
theorem dJ6_signum_0f7a4_9 : decode cJ6_signum_0f7a4 9 = .ok (.ior, 1) := by decide +kernel
theorem dJ6_signum_0f7a4_10 : decode cJ6_signum_0f7a4 10 = .ok (.ireturn, 1) := by decide +kernel
theorem dJ9_abs_0f7a4_0 : decode cJ9_abs_0f7a4 0 = .ok (.iload_n 0, 1) := by decide +kernel
theorem dJ9_abs_0f7a4_1 : decode cJ9_abs_0f7a4 1 = .ok (.ifCond .ge 8, 3) := by decide +kernel
theorem dJ9_abs_0f7a4_4 : decode cJ9_abs_0f7a4 4 = .ok (.iload_n 0, 1) := by decide +kernel
theorem dJ9_abs_0f7a4_5 : decode cJ9_abs_0f7a4 5 = .ok (.ineg, 1) := by decide +kernel
theorem dJ9_abs_0f7a4_6 : decode cJ9_abs_0f7a4 6 = .ok (.goto 4, 3) := by decide +kernel
theorem dJ9_abs_0f7a4_9 : decode cJ9_abs_0f7a4 9 = .ok (.iload_n 0, 1) := by decide +kernel
theorem dJ9_abs_0f7a4_10 : decode cJ9_abs_0f7a4 10 = .ok (.ireturn, 1) := by decide +kernel
theorem dJ9_abs_067f4_0 : decode cJ9_abs_067f4 0 = .ok (.lload_n 0, 1) := by decide +kernel
theorem dJ9_abs_067f4_1 : decode cJ9_abs_067f4 1 = .ok (.lconst 0, 1) := by decide +kernel
theorem dJ9_abs_067f4_2 : decode cJ9_abs_067f4 2 = .ok (.lcmp, 1) := by decide +kernel
theorem dJ9_abs_067f4_3 : decode cJ9_abs_067f4 3 = .ok (.ifCond .ge 8, 3) := by decide +kernel
theorem dJ9_abs_067f4_6 : decode cJ9_abs_067f4 6 = .ok (.lload_n 0, 1) := by decide +kernel
theorem dJ9_abs_067f4_7 : decode cJ9_abs_067f4 7 = .ok (.lneg, 1) := by decide +kernel
theorem dJ9_abs_067f4_8 : decode cJ9_abs_067f4 8 = .ok (.goto 4, 3) := by decide +kernel
theorem dJ9_abs_067f4_11 : decode cJ9_abs_067f4 11 = .ok (.lload_n 0, 1) := by decide +kernel
theorem dJ9_abs_067f4_12 : decode cJ9_abs_067f4 12 = .ok (.lreturn, 1) := by decide +kernel
theorem dJ9_abs_f6c48_0 : decode cJ9_abs_f6c48 0 = .ok (.fload_n 0, 1) := by decide +kernel
theorem dJ9_abs_f6c48_1 : decode cJ9_abs_f6c48 1 = .ok (.invokestatic 68, 3) := by decide +kernel
theorem dJ9_abs_f6c48_4 : decode cJ9_abs_f6c48 4 = .ok (.ldc 134, 2) := by decide +kernel
theorem dJ9_abs_f6c48_6 : decode cJ9_abs_f6c48 6 = .ok (.iand, 1) := by decide +kernel
theorem dJ9_abs_f6c48_7 : decode cJ9_abs_f6c48 7 = .ok (.invokestatic 162, 3) := by decide +kernel
theorem dJ9_abs_f6c48_10 : decode cJ9_abs_f6c48 10 = .ok (.freturn, 1) := by decide +kernel
theorem dJ9_max_7cf53_0 : decode cJ9_max_7cf53 0 = .ok (.iload_n 0, 1) := by decide +kernel
theorem dJ9_max_7cf53_1 : decode cJ9_max_7cf53 1 = .ok (.iload_n 1, 1) := by decide +kernel
theorem dJ9_max_7cf53_2 : decode cJ9_max_7cf53 2 = .ok (.if_icmp .lt 7, 3) := by decide +kernel
theorem dJ9_max_7cf53_5 : decode cJ9_max_7cf53 5 = .ok (.iload_n 0, 1) := by decide +kernel
theorem dJ9_max_7cf53_6 : decode cJ9_max_7cf53 6 = .ok (.goto 4, 3) := by decide +kernel
theorem dJ9_max_7cf53_9 : decode cJ9_max_7cf53 9 = .ok (.iload_n 1, 1) := by decide +kernel
theorem dJ9_max_7cf53_10 : decode cJ9_max_7cf53 10 = .ok (.ireturn, 1) := by decide +kernel
theorem dJ9_max_e70c8_0 : decode cJ9_max_e70c8 0 = .ok (.fload_n 0, 1) := by decide +kernel
theorem dJ9_max_e70c8_1 : decode cJ9_max_e70c8 1 = .ok (.fload_n 0, 1) := by decide +kernel
theorem dJ9_max_e70c8_2 : decode cJ9_max_e70c8 2 = .ok (.fcmp .l, 1) := by decide +kernel
theorem dJ9_max_e70c8_3 : decode cJ9_max_e70c8 3 = .ok (.ifCond .eq 5, 3) := by decide +kernel
theorem dJ9_max_e70c8_6 : decode cJ9_max_e70c8 6 = .ok (.fload_n 0, 1) := by decide +kernel
theorem dJ9_max_e70c8_7 : decode cJ9_max_e70c8 7 = .ok (.freturn, 1) := by decide +kernel
theorem dJ9_max_e70c8_8 : decode cJ9_max_e70c8 8 = .ok (.fload_n 0, 1) := by decide +kernel
theorem dJ9_max_e70c8_9 : decode cJ9_max_e70c8 9 = .ok (.fconst 0, 1) := by decide +kernel
theorem dJ9_max_e70c8_10 : decode cJ9_max_e70c8 10 = .ok (.fcmp .l, 1) := by decide +kernel
theorem dJ9_max_e70c8_11 : decode cJ9_max_e70c8 11 = .ok (.ifCond .ne 23, 3) := by decide +kernel
theorem dJ9_max_e70c8_14 : decode cJ9_max_e70c8 14 = .ok (.fload_n 1, 1) := by decide +kernel
theorem dJ9_max_e70c8_15 : decode cJ9_max_e70c8 15 = .ok (.fconst 0, 1) := by decide +kernel
theorem dJ9_max_e70c8_16 : decode cJ9_max_e70c8 16 = .ok (.fcmp .l, 1) := by decide +kernel
theorem dJ9_max_e70c8_17 : decode cJ9_max_e70c8 17 = .ok (.ifCond .ne 17, 3) := by decide +kernel
theorem dJ9_max_e70c8_20 : decode cJ9_max_e70c8 20 = .ok (.fload_n 0, 1) := by decide +kernel
theorem dJ9_max_e70c8_21 : decode cJ9_max_e70c8 21 = .ok (.invokestatic 68, 3) := by decide +kernel
theorem dJ9_max_e70c8_24 : decode cJ9_max_e70c8 24 = .ok (.i2l, 1) := by decide +kernel
theorem dJ9_max_e70c8_25 : decode cJ9_max_e70c8 25 = .ok (.getstatic 170, 3) := by decide +kernel
theorem dJ9_max_e70c8_28 : decode cJ9_max_e70c8 28 = .ok (.lcmp, 1) := by decide +kernel
theorem dJ9_max_e70c8_29 : decode cJ9_max_e70c8 29 = .ok (.ifCond .ne 5, 3) := by decide +kernel
theorem dJ9_max_e70c8_32 : decode cJ9_max_e70c8 32 = .ok (.fload_n 1, 1) := by decide +kernel
theorem dJ9_max_e70c8_33 : decode cJ9_max_e70c8 33 = .ok (.freturn, 1) := by decide +kernel
theorem dJ9_max_e70c8_34 : decode cJ9_max_e70c8 34 = .ok (.fload_n 0, 1) := by decide +kernel
theorem dJ9_max_e70c8_35 : decode cJ9_max_e70c8 35 = .ok (.fload_n 1, 1) := by decide +kernel
theorem dJ9_max_e70c8_36 : decode cJ9_max_e70c8 36 = .ok (.fcmp .l, 1) := by decide +kernel
theorem dJ9_max_e70c8_37 : decode cJ9_max_e70c8 37 = .ok (.ifCond .lt 7, 3) := by decide +kernel
theorem dJ9_max_e70c8_40 : decode cJ9_max_e70c8 40 = .ok (.fload_n 0, 1) := by decide +kernel
theorem dJ9_max_e70c8_41 : decode cJ9_max_e70c8 41 = .ok (.goto 4, 3) := by decide +kernel
theorem dJ9_max_e70c8_44 : decode cJ9_max_e70c8 44 = .ok (.fload_n 1, 1) := by decide +kernel
theorem dJ9_max_e70c8_45 : decode cJ9_max_e70c8 45 = .ok (.freturn, 1) := by decide +kernel
theorem dJ9_min_7cf53_0 : decode cJ9_min_7cf53 0 = .ok (.iload_n 0, 1) := by decide +kernel
theorem dJ9_min_7cf53_1 : decode cJ9_min_7cf53 1 = .ok (.iload_n 1, 1) := by decide +kernel
theorem dJ9_min_7cf53_2 : decode cJ9_min_7cf53 2 = .ok (.if_icmp .gt 7, 3) := by decide +kernel
theorem dJ9_min_7cf53_5 : decode cJ9_min_7cf53 5 = .ok (.iload_n 0, 1) := by decide +kernel
theorem dJ9_min_7cf53_6 : decode cJ9_min_7cf53 6 = .ok (.goto 4, 3) := by decide +kernel
theorem dJ9_min_7cf53_9 : decode cJ9_min_7cf53 9 = .ok (.iload_n 1, 1) := by decide +kernel
theorem dJ9_min_7cf53_10 : decode cJ9_min_7cf53 10 = .ok (.ireturn, 1) := by decide +kernel
theorem dJ9_min_f86c9_0 : decode cJ9_min_f86c9 0 = .ok (.lload_n 0, 1) := by decide +kernel
theorem dJ9_min_f86c9_1 : decode cJ9_min_f86c9 1 = .ok (.lload_n 2, 1) := by decide +kernel
theorem dJ9_min_f86c9_2 : decode cJ9_min_f86c9 2 = .ok (.lcmp, 1) := by decide +kernel
theorem dJ9_min_f86c9_3 : decode cJ9_min_f86c9 3 = .ok (.ifCond .gt 7, 3) := by decide +kernel
theorem dJ9_min_f86c9_6 : decode cJ9_min_f86c9 6 = .ok (.lload_n 0, 1) := by decide +kernel
theorem dJ9_min_f86c9_7 : decode cJ9_min_f86c9 7 = .ok (.goto 4, 3) := by decide +kernel
theorem dJ9_min_f86c9_10 : decode cJ9_min_f86c9 10 = .ok (.lload_n 2, 1) := by decide +kernel
theorem dJ9_min_f86c9_11 : decode cJ9_min_f86c9 11 = .ok (.lreturn, 1) := by decide +kernel
theorem dJ9_min_e70c8_0 : decode cJ9_min_e70c8 0 = .ok (.fload_n 0, 1) := by decide +kernel
theorem dJ9_min_e70c8_1 : decode cJ9_min_e70c8 1 = .ok (.fload_n 0, 1) := by decide +kernel
theorem dJ9_min_e70c8_2 : decode cJ9_min_e70c8 2 = .ok (.fcmp .l, 1) := by decide +kernel
theorem dJ9_min_e70c8_3 : decode cJ9_min_e70c8 3 = .ok (.ifCond .eq 5, 3) := by decide +kernel
theorem dJ9_min_e70c8_6 : decode cJ9_min_e70c8 6 = .ok (.fload_n 0, 1) := by decide +kernel
theorem dJ9_min_e70c8_7 : decode cJ9_min_e70c8 7 = .ok (.freturn, 1) := by decide +kernel
theorem dJ9_min_e70c8_8 : decode cJ9_min_e70c8 8 = .ok (.fload_n 0, 1) := by decide +kernel
theorem dJ9_min_e70c8_9 : decode cJ9_min_e70c8 9 = .ok (.fconst 0, 1) := by decide +kernel
theorem dJ9_min_e70c8_10 : decode cJ9_min_e70c8 10 = .ok (.fcmp .l, 1) := by decide +kernel
theorem dJ9_min_e70c8_11 : decode cJ9_min_e70c8 11 = .ok (.ifCond .ne 23, 3) := by decide +kernel
theorem dJ9_min_e70c8_14 : decode cJ9_min_e70c8 14 = .ok (.fload_n 1, 1) := by decide +kernel
theorem dJ9_min_e70c8_15 : decode cJ9_min_e70c8 15 = .ok (.fconst 0, 1) := by decide +kernel
theorem dJ9_min_e70c8_16 : decode cJ9_min_e70c8 16 = .ok (.fcmp .l, 1) := by decide +kernel
theorem dJ9_min_e70c8_17 : decode cJ9_min_e70c8 17 = .ok (.ifCond .ne 17, 3) := by decide +kernel
theorem dJ9_min_e70c8_20 : decode cJ9_min_e70c8 20 = .ok (.fload_n 1, 1) := by decide +kernel
theorem dJ9_min_e70c8_21 : decode cJ9_min_e70c8 21 = .ok (.invokestatic 68, 3) := by decide +kernel
theorem dJ9_min_e70c8_24 : decode cJ9_min_e70c8 24 = .ok (.i2l, 1) := by decide +kernel
theorem dJ9_min_e70c8_25 : decode cJ9_min_e70c8 25 = .ok (.getstatic 170, 3) := by decide +kernel
theorem dJ9_min_e70c8_28 : decode cJ9_min_e70c8 28 = .ok (.lcmp, 1) := by decide +kernel
theorem dJ9_min_e70c8_29 : decode cJ9_min_e70c8 29 = .ok (.ifCond .ne 5, 3) := by decide +kernel
theorem dJ9_min_e70c8_32 : decode cJ9_min_e70c8 32 = .ok (.fload_n 1, 1) := by decide +kernel
theorem dJ9_min_e70c8_33 : decode cJ9_min_e70c8 33 = .ok (.freturn, 1) := by decide +kernel
theorem dJ9_min_e70c8_34 : decode cJ9_min_e70c8 34 = .ok (.fload_n 0, 1) := by decide +kernel
theorem dJ9_min_e70c8_35 : decode cJ9_min_e70c8 35 = .ok (.fload_n 1, 1) := by decide +kernel
theorem dJ9_min_e70c8_36 : decode cJ9_min_e70c8 36 = .ok (.fcmp .g, 1) := by decide +kernel
theorem dJ9_min_e70c8_37 : decode cJ9_min_e70c8 37 = .ok (.ifCond .gt 7, 3) := by decide +kernel
theorem dJ9_min_e70c8_40 : decode cJ9_min_e70c8 40 = .ok (.fload_n 0, 1) := by decide +kernel
theorem dJ9_min_e70c8_41 : decode cJ9_min_e70c8 41 = .ok (.goto 4, 3) := by decide +kernel
theorem dJ9_min_e70c8_44 : decode cJ9_min_e70c8 44 = .ok (.fload_n 1, 1) := by decide +kernel
theorem dJ9_min_e70c8_45 : decode cJ9_min_e70c8 45 = .ok (.freturn, 1) := by decide +kernel
theorem dJxa1e45_init_da8c8_0 : decode cJxa1e45_init_da8c8 0 = .ok (.aload_n 0, 1) := by decide +kernel
theorem dJxa1e45_init_da8c8_1 : decode cJxa1e45_init_da8c8 1 = .ok (.invokespecial 1, 3) := by decide +kernel
theorem dJxa1e45_init_da8c8_4 : decode cJxa1e45_init_da8c8 4 = .ok (.return_, 1) := by decide +kernel
theorem dJxc12de_init_da8c8_0 : decode cJxc12de_init_da8c8 0 = .ok (.aload_n 0, 1) := by decide +kernel
theorem dJxc12de_init_da8c8_1 : decode cJxc12de_init_da8c8 1 = .ok (.invokespecial 1, 3) := by decide +kernel
theorem dJxc12de_init_da8c8_4 : decode cJxc12de_init_da8c8 4 = .ok (.aload_n 0, 1) := by decide +kernel
theorem dJxc12de_init_da8c8_5 : decode cJxc12de_init_da8c8 5 = .ok (.iconst 0, 1) := by decide +kernel
theorem dJxc12de_init_da8c8_6 : decode cJxc12de_init_da8c8 6 = .ok (.putfield 7, 3) := by decide +kernel
theorem dJxc12de_init_da8c8_9 : decode cJxc12de_init_da8c8 9 = .ok (.return_, 1) := by decide +kernel
theorem dJx4a65c_init_da8c8_0 : decode cJx4a65c_init_da8c8 0 = .ok (.aload_n 0, 1) := by decide +kernel
theorem dJx4a65c_init_da8c8_1 : decode cJx4a65c_init_da8c8 1 = .ok (.invokespecial 1, 3) := by decide +kernel
theorem dJx4a65c_init_da8c8_4 : decode cJx4a65c_init_da8c8 4 = .ok (.aload_n 0, 1) := by decide +kernel
theorem dJx4a65c_init_da8c8_5 : decode cJx4a65c_init_da8c8 5 = .ok (.getstatic 39, 3) := by decide +kernel
theorem dJx4a65c_init_da8c8_8 : decode cJx4a65c_init_da8c8 8 = .ok (.putfield 9, 3) := by decide +kernel
theorem dJx4a65c_init_da8c8_11 : decode cJx4a65c_init_da8c8 11 = .ok (.return_, 1) := by decide +kernel
theorem dJx4a65c_grow_92f84_0 : decode cJx4a65c_grow_92f84 0 = .ok (.aload_n 0, 1) := by decide +kernel
theorem dJx4a65c_grow_92f84_1 : decode cJx4a65c_grow_92f84 1 = .ok (.getfield 9, 3) := by decide +kernel
theorem dJx4a65c_grow_92f84_4 : decode cJx4a65c_grow_92f84 4 = .ok (.arraylength, 1) := by decide +kernel
theorem dJx4a65c_grow_92f84_5 : decode cJx4a65c_grow_92f84 5 = .ok (.istore_n 2, 1) := by decide +kernel
theorem dJx4a65c_grow_92f84_6 : decode cJx4a65c_grow_92f84 6 = .ok (.iload_n 2, 1) := by decide +kernel
theorem dJx4a65c_grow_92f84_7 : decode cJx4a65c_grow_92f84 7 = .ok (.ifCond .gt 13, 3) := by decide +kernel
theorem dJx4a65c_grow_92f84_10 : decode cJx4a65c_grow_92f84 10 = .ok (.aload_n 0, 1) := by decide +kernel
theorem dJx4a65c_grow_92f84_11 : decode cJx4a65c_grow_92f84 11 = .ok (.getfield 9, 3) := by decide +kernel
theorem dJx4a65c_grow_92f84_14 : decode cJx4a65c_grow_92f84 14 = .ok (.getstatic 39, 3) := by decide +kernel
theorem dJx4a65c_grow_92f84_17 : decode cJx4a65c_grow_92f84 17 = .ok (.if_acmp .eq 28, 3) := by decide +kernel
theorem dJx4a65c_grow_92f84_20 : decode cJx4a65c_grow_92f84 20 = .ok (.iload_n 2, 1) := by decide +kernel
theorem dJx4a65c_grow_92f84_21 : decode cJx4a65c_grow_92f84 21 = .ok (.iload_n 1, 1) := by decide +kernel
theorem dJx4a65c_grow_92f84_22 : decode cJx4a65c_grow_92f84 22 = .ok (.iload_n 2, 1) := by decide +kernel
theorem dJx4a65c_grow_92f84_23 : decode cJx4a65c_grow_92f84 23 = .ok (.isub, 1) := by decide +kernel
theorem dJx4a65c_grow_92f84_24 : decode cJx4a65c_grow_92f84 24 = .ok (.iload_n 2, 1) := by decide +kernel
theorem dJx4a65c_grow_92f84_25 : decode cJx4a65c_grow_92f84 25 = .ok (.iconst 1, 1) := by decide +kernel
theorem dJx4a65c_grow_92f84_26 : decode cJx4a65c_grow_92f84 26 = .ok (.ishr, 1) := by decide +kernel
theorem dJx4a65c_grow_92f84_27 : decode cJx4a65c_grow_92f84 27 = .ok (.invokestatic 73, 3) := by decide +kernel
theorem dJx4a65c_grow_92f84_30 : decode cJx4a65c_grow_92f84 30 = .ok (.istore_n 3, 1) := by decide +kernel
theorem dJx4a65c_grow_92f84_31 : decode cJx4a65c_grow_92f84 31 = .ok (.aload_n 0, 1) := by decide +kernel
theorem dJx4a65c_grow_92f84_32 : decode cJx4a65c_grow_92f84 32 = .ok (.aload_n 0, 1) := by decide +kernel
theorem dJx4a65c_grow_92f84_33 : decode cJx4a65c_grow_92f84 33 = .ok (.getfield 9, 3) := by decide +kernel
theorem dJx4a65c_grow_92f84_36 : decode cJx4a65c_grow_92f84 36 = .ok (.iload_n 3, 1) := by decide +kernel
theorem dJx4a65c_grow_92f84_37 : decode cJx4a65c_grow_92f84 37 = .ok (.invokestatic 66, 3) := by decide +kernel
theorem dJx4a65c_grow_92f84_40 : decode cJx4a65c_grow_92f84 40 = .ok (.dup_x1, 1) := by decide +kernel
theorem dJx4a65c_grow_92f84_41 : decode cJx4a65c_grow_92f84 41 = .ok (.putfield 9, 3) := by decide +kernel
theorem dJx4a65c_grow_92f84_44 : decode cJx4a65c_grow_92f84 44 = .ok (.areturn, 1) := by decide +kernel
theorem dJx4a65c_grow_92f84_45 : decode cJx4a65c_grow_92f84 45 = .ok (.aload_n 0, 1) := by decide +kernel
theorem dJx4a65c_grow_92f84_46 : decode cJx4a65c_grow_92f84 46 = .ok (.bipush 10, 2) := by decide +kernel
theorem dJx4a65c_grow_92f84_48 : decode cJx4a65c_grow_92f84 48 = .ok (.iload_n 1, 1) := by decide +kernel
theorem dJx4a65c_grow_92f84_49 : decode cJx4a65c_grow_92f84 49 = .ok (.invokestatic 79, 3) := by decide +kernel
theorem dJx4a65c_grow_92f84_52 : decode cJx4a65c_grow_92f84 52 = .ok (.anewarray 7, 3) := by decide +kernel
theorem dJx4a65c_grow_92f84_55 : decode cJx4a65c_grow_92f84 55 = .ok (.dup_x1, 1) := by decide +kernel
theorem dJx4a65c_grow_92f84_56 : decode cJx4a65c_grow_92f84 56 = .ok (.putfield 9, 3) := by decide +kernel
theorem dJx4a65c_grow_92f84_59 : decode cJx4a65c_grow_92f84 59 = .ok (.areturn, 1) := by decide +kernel
theorem dJx4a65c_grow_d5877_0 : decode cJx4a65c_grow_d5877 0 = .ok (.aload_n 0, 1) := by decide +kernel
theorem dJx4a65c_grow_d5877_1 : decode cJx4a65c_grow_d5877 1 = .ok (.aload_n 0, 1) := by decide +kernel
theorem dJx4a65c_grow_d5877_2 : decode cJx4a65c_grow_d5877 2 = .ok (.getfield 48, 3) := by decide +kernel
theorem dJx4a65c_grow_d5877_5 : decode cJx4a65c_grow_d5877 5 = .ok (.iconst 1, 1) := by decide +kernel
theorem dJx4a65c_grow_d5877_6 : decode cJx4a65c_grow_d5877 6 = .ok (.iadd, 1) := by decide +kernel
theorem dJx4a65c_grow_d5877_7 : decode cJx4a65c_grow_d5877 7 = .ok (.invokevirtual 69, 3) := by decide +kernel
theorem dJx4a65c_grow_d5877_10 : decode cJx4a65c_grow_d5877 10 = .ok (.areturn, 1) := by decide +kernel
theorem dJx4a65c_size_8abf5_0 : decode cJx4a65c_size_8abf5 0 = .ok (.aload_n 0, 1) := by decide +kernel
theorem dJx4a65c_size_8abf5_1 : decode cJx4a65c_size_8abf5 1 = .ok (.getfield 48, 3) := by decide +kernel
theorem dJx4a65c_size_8abf5_4 : decode cJx4a65c_size_8abf5 4 = .ok (.ireturn, 1) := by decide +kernel
theorem dJx4a65c_elementData_915e3_0 : decode cJx4a65c_elementData_915e3 0 = .ok (.aload_n 0, 1) := by decide +kernel
theorem dJx4a65c_elementData_915e3_1 : decode cJx4a65c_elementData_915e3 1 = .ok (.getfield 9, 3) := by decide +kernel
theorem dJx4a65c_elementData_915e3_4 : decode cJx4a65c_elementData_915e3 4 = .ok (.iload_n 1, 1) := by decide +kernel
theorem dJx4a65c_elementData_915e3_5 : decode cJx4a65c_elementData_915e3 5 = .ok (.aaload, 1) := by decide +kernel
theorem dJx4a65c_elementData_915e3_6 : decode cJx4a65c_elementData_915e3 6 = .ok (.areturn, 1) := by decide +kernel
theorem dJx4a65c_get_915e3_0 : decode cJx4a65c_get_915e3 0 = .ok (.iload_n 1, 1) := by decide +kernel
theorem dJx4a65c_get_915e3_1 : decode cJx4a65c_get_915e3 1 = .ok (.aload_n 0, 1) := by decide +kernel
theorem dJx4a65c_get_915e3_2 : decode cJx4a65c_get_915e3 2 = .ok (.getfield 48, 3) := by decide +kernel
theorem dJx4a65c_get_915e3_5 : decode cJx4a65c_get_915e3 5 = .ok (.invokestatic 118, 3) := by decide +kernel
theorem dJx4a65c_get_915e3_8 : decode cJx4a65c_get_915e3 8 = .ok (.pop, 1) := by decide +kernel
theorem dJx4a65c_get_915e3_9 : decode cJx4a65c_get_915e3 9 = .ok (.aload_n 0, 1) := by decide +kernel
theorem dJx4a65c_get_915e3_10 : decode cJx4a65c_get_915e3 10 = .ok (.iload_n 1, 1) := by decide +kernel
theorem dJx4a65c_get_915e3_11 : decode cJx4a65c_get_915e3 11 = .ok (.invokevirtual 123, 3) := by decide +kernel
theorem dJx4a65c_get_915e3_14 : decode cJx4a65c_get_915e3 14 = .ok (.areturn, 1) := by decide +kernel
theorem dJx4a65c_add_72be8_0 : decode cJx4a65c_add_72be8 0 = .ok (.iload_n 3, 1) := by decide +kernel
theorem dJx4a65c_add_72be8_1 : decode cJx4a65c_add_72be8 1 = .ok (.aload_n 2, 1) := by decide +kernel
theorem dJx4a65c_add_72be8_2 : decode cJx4a65c_add_72be8 2 = .ok (.arraylength, 1) := by decide +kernel
theorem dJx4a65c_add_72be8_3 : decode cJx4a65c_add_72be8 3 = .ok (.if_icmp .ne 8, 3) := by decide +kernel
theorem dJx4a65c_add_72be8_6 : decode cJx4a65c_add_72be8 6 = .ok (.aload_n 0, 1) := by decide +kernel
theorem dJx4a65c_add_72be8_7 : decode cJx4a65c_add_72be8 7 = .ok (.invokevirtual 129, 3) := by decide +kernel
theorem dJx4a65c_add_72be8_10 : decode cJx4a65c_add_72be8 10 = .ok (.astore_n 2, 1) := by decide +kernel
theorem dJx4a65c_add_72be8_11 : decode cJx4a65c_add_72be8 11 = .ok (.aload_n 2, 1) := by decide +kernel
theorem dJx4a65c_add_72be8_12 : decode cJx4a65c_add_72be8 12 = .ok (.iload_n 3, 1) := by decide +kernel
theorem dJx4a65c_add_72be8_13 : decode cJx4a65c_add_72be8 13 = .ok (.aload_n 1, 1) := by decide +kernel
theorem dJx4a65c_add_72be8_14 : decode cJx4a65c_add_72be8 14 = .ok (.aastore, 1) := by decide +kernel
theorem dJx4a65c_add_72be8_15 : decode cJx4a65c_add_72be8 15 = .ok (.aload_n 0, 1) := by decide +kernel
theorem dJx4a65c_add_72be8_16 : decode cJx4a65c_add_72be8 16 = .ok (.iload_n 3, 1) := by decide +kernel
theorem dJx4a65c_add_72be8_17 : decode cJx4a65c_add_72be8 17 = .ok (.iconst 1, 1) := by decide +kernel
theorem dJx4a65c_add_72be8_18 : decode cJx4a65c_add_72be8 18 = .ok (.iadd, 1) := by decide +kernel
theorem dJx4a65c_add_72be8_19 : decode cJx4a65c_add_72be8 19 = .ok (.putfield 48, 3) := by decide +kernel
theorem dJx4a65c_add_72be8_22 : decode cJx4a65c_add_72be8 22 = .ok (.return_, 1) := by decide +kernel
theorem dJx4a65c_add_9ea2d_0 : decode cJx4a65c_add_9ea2d 0 = .ok (.aload_n 0, 1) := by decide +kernel
theorem dJx4a65c_add_9ea2d_1 : decode cJx4a65c_add_9ea2d 1 = .ok (.dup, 1) := by decide +kernel
theorem dJx4a65c_add_9ea2d_2 : decode cJx4a65c_add_9ea2d 2 = .ok (.getfield 63, 3) := by decide +kernel
theorem dJx4a65c_add_9ea2d_5 : decode cJx4a65c_add_9ea2d 5 = .ok (.iconst 1, 1) := by decide +kernel
theorem dJx4a65c_add_9ea2d_6 : decode cJx4a65c_add_9ea2d 6 = .ok (.iadd, 1) := by decide +kernel
theorem dJx4a65c_add_9ea2d_7 : decode cJx4a65c_add_9ea2d 7 = .ok (.putfield 63, 3) := by decide +kernel
theorem dJx4a65c_add_9ea2d_10 : decode cJx4a65c_add_9ea2d 10 = .ok (.aload_n 0, 1) := by decide +kernel
theorem dJx4a65c_add_9ea2d_11 : decode cJx4a65c_add_9ea2d 11 = .ok (.aload_n 1, 1) := by decide +kernel
theorem dJx4a65c_add_9ea2d_12 : decode cJx4a65c_add_9ea2d 12 = .ok (.aload_n 0, 1) := by decide +kernel
theorem dJx4a65c_add_9ea2d_13 : decode cJx4a65c_add_9ea2d 13 = .ok (.getfield 9, 3) := by decide +kernel
theorem dJx4a65c_add_9ea2d_16 : decode cJx4a65c_add_9ea2d 16 = .ok (.aload_n 0, 1) := by decide +kernel
theorem dJx4a65c_add_9ea2d_17 : decode cJx4a65c_add_9ea2d 17 = .ok (.getfield 48, 3) := by decide +kernel
theorem dJx4a65c_add_9ea2d_20 : decode cJx4a65c_add_9ea2d 20 = .ok (.invokevirtual 131, 3) := by decide +kernel
theorem dJx4a65c_add_9ea2d_23 : decode cJx4a65c_add_9ea2d 23 = .ok (.iconst 1, 1) := by decide +kernel
theorem dJx4a65c_add_9ea2d_24 : decode cJx4a65c_add_9ea2d 24 = .ok (.ireturn, 1) := by decide +kernel
theorem dJ7_copyOf_1904c_0 : decode cJ7_copyOf_1904c 0 = .ok (.aload_n 0, 1) := by decide +kernel
theorem dJ7_copyOf_1904c_1 : decode cJ7_copyOf_1904c 1 = .ok (.iload_n 1, 1) := by decide +kernel
theorem dJ7_copyOf_1904c_2 : decode cJ7_copyOf_1904c 2 = .ok (.aload_n 0, 1) := by decide +kernel
theorem dJ7_copyOf_1904c_3 : decode cJ7_copyOf_1904c 3 = .ok (.invokevirtual 86, 3) := by decide +kernel
theorem dJ7_copyOf_1904c_6 : decode cJ7_copyOf_1904c 6 = .ok (.invokestatic 300, 3) := by decide +kernel
theorem dJ7_copyOf_1904c_9 : decode cJ7_copyOf_1904c 9 = .ok (.areturn, 1) := by decide +kernel
theorem dJ7_copyOf_6403c_0 : decode cJ7_copyOf_6403c 0 = .ok (.aload_n 2, 1) := by decide +kernel
theorem dJ7_copyOf_6403c_1 : decode cJ7_copyOf_6403c 1 = .ok (.ldc 110, 2) := by decide +kernel
theorem dJ7_copyOf_6403c_3 : decode cJ7_copyOf_6403c 3 = .ok (.if_acmp .ne 10, 3) := by decide +kernel
theorem dJ7_copyOf_6403c_6 : decode cJ7_copyOf_6403c 6 = .ok (.iload_n 1, 1) := by decide +kernel
theorem dJ7_copyOf_6403c_7 : decode cJ7_copyOf_6403c 7 = .ok (.anewarray 2, 3) := by decide +kernel
theorem dJ7_copyOf_6403c_10 : decode cJ7_copyOf_6403c 10 = .ok (.goto 14, 3) := by decide +kernel
theorem dJ7_copyOf_6403c_13 : decode cJ7_copyOf_6403c 13 = .ok (.aload_n 2, 1) := by decide +kernel
theorem dJ7_copyOf_6403c_14 : decode cJ7_copyOf_6403c 14 = .ok (.invokevirtual 90, 3) := by decide +kernel
theorem dJ7_copyOf_6403c_17 : decode cJ7_copyOf_6403c 17 = .ok (.iload_n 1, 1) := by decide +kernel
theorem dJ7_copyOf_6403c_18 : decode cJ7_copyOf_6403c 18 = .ok (.invokestatic 95, 3) := by decide +kernel
theorem dJ7_copyOf_6403c_21 : decode cJ7_copyOf_6403c 21 = .ok (.checkcast 110, 3) := by decide +kernel
theorem dJ7_copyOf_6403c_24 : decode cJ7_copyOf_6403c 24 = .ok (.astore_n 3, 1) := by decide +kernel
theorem dJ7_copyOf_6403c_25 : decode cJ7_copyOf_6403c 25 = .ok (.aload_n 0, 1) := by decide +kernel
theorem dJ7_copyOf_6403c_26 : decode cJ7_copyOf_6403c 26 = .ok (.iconst 0, 1) := by decide +kernel
theorem dJ7_copyOf_6403c_27 : decode cJ7_copyOf_6403c 27 = .ok (.aload_n 3, 1) := by decide +kernel
theorem dJ7_copyOf_6403c_28 : decode cJ7_copyOf_6403c 28 = .ok (.iconst 0, 1) := by decide +kernel
theorem dJ7_copyOf_6403c_29 : decode cJ7_copyOf_6403c 29 = .ok (.aload_n 0, 1) := by decide +kernel
theorem dJ7_copyOf_6403c_30 : decode cJ7_copyOf_6403c 30 = .ok (.arraylength, 1) := by decide +kernel
theorem dJ7_copyOf_6403c_31 : decode cJ7_copyOf_6403c 31 = .ok (.iload_n 1, 1) := by decide +kernel
theorem dJ7_copyOf_6403c_32 : decode cJ7_copyOf_6403c 32 = .ok (.invokestatic 304, 3) := by decide +kernel
theorem dJ7_copyOf_6403c_35 : decode cJ7_copyOf_6403c 35 = .ok (.invokestatic 150, 3) := by decide +kernel
theorem dJ7_copyOf_6403c_38 : decode cJ7_copyOf_6403c 38 = .ok (.aload_n 3, 1) := by decide +kernel
theorem dJ7_copyOf_6403c_39 : decode cJ7_copyOf_6403c 39 = .ok (.areturn, 1) := by decide +kernel
theorem dJ15_checkIndex_7cf53_0 : decode cJ15_checkIndex_7cf53 0 = .ok (.iload_n 0, 1) := by decide +kernel
theorem dJ15_checkIndex_7cf53_1 : decode cJ15_checkIndex_7cf53 1 = .ok (.iload_n 1, 1) := by decide +kernel
theorem dJ15_checkIndex_7cf53_2 : decode cJ15_checkIndex_7cf53 2 = .ok (.aconst_null, 1) := by decide +kernel
theorem dJ15_checkIndex_7cf53_3 : decode cJ15_checkIndex_7cf53 3 = .ok (.invokestatic 105, 3) := by decide +kernel
theorem dJ15_checkIndex_7cf53_6 : decode cJ15_checkIndex_7cf53 6 = .ok (.ireturn, 1) := by decide +kernel
theorem dJ8_newLength_cabcc_0 : decode cJ8_newLength_cabcc 0 = .ok (.iload_n 0, 1) := by decide +kernel
theorem dJ8_newLength_cabcc_1 : decode cJ8_newLength_cabcc 1 = .ok (.iload_n 1, 1) := by decide +kernel
theorem dJ8_newLength_cabcc_2 : decode cJ8_newLength_cabcc 2 = .ok (.iload_n 2, 1) := by decide +kernel
theorem dJ8_newLength_cabcc_3 : decode cJ8_newLength_cabcc 3 = .ok (.invokestatic 194, 3) := by decide +kernel
theorem dJ8_newLength_cabcc_6 : decode cJ8_newLength_cabcc 6 = .ok (.iadd, 1) := by decide +kernel
theorem dJ8_newLength_cabcc_7 : decode cJ8_newLength_cabcc 7 = .ok (.istore_n 3, 1) := by decide +kernel
theorem dJ8_newLength_cabcc_8 : decode cJ8_newLength_cabcc 8 = .ok (.iconst 0, 1) := by decide +kernel
theorem dJ8_newLength_cabcc_9 : decode cJ8_newLength_cabcc 9 = .ok (.iload_n 3, 1) := by decide +kernel
theorem dJ8_newLength_cabcc_10 : decode cJ8_newLength_cabcc 10 = .ok (.if_icmp .ge 11, 3) := by decide +kernel
theorem dJ8_newLength_cabcc_13 : decode cJ8_newLength_cabcc 13 = .ok (.iload_n 3, 1) := by decide +kernel
theorem dJ8_newLength_cabcc_14 : decode cJ8_newLength_cabcc 14 = .ok (.ldc 200, 2) := by decide +kernel
theorem dJ8_newLength_cabcc_16 : decode cJ8_newLength_cabcc 16 = .ok (.if_icmp .gt 5, 3) := by decide +kernel
theorem dJ8_newLength_cabcc_19 : decode cJ8_newLength_cabcc 19 = .ok (.iload_n 3, 1) := by decide +kernel
theorem dJ8_newLength_cabcc_20 : decode cJ8_newLength_cabcc 20 = .ok (.ireturn, 1) := by decide +kernel
theorem dJ8_newLength_cabcc_21 : decode cJ8_newLength_cabcc 21 = .ok (.iload_n 0, 1) := by decide +kernel
theorem dJ8_newLength_cabcc_22 : decode cJ8_newLength_cabcc 22 = .ok (.iload_n 1, 1) := by decide +kernel
theorem dJ8_newLength_cabcc_23 : decode cJ8_newLength_cabcc 23 = .ok (.invokestatic 201, 3) := by decide +kernel
theorem dJ8_newLength_cabcc_26 : decode cJ8_newLength_cabcc 26 = .ok (.ireturn, 1) := by decide +kernel
theorem dJ8_hugeLength_7cf53_0 : decode cJ8_hugeLength_7cf53 0 = .ok (.iload_n 0, 1) := by decide +kernel
theorem dJ8_hugeLength_7cf53_1 : decode cJ8_hugeLength_7cf53 1 = .ok (.iload_n 1, 1) := by decide +kernel
theorem dJ8_hugeLength_7cf53_2 : decode cJ8_hugeLength_7cf53 2 = .ok (.iadd, 1) := by decide +kernel
theorem dJ8_hugeLength_7cf53_3 : decode cJ8_hugeLength_7cf53 3 = .ok (.istore_n 2, 1) := by decide +kernel
theorem dJ8_hugeLength_7cf53_4 : decode cJ8_hugeLength_7cf53 4 = .ok (.iload_n 2, 1) := by decide +kernel
theorem dJ8_hugeLength_7cf53_5 : decode cJ8_hugeLength_7cf53 5 = .ok (.ifCond .ge 44, 3) := by decide +kernel
theorem dJ8_hugeLength_7cf53_8 : decode cJ8_hugeLength_7cf53 8 = .ok (.new 204, 3) := by decide +kernel
theorem dJ8_hugeLength_7cf53_11 : decode cJ8_hugeLength_7cf53 11 = .ok (.dup, 1) := by decide +kernel
theorem dJ8_hugeLength_7cf53_12 : decode cJ8_hugeLength_7cf53 12 = .ok (.new 89, 3) := by decide +kernel
theorem dJ8_hugeLength_7cf53_15 : decode cJ8_hugeLength_7cf53 15 = .ok (.dup, 1) := by decide +kernel
theorem dJ8_hugeLength_7cf53_16 : decode cJ8_hugeLength_7cf53 16 = .ok (.invokespecial 91, 3) := by decide +kernel
theorem dJ8_hugeLength_7cf53_19 : decode cJ8_hugeLength_7cf53 19 = .ok (.ldc 206, 2) := by decide +kernel
theorem dJ8_hugeLength_7cf53_21 : decode cJ8_hugeLength_7cf53 21 = .ok (.invokevirtual 94, 3) := by decide +kernel
theorem dJ8_hugeLength_7cf53_24 : decode cJ8_hugeLength_7cf53 24 = .ok (.iload_n 0, 1) := by decide +kernel
theorem dJ8_hugeLength_7cf53_25 : decode cJ8_hugeLength_7cf53 25 = .ok (.invokevirtual 98, 3) := by decide +kernel
theorem dJ8_hugeLength_7cf53_28 : decode cJ8_hugeLength_7cf53 28 = .ok (.ldc 208, 2) := by decide +kernel
theorem dJ8_hugeLength_7cf53_30 : decode cJ8_hugeLength_7cf53 30 = .ok (.invokevirtual 94, 3) := by decide +kernel
theorem dJ8_hugeLength_7cf53_33 : decode cJ8_hugeLength_7cf53 33 = .ok (.iload_n 1, 1) := by decide +kernel
theorem dJ8_hugeLength_7cf53_34 : decode cJ8_hugeLength_7cf53 34 = .ok (.invokevirtual 98, 3) := by decide +kernel
theorem dJ8_hugeLength_7cf53_37 : decode cJ8_hugeLength_7cf53 37 = .ok (.ldc 210, 2) := by decide +kernel
theorem dJ8_hugeLength_7cf53_39 : decode cJ8_hugeLength_7cf53 39 = .ok (.invokevirtual 94, 3) := by decide +kernel
theorem dJ8_hugeLength_7cf53_42 : decode cJ8_hugeLength_7cf53 42 = .ok (.invokevirtual 101, 3) := by decide +kernel
theorem dJ8_hugeLength_7cf53_45 : decode cJ8_hugeLength_7cf53 45 = .ok (.invokespecial 212, 3) := by decide +kernel
theorem dJ8_hugeLength_7cf53_48 : decode cJ8_hugeLength_7cf53 48 = .ok (.athrow, 1) := by decide +kernel
theorem dJ8_hugeLength_7cf53_49 : decode cJ8_hugeLength_7cf53 49 = .ok (.iload_n 2, 1) := by decide +kernel
theorem dJ8_hugeLength_7cf53_50 : decode cJ8_hugeLength_7cf53 50 = .ok (.ldc 200, 2) := by decide +kernel
theorem dJ8_hugeLength_7cf53_52 : decode cJ8_hugeLength_7cf53 52 = .ok (.if_icmp .gt 6, 3) := by decide +kernel
theorem dJ8_hugeLength_7cf53_55 : decode cJ8_hugeLength_7cf53 55 = .ok (.ldc 200, 2) := by decide +kernel
theorem dJ8_hugeLength_7cf53_57 : decode cJ8_hugeLength_7cf53 57 = .ok (.ireturn, 1) := by decide +kernel
theorem dJ8_hugeLength_7cf53_58 : decode cJ8_hugeLength_7cf53 58 = .ok (.iload_n 2, 1) := by decide +kernel
theorem dJ8_hugeLength_7cf53_59 : decode cJ8_hugeLength_7cf53 59 = .ok (.ireturn, 1) := by decide +kernel
theorem dJ3_checkIndex_8e157_0 : decode cJ3_checkIndex_8e157 0 = .ok (.iload_n 0, 1) := by decide +kernel
theorem dJ3_checkIndex_8e157_1 : decode cJ3_checkIndex_8e157 1 = .ok (.ifCond .lt 8, 3) := by decide +kernel
theorem dJ3_checkIndex_8e157_4 : decode cJ3_checkIndex_8e157 4 = .ok (.iload_n 0, 1) := by decide +kernel
theorem dJ3_checkIndex_8e157_5 : decode cJ3_checkIndex_8e157 5 = .ok (.iload_n 1, 1) := by decide +kernel
theorem dJ3_checkIndex_8e157_6 : decode cJ3_checkIndex_8e157 6 = .ok (.if_icmp .lt 10, 3) := by decide +kernel
theorem dJ3_checkIndex_8e157_9 : decode cJ3_checkIndex_8e157 9 = .ok (.aload_n 2, 1) := by decide +kernel
theorem dJ3_checkIndex_8e157_10 : decode cJ3_checkIndex_8e157 10 = .ok (.iload_n 0, 1) := by decide +kernel
theorem dJ3_checkIndex_8e157_11 : decode cJ3_checkIndex_8e157 11 = .ok (.iload_n 1, 1) := by decide +kernel
theorem dJ3_checkIndex_8e157_12 : decode cJ3_checkIndex_8e157 12 = .ok (.invokestatic 95, 3) := by decide +kernel
theorem dJ3_checkIndex_8e157_15 : decode cJ3_checkIndex_8e157 15 = .ok (.athrow, 1) := by decide +kernel
theorem dJ3_checkIndex_8e157_16 : decode cJ3_checkIndex_8e157 16 = .ok (.iload_n 0, 1) := by decide +kernel
theorem dJ3_checkIndex_8e157_17 : decode cJ3_checkIndex_8e157 17 = .ok (.ireturn, 1) := by decide +kernel
section Sheet
variable {i a b n : Nat} {f : Nat → am_C} {w bs : Nat → Int32} {ht : Int32}
theorem s_chargeOf {c : Nat} (h0 : f i = .inr (6, [.ref a, .ref b, .int ht])) (h1 : f a = .inl (0, 48, .inl w)) (hc : c < 48) : AM mX6_chargeOf 0 0 [.ref i, .int (nI c)] n f (am_is (some (.int (ht + w c))) n f) := by
  show AW mX6_chargeOf 0 0 0 [some (.ref i), some (.int (nI c))] [] n f _
  refine am_aload_n 0 dX6_chargeOf_0 rfl ?_
  refine am_getfield 1 dX6_chargeOf_1 fX6_18 (by repeat (first | assumption | exact am_ue | refine am_un (by first | assumption | decide | omega) ?_)) rfl ?_
  refine am_aload_n 4 dX6_chargeOf_4 rfl ?_
  refine am_getfield 5 dX6_chargeOf_5 fX6_9 (by repeat (first | assumption | exact am_ue | refine am_un (by first | assumption | decide | omega) ?_)) rfl ?_
  refine am_iload_n 8 dX6_chargeOf_8 rfl ?_
  refine am_iaload 9 dX6_chargeOf_9 rfl (by repeat (first | assumption | exact am_ue | refine am_un (by first | assumption | decide | omega) ?_)) (by first | assumption | exact vp_in_nI (by omega) (by decide)) ?_
  rw [nI_clamp (n := c) (by omega)]
  refine am_iadd 10 dX6_chargeOf_10 ?_
  exact am_ireturn 11 dX6_chargeOf_11 rfl rfl ⟨rfl, rfl, rfl⟩
theorem s_signalOf {c : Nat} (h0 : f i = .inr (6, [.ref a, .ref b, .int ht])) (h1 : f a = .inl (0, 48, .inl w)) (h2 : f b = .inl (0, 48, .inl bs)) (hc : c < 48) : AM mX6_signalOf 0 0 [.ref i, .int (nI c)] n f (am_is (some (.int (ht + w c - bs c))) n f) := by
  show AW mX6_signalOf 0 0 0 [some (.ref i), some (.int (nI c))] [] n f _
  refine am_aload_n 0 dX6_signalOf_0 rfl ?_
  refine am_iload_n 1 dX6_signalOf_1 rfl ?_
  refine am_V1 2 (mc' := 0) (ms' := 0) (rc := 0) (rs := 0) dX6_signalOf_2 lX6_22 ⟨by decide, by decide⟩ (by repeat (first | assumption | exact am_ue | refine am_un (by first | assumption | decide | omega) ?_)) (Nat.le_of_ble_eq_true rfl) (Nat.le_of_ble_eq_true rfl) (s_chargeOf h0 h1 hc) ?_
  refine am_is_ct ?_
  refine am_aload_n 5 dX6_signalOf_5 rfl ?_
  refine am_getfield 6 dX6_signalOf_6 fX6_15 (by repeat (first | assumption | exact am_ue | refine am_un (by first | assumption | decide | omega) ?_)) rfl ?_
  refine am_iload_n 9 dX6_signalOf_9 rfl ?_
  refine am_iaload 10 dX6_signalOf_10 rfl (by repeat (first | assumption | exact am_ue | refine am_un (by first | assumption | decide | omega) ?_)) (by first | assumption | exact vp_in_nI (by omega) (by decide)) ?_
  rw [nI_clamp (n := c) (by omega)]
  refine am_isub 11 dX6_signalOf_11 ?_
  exact am_ireturn 12 dX6_signalOf_12 rfl rfl ⟨rfl, rfl, rfl⟩
theorem s_forgetWaits (h0 : f i = .inr (6, [.ref a, .ref b, .int ht])) (h1 : f a = .inl (0, 48, .inl w)) (hia : i ≠ a) : AM mX6_forgetWaits 0 0 [.ref i] n f (am_is none n (va_up f a (.inl (0, 48, .inl (fun _ => 0))))) := by
  show AW mX6_forgetWaits 0 0 0 [some (.ref i), none] [] n f _
  refine am_iconst 0 (v := 0) dX6_forgetWaits_0 (by decide) ?_
  refine am_istore_n 1 dX6_forgetWaits_1 (by decide) ?_
  have h := am_for 48 (fun k (w' : Nat → Int32) => ∀ j, j < k → w' j = 0) (fun k w' => AW mX6_forgetWaits 0 0 2 [some (.ref i), some (.int (nI k))] [] n (va_up f a (.inl (0, 48, .inl w'))) (am_is none n (va_up f a (.inl (0, 48, .inl (fun _ => 0)))))) ?_ ?_ 0 w (by omega) (fun j hj => by omega)
  · rw [am_self h1] at h
    exact h
  · intro w' hw
    refine am_iload_n 2 dX6_forgetWaits_2 rfl ?_
    refine am_bipush 3 (v := 48) dX6_forgetWaits_3 (by decide) ?_
    refine am_icmp_ge 5 21 dX6_forgetWaits_5 rfl (fun c5 => ?_) (fun c5 => absurd (by decide) c5)
    refine AW.ints (fun _ => 0) am_ue hw ?_
    rw [am_uu]
    exact am_return 21 dX6_forgetWaits_21 rfl ⟨rfl, rfl, rfl⟩
  · intro k w' hk hw ih
    refine am_iload_n 2 dX6_forgetWaits_2 rfl ?_
    refine am_bipush 3 (v := 48) dX6_forgetWaits_3 (by decide) ?_
    refine am_icmp_ge 5 21 dX6_forgetWaits_5 rfl (fun c5 => absurd c5 (nI_ge hk (by decide))) (fun c5 => ?_)
    refine am_aload_n 8 dX6_forgetWaits_8 rfl ?_
    refine am_getfield 9 dX6_forgetWaits_9 fX6_9 (by repeat (first | assumption | exact am_ue | refine am_un (by first | assumption | decide | omega) ?_)) rfl ?_
    refine am_iload_n 12 dX6_forgetWaits_12 rfl ?_
    refine am_iconst 13 (v := 0) dX6_forgetWaits_13 (by decide) ?_
    refine am_iastore 14 dX6_forgetWaits_14 rfl (by repeat (first | assumption | exact am_ue | refine am_un (by first | assumption | decide | omega) ?_)) (by first | assumption | exact vp_in_nI (by omega) (by decide)) ?_
    rw [am_uu, nI_clamp (n := k) (by omega)]
    refine am_iinc 15 (v := nI (k + 1)) dX6_forgetWaits_15 rfl (nI_1 k) (by decide) ?_
    refine am_goto 18 (tgt := 2) dX6_forgetWaits_18 rfl ?_
    refine ih _ (fun j hj => ?_)
    by_cases e : j = k
    · rw [e, am_up_eq]
    · rw [am_up_ne e, hw j (by omega)]
theorem s_baseOnHeat (h0 : f i = .inr (6, [.ref a, .ref b, .int ht])) (h2 : f b = .inl (0, 48, .inl bs)) (hib : i ≠ b) : AM mX6_baseOnHeat 0 0 [.ref i] n f (am_is none n (va_up f b (.inl (0, 48, .inl (fun _ => ht))))) := by
  show AW mX6_baseOnHeat 0 0 0 [some (.ref i), none] [] n f _
  refine am_iconst 0 (v := 0) dX6_baseOnHeat_0 (by decide) ?_
  refine am_istore_n 1 dX6_baseOnHeat_1 (by decide) ?_
  have h := am_for 48 (fun k (w' : Nat → Int32) => ∀ j, j < k → w' j = ht) (fun k w' => AW mX6_baseOnHeat 0 0 2 [some (.ref i), some (.int (nI k))] [] n (va_up f b (.inl (0, 48, .inl w'))) (am_is none n (va_up f b (.inl (0, 48, .inl (fun _ => ht)))))) ?_ ?_ 0 bs (by omega) (fun j hj => by omega)
  · rw [am_self h2] at h
    exact h
  · intro w' hw
    refine am_iload_n 2 dX6_baseOnHeat_2 rfl ?_
    refine am_bipush 3 (v := 48) dX6_baseOnHeat_3 (by decide) ?_
    refine am_icmp_ge 5 24 dX6_baseOnHeat_5 rfl (fun c5 => ?_) (fun c5 => absurd (by decide) c5)
    refine AW.ints (fun _ => ht) am_ue hw ?_
    rw [am_uu]
    exact am_return 24 dX6_baseOnHeat_24 rfl ⟨rfl, rfl, rfl⟩
  · intro k w' hk hw ih
    refine am_iload_n 2 dX6_baseOnHeat_2 rfl ?_
    refine am_bipush 3 (v := 48) dX6_baseOnHeat_3 (by decide) ?_
    refine am_icmp_ge 5 24 dX6_baseOnHeat_5 rfl (fun c5 => absurd c5 (nI_ge hk (by decide))) (fun c5 => ?_)
    refine am_aload_n 8 dX6_baseOnHeat_8 rfl ?_
    refine am_getfield 9 dX6_baseOnHeat_9 fX6_15 (by repeat (first | assumption | exact am_ue | refine am_un (by first | assumption | decide | omega) ?_)) rfl ?_
    refine am_iload_n 12 dX6_baseOnHeat_12 rfl ?_
    refine am_aload_n 13 dX6_baseOnHeat_13 rfl ?_
    refine am_getfield 14 dX6_baseOnHeat_14 fX6_18 (by repeat (first | assumption | exact am_ue | refine am_un (by first | assumption | decide | omega) ?_)) rfl ?_
    refine am_iastore 17 dX6_baseOnHeat_17 rfl (by repeat (first | assumption | exact am_ue | refine am_un (by first | assumption | decide | omega) ?_)) (by first | assumption | exact vp_in_nI (by omega) (by decide)) ?_
    rw [am_uu, nI_clamp (n := k) (by omega)]
    refine am_iinc 18 (v := nI (k + 1)) dX6_baseOnHeat_18 rfl (nI_1 k) (by decide) ?_
    refine am_goto 21 (tgt := 2) dX6_baseOnHeat_21 rfl ?_
    refine ih _ (fun j hj => ?_)
    by_cases e : j = k
    · rw [e, am_up_eq]
    · rw [am_up_ne e, hw j (by omega)]
theorem s_addNoise {y : Nat} {mu : Int32} (h0 : f i = .inr (6, [.ref a, .ref b, .int ht])) (h1 : f a = .inl (0, 48, .inl w)) (hia : i ≠ a) (hy : y < 6) : AM mX6_addNoise 0 0 [.ref i, .int (nI y), .int mu] n f (am_is none n (va_up f a (.inl (0, 48, .inl (fun k => if k / 8 = y then w k + mu else w k))))) := by
  show AW mX6_addNoise 0 0 0 [some (.ref i), some (.int (nI y)), some (.int mu), none] [] n f _
  refine am_iconst 0 (v := 0) dX6_addNoise_0 (by decide) ?_
  refine am_istore_n 1 dX6_addNoise_1 (by decide) ?_
  have h := am_for 8 (fun k (w' : Nat → Int32) => ∀ j, w' j = if j / 8 = y ∧ j % 8 < k then w j + mu else w j) (fun k w' => AW mX6_addNoise 0 0 2 [some (.ref i), some (.int (nI y)), some (.int mu), some (.int (nI k))] [] n (va_up f a (.inl (0, 48, .inl w'))) (am_is none n (va_up f a (.inl (0, 48, .inl (fun k => if k / 8 = y then w k + mu else w k)))))) ?_ ?_ 0 w (by omega) (fun j => by simp)
  · rw [am_self h1] at h
    exact h
  · intro w' hw
    have e : w' = (fun k => if k / 8 = y then w k + mu else w k) := by
      funext j
      rw [hw j]
      have : j % 8 < 8 := Nat.mod_lt _ (by decide)
      simp [this]
    subst e
    refine am_iload_n 2 dX6_addNoise_2 rfl ?_
    refine am_bipush 3 (v := 8) dX6_addNoise_3 (by decide) ?_
    refine am_icmp_ge 5 29 dX6_addNoise_5 rfl (fun c5 => ?_) (fun c5 => absurd (by decide) c5)
    exact am_return 29 dX6_addNoise_29 rfl ⟨rfl, rfl, rfl⟩
  · intro k w' hk hw ih
    have e1 : nI y * 8 + nI k = nI (8 * y + k) := by
      rw [show (8 : Int32) = nI 8 from rfl, pk_mul, nI_add, Nat.mul_comm]
    refine am_iload_n 2 dX6_addNoise_2 rfl ?_
    refine am_bipush 3 (v := 8) dX6_addNoise_3 (by decide) ?_
    refine am_icmp_ge 5 29 dX6_addNoise_5 rfl (fun c5 => absurd c5 (nI_ge hk (by decide))) (fun c5 => ?_)
    refine am_aload_n 8 dX6_addNoise_8 rfl ?_
    refine am_getfield 9 dX6_addNoise_9 fX6_9 (by repeat (first | assumption | exact am_ue | refine am_un (by first | assumption | decide | omega) ?_)) rfl ?_
    refine am_iload_n 12 dX6_addNoise_12 rfl ?_
    refine am_bipush 13 (v := 8) dX6_addNoise_13 (by decide) ?_
    refine am_imul 15 dX6_addNoise_15 ?_
    refine am_iload_n 16 dX6_addNoise_16 rfl ?_
    refine am_iadd 17 dX6_addNoise_17 ?_
    rw [e1]
    refine am_dup2 18 dX6_addNoise_18 rfl rfl ?_
    refine am_iaload 19 dX6_addNoise_19 rfl (by repeat (first | assumption | exact am_ue | refine am_un (by first | assumption | decide | omega) ?_)) (am_ix (by omega) (by decide)) ?_
    rw [nI_clamp (n := 8 * y + k) (by omega)]
    refine am_iload_n 20 dX6_addNoise_20 rfl ?_
    refine am_iadd 21 dX6_addNoise_21 ?_
    refine am_iastore 22 dX6_addNoise_22 rfl (by repeat (first | assumption | exact am_ue | refine am_un (by first | assumption | decide | omega) ?_)) (am_ix (by omega) (by decide)) ?_
    rw [am_uu, nI_clamp (n := 8 * y + k) (by omega)]
    refine am_iinc 23 (v := nI (k + 1)) dX6_addNoise_23 rfl (nI_1 k) (by decide) ?_
    refine am_goto 26 (tgt := 2) dX6_addNoise_26 rfl ?_
    refine ih _ (fun j => ?_)
    have e2 : (8 * y + k) / 8 = y := by omega
    have e3 : (8 * y + k) % 8 = k := by omega
    by_cases e : j = 8 * y + k
    · subst e; rw [am_up_eq, hw, e2, e3]; simp
    · rw [am_up_ne e, hw j]; congr 1; simp only [eq_iff_iff]; omega
theorem s_compare {x y : Int32} : AM mJ6_compare_7cf53 0 0 [.int x, .int y] n f (am_is (some (.int (m_cmp x y))) n f) := by
  show AW mJ6_compare_7cf53 0 0 0 [some (.int x), some (.int y)] [] n f _
  refine am_iload_n 0 dJ6_compare_7cf53_0 rfl ?_
  refine am_iload_n 1 dJ6_compare_7cf53_1 rfl ?_
  refine am_icmp_ge 2 9 dJ6_compare_7cf53_2 rfl (fun c2 => ?_) (fun c2 => ?_)
  · refine am_iload_n 9 dJ6_compare_7cf53_9 rfl ?_
    refine am_iload_n 10 dJ6_compare_7cf53_10 rfl ?_
    refine am_icmp_ne 11 18 dJ6_compare_7cf53_11 rfl (fun c11 => ?_) (fun c11 => ?_)
    · refine am_iconst 18 (v := 1) dJ6_compare_7cf53_18 (by decide) ?_
      refine am_ireturn 19 dJ6_compare_7cf53_19 rfl rfl ?_
      exact ⟨by simp [m_cmp, *], rfl, rfl⟩
    · refine am_iconst 14 (v := 0) dJ6_compare_7cf53_14 (by decide) ?_
      refine am_goto 15 (tgt := 19) dJ6_compare_7cf53_15 rfl ?_
      refine am_ireturn 19 dJ6_compare_7cf53_19 rfl rfl ?_
      exact ⟨by simp [m_cmp, *], rfl, rfl⟩
  · refine am_iconst 5 (v := (-1)) dJ6_compare_7cf53_5 (by decide) ?_
    refine am_goto 6 (tgt := 19) dJ6_compare_7cf53_6 rfl ?_
    refine am_ireturn 19 dJ6_compare_7cf53_19 rfl rfl ?_
    exact ⟨by simp [m_cmp, *], rfl, rfl⟩
theorem s_stepFor {x : Int32} : AM mX6_stepFor 0 0 [.int x] n f (am_is (some (.int (m_step x))) n f) := by
  show AW mX6_stepFor 0 0 0 [some (.int x)] [] n f _
  refine am_iload_n 0 dX6_stepFor_0 rfl ?_
  refine am_bipush 1 (v := (-10)) dX6_stepFor_1 (by decide) ?_
  refine am_icmp_gt 3 9 dX6_stepFor_3 rfl (fun c3 => ?_) (fun c3 => ?_)
  · refine am_iload_n 9 dX6_stepFor_9 rfl ?_
    refine am_bipush 10 (v := 10) dX6_stepFor_10 (by decide) ?_
    refine am_icmp_lt 12 17 dX6_stepFor_12 rfl (fun c12 => ?_) (fun c12 => ?_)
    · refine am_iload_n 17 dX6_stepFor_17 rfl ?_
      refine am_iconst 18 (v := 0) dX6_stepFor_18 (by decide) ?_
      refine am_S2 19 (mc' := 0) (ms' := 0) (rc := 0) (rs := 0) dX6_stepFor_19 lX6_50 ⟨by decide, by decide⟩ (Nat.le_of_ble_eq_true rfl) (Nat.le_of_ble_eq_true rfl) (s_compare) ?_
      refine am_is_ct ?_
      refine am_ireturn 22 dX6_stepFor_22 rfl rfl ?_
      exact ⟨by simp [m_step, *], rfl, rfl⟩
    · refine am_iconst 15 (v := 4) dX6_stepFor_15 (by decide) ?_
      refine am_ireturn 16 dX6_stepFor_16 rfl rfl ?_
      exact ⟨by simp [m_step, *], rfl, rfl⟩
  · refine am_bipush 6 (v := (-4)) dX6_stepFor_6 (by decide) ?_
    refine am_ireturn 8 dX6_stepFor_8 rfl rfl ?_
    exact ⟨by simp [m_step, *], rfl, rfl⟩
end Sheet
section Sheet2
variable {i a b i2 a2 b2 n : Nat} {f : Nat → am_C} {w bs w2 bs2 : Nat → Int32} {ht ht2 : Int32}
theorem s_copyFrom (h0 : f i = .inr (6, [.ref a, .ref b, .int ht])) (h1 : f a = .inl (0, 48, .inl w)) (h2 : f b = .inl (0, 48, .inl bs)) (g0 : f i2 = .inr (6, [.ref a2, .ref b2, .int ht2])) (g1 : f a2 = .inl (0, 48, .inl w2)) (g2 : f b2 = .inl (0, 48, .inl bs2))
    (d1 : i ≠ a) (d2 : i ≠ b) (d3 : a ≠ b) (d4 : i2 ≠ i) (d5 : i2 ≠ a) (d6 : i2 ≠ b) (d7 : a2 ≠ i) (d8 : a2 ≠ a) (d9 : a2 ≠ b) (d10 : b2 ≠ i) (d11 : b2 ≠ a) (d12 : b2 ≠ b) (d13 : b ≠ a) (d14 : a ≠ i) (d15 : b ≠ i) :
    AM mX6_copyFrom 0 0 [.ref i, .ref i2] n f (am_is none n (va_up (va_up (va_up f i (.inr (6, [.ref a, .ref b, .int ht2]))) a (.inl (0, 48, .inl w2))) b (.inl (0, 48, .inl bs2)))) := by
  show AW mX6_copyFrom 0 0 0 [some (.ref i), some (.ref i2), none] [] n f _
  refine am_aload_n 0 dX6_copyFrom_0 rfl ?_
  refine am_aload_n 1 dX6_copyFrom_1 rfl ?_
  refine am_getfield 2 dX6_copyFrom_2 fX6_18 (by repeat (first | assumption | exact am_ue | refine am_un (by first | assumption | decide | omega) ?_)) rfl ?_
  refine am_putfield 5 dX6_copyFrom_5 pX6_18 (by repeat (first | assumption | exact am_ue | refine am_un (by first | assumption | decide | omega) ?_)) rfl rfl (Nat.le_of_ble_eq_true rfl) ?_
  refine am_iconst 8 (v := 0) dX6_copyFrom_8 (by decide) ?_
  refine am_istore_n 9 dX6_copyFrom_9 (by decide) ?_
  have h := am_for 48 (fun k (w' : (Nat → Int32) × (Nat → Int32)) => ∀ j, j < k → w'.1 j = w2 j ∧ w'.2 j = bs2 j) (fun k w' => AW mX6_copyFrom 0 0 10 [some (.ref i), some (.ref i2), some (.int (nI k))] [] n (va_up (va_up (va_up f i (.inr (6, [.ref a, .ref b, .int ht2]))) a (.inl (0, 48, .inl w'.1))) b (.inl (0, 48, .inl w'.2))) (am_is none n (va_up (va_up (va_up f i (.inr (6, [.ref a, .ref b, .int ht2]))) a (.inl (0, 48, .inl w2))) b (.inl (0, 48, .inl bs2))))) ?_ ?_ 0 (w, bs) (by omega) (fun j hj => by omega)
  · rw [am_self (f := va_up (va_up f i _) a _) (i := b) (by rw [am_up_ne d13, am_up_ne d15]; exact h2), am_self (f := va_up f i _) (i := a) (by rw [am_up_ne d14]; exact h1)] at h
    exact h
  · rintro ⟨w', b'⟩ hw
    refine am_iload_n 10 dX6_copyFrom_10 rfl ?_
    refine am_bipush 11 (v := 48) dX6_copyFrom_11 (by decide) ?_
    refine am_icmp_ge 13 46 dX6_copyFrom_13 rfl (fun c13 => ?_) (fun c13 => absurd (by decide) c13)
    refine AW.ints bs2 am_ue (fun j hj => (hw j hj).2) ?_
    rw [am_uu]
    refine AW.ints w2 (am_un d3 am_ue) (fun j hj => (hw j hj).1) ?_
    rw [am_us d13, am_uu]
    exact am_return 46 dX6_copyFrom_46 rfl ⟨rfl, rfl, rfl⟩
  · rintro k ⟨w', b'⟩ hk hw ih
    refine am_iload_n 10 dX6_copyFrom_10 rfl ?_
    refine am_bipush 11 (v := 48) dX6_copyFrom_11 (by decide) ?_
    refine am_icmp_ge 13 46 dX6_copyFrom_13 rfl (fun c13 => absurd c13 (nI_ge hk (by decide))) (fun c13 => ?_)
    refine am_aload_n 16 dX6_copyFrom_16 rfl ?_
    refine am_getfield 17 dX6_copyFrom_17 fX6_9 (by repeat (first | assumption | exact am_ue | refine am_un (by first | assumption | decide | omega) ?_)) rfl ?_
    refine am_iload_n 20 dX6_copyFrom_20 rfl ?_
    refine am_aload_n 21 dX6_copyFrom_21 rfl ?_
    refine am_getfield 22 dX6_copyFrom_22 fX6_9 (by repeat (first | assumption | exact am_ue | refine am_un (by first | assumption | decide | omega) ?_)) rfl ?_
    refine am_iload_n 25 dX6_copyFrom_25 rfl ?_
    refine am_iaload 26 dX6_copyFrom_26 rfl (by repeat (first | assumption | exact am_ue | refine am_un (by first | assumption | decide | omega) ?_)) (by first | assumption | exact vp_in_nI (by omega) (by decide)) ?_
    rw [nI_clamp (n := k) (by omega)]
    refine am_iastore 27 dX6_copyFrom_27 rfl (by repeat (first | assumption | exact am_ue | refine am_un (by first | assumption | decide | omega) ?_)) (by first | assumption | exact vp_in_nI (by omega) (by decide)) ?_
    rw [nI_clamp (n := k) (by omega), am_us d13, am_uu]
    refine am_aload_n 28 dX6_copyFrom_28 rfl ?_
    refine am_getfield 29 dX6_copyFrom_29 fX6_15 (by repeat (first | assumption | exact am_ue | refine am_un (by first | assumption | decide | omega) ?_)) rfl ?_
    refine am_iload_n 32 dX6_copyFrom_32 rfl ?_
    refine am_aload_n 33 dX6_copyFrom_33 rfl ?_
    refine am_getfield 34 dX6_copyFrom_34 fX6_15 (by repeat (first | assumption | exact am_ue | refine am_un (by first | assumption | decide | omega) ?_)) rfl ?_
    refine am_iload_n 37 dX6_copyFrom_37 rfl ?_
    refine am_iaload 38 dX6_copyFrom_38 rfl (by repeat (first | assumption | exact am_ue | refine am_un (by first | assumption | decide | omega) ?_)) (by first | assumption | exact vp_in_nI (by omega) (by decide)) ?_
    rw [nI_clamp (n := k) (by omega)]
    refine am_iastore 39 dX6_copyFrom_39 rfl (by repeat (first | assumption | exact am_ue | refine am_un (by first | assumption | decide | omega) ?_)) (by first | assumption | exact vp_in_nI (by omega) (by decide)) ?_
    rw [nI_clamp (n := k) (by omega), am_uu]
    refine am_iinc 40 (v := nI (k + 1)) dX6_copyFrom_40 rfl (nI_1 k) (by decide) ?_
    refine am_goto 43 (tgt := 10) dX6_copyFrom_43 rfl ?_
    refine ih (_, _) (fun j hj => ?_)
    by_cases e : j = k
    · subst e; exact ⟨am_up_eq, am_up_eq⟩
    · exact ⟨(am_up_ne e).trans (hw j (by omega)).1, (am_up_ne e).trans (hw j (by omega)).2⟩
end Sheet2
section Sheet3
variable {i a b n : Nat} {f : Nat → am_C} {w bs : Nat → Int32} {ht : Int32}
theorem s_addPress {x y : Nat} {s : Int32} (h0 : f i = .inr (6, [.ref a, .ref b, .int ht])) (h1 : f a = .inl (0, 48, .inl w)) (hia : i ≠ a) (hx : x < 8) (hy : y < 6) : AM mX6_addPress 0 0 [.ref i, .int (nI x), .int (nI y), .int s] n f (am_is none n (va_up f a (.inl (0, 48, .inl (m_press w s x y))))) := by
  show AW mX6_addPress 0 0 0 [some (.ref i), some (.int (nI x)), some (.int (nI y)), some (.int s), none, none, none] [] n f _
  refine am_iload_n 0 dX6_addPress_0 rfl ?_
  refine am_iconst 1 (v := 1) dX6_addPress_1 (by decide) ?_
  refine am_isub 2 dX6_addPress_2 ?_
  refine am_iconst 3 (v := 0) dX6_addPress_3 (by decide) ?_
  refine am_max 4 dX6_addPress_4 jX6_26 (by decide) (Nat.le_of_ble_eq_true rfl) ?_
  rw [am_lo1 (y := y) (by omega)]
  refine am_istore 7 dX6_addPress_7 (by decide) ?_
  have h := am_for (min (y + 1) 5 + 1) (fun r (z : (Option Value) × (Option Value)) => y ≤ r + 1) (fun r z => AW mX6_addPress 0 0 9 [some (.ref i), some (.int (nI x)), some (.int (nI y)), some (.int s), some (.int (nI r)), z.1, z.2] [] n (va_up f a (.inl (0, 48, .inl (m_pressTo w s x y r 0)))) (am_is none n (va_up f a (.inl (0, 48, .inl (m_press w s x y)))))) ?_ ?_ (y - 1) (none, none) (by omega) (by omega)
  · rw [m_pressTo_start, am_self h1] at h
    exact h
  · rintro ⟨z1, z2⟩ hlo
    refine am_iload 9 dX6_addPress_9 rfl ?_
    refine am_iload_n 11 dX6_addPress_11 rfl ?_
    refine am_iconst 12 (v := 1) dX6_addPress_12 (by decide) ?_
    refine am_iadd 13 dX6_addPress_13 ?_
    refine am_iconst 14 (v := 5) dX6_addPress_14 (by decide) ?_
    refine am_min 15 dX6_addPress_15 jX6_32 (by decide) (Nat.le_of_ble_eq_true rfl) ?_
    rw [show (5 : Int32) = nI 5 from rfl, am_hi1 5 (y := y) (by omega) (by decide)]
    refine am_icmp_gt 18 100 dX6_addPress_18 rfl (fun c18 => ?_) (fun c18 => absurd (nI_lt (by omega) (by omega)) c18)
    refine AW.ints (m_press w s x y) am_ue (fun j hj => m_pressTo_end hj) ?_
    rw [am_uu]
    exact am_return 100 dX6_addPress_100 rfl ⟨rfl, rfl, rfl⟩
  · rintro r ⟨z1, z2⟩ hr hlo ih
    refine am_iload 9 dX6_addPress_9 rfl ?_
    refine am_iload_n 11 dX6_addPress_11 rfl ?_
    refine am_iconst 12 (v := 1) dX6_addPress_12 (by decide) ?_
    refine am_iadd 13 dX6_addPress_13 ?_
    refine am_iconst 14 (v := 5) dX6_addPress_14 (by decide) ?_
    refine am_min 15 dX6_addPress_15 jX6_32 (by decide) (Nat.le_of_ble_eq_true rfl) ?_
    rw [show (5 : Int32) = nI 5 from rfl, am_hi1 5 (y := y) (by omega) (by decide)]
    refine am_icmp_gt 18 100 dX6_addPress_18 rfl (fun c18 => absurd c18 (nI_nlt (by omega) (by omega))) (fun c18 => ?_)
    refine am_iload_n 21 dX6_addPress_21 rfl ?_
    refine am_iconst 22 (v := 1) dX6_addPress_22 (by decide) ?_
    refine am_isub 23 dX6_addPress_23 ?_
    refine am_iconst 24 (v := 0) dX6_addPress_24 (by decide) ?_
    refine am_max 25 dX6_addPress_25 jX6_26 (by decide) (Nat.le_of_ble_eq_true rfl) ?_
    rw [am_lo1 (y := x) (by omega)]
    refine am_istore 28 dX6_addPress_28 (by decide) ?_
    have g := am_for (min (x + 1) 7 + 1) (fun c (z : Option Value) => x ≤ c + 1) (fun c z => AW mX6_addPress 0 0 30 [some (.ref i), some (.int (nI x)), some (.int (nI y)), some (.int s), some (.int (nI r)), some (.int (nI c)), z] [] n (va_up f a (.inl (0, 48, .inl (m_pressTo w s x y r c)))) (am_is none n (va_up f a (.inl (0, 48, .inl (m_press w s x y)))))) ?_ ?_ (x - 1) z2 (by omega) (by omega)
    · rw [m_pressTo_col] at g
      exact g
    · rintro z hlo2
      rw [m_pressTo_row]
      refine am_iload 30 dX6_addPress_30 rfl ?_
      refine am_iload_n 32 dX6_addPress_32 rfl ?_
      refine am_iconst 33 (v := 1) dX6_addPress_33 (by decide) ?_
      refine am_iadd 34 dX6_addPress_34 ?_
      refine am_bipush 35 (v := 7) dX6_addPress_35 (by decide) ?_
      refine am_min 37 dX6_addPress_37 jX6_32 (by decide) (Nat.le_of_ble_eq_true rfl) ?_
      rw [show (7 : Int32) = nI 7 from rfl, am_hi1 7 (y := x) (by omega) (by decide)]
      refine am_icmp_gt 40 94 dX6_addPress_40 rfl (fun c40 => ?_) (fun c40 => absurd (nI_lt (by omega) (by omega)) c40)
      refine am_iinc 94 (v := nI (r + 1)) dX6_addPress_94 rfl (nI_1 r) (by decide) ?_
      refine am_goto 97 (tgt := 9) dX6_addPress_97 rfl ?_
      exact ih (_, _) (by omega)
    · rintro c z hc hlo2 ih2
      refine am_iload 30 dX6_addPress_30 rfl ?_
      refine am_iload_n 32 dX6_addPress_32 rfl ?_
      refine am_iconst 33 (v := 1) dX6_addPress_33 (by decide) ?_
      refine am_iadd 34 dX6_addPress_34 ?_
      refine am_bipush 35 (v := 7) dX6_addPress_35 (by decide) ?_
      refine am_min 37 dX6_addPress_37 jX6_32 (by decide) (Nat.le_of_ble_eq_true rfl) ?_
      rw [show (7 : Int32) = nI 7 from rfl, am_hi1 7 (y := x) (by omega) (by decide)]
      refine am_icmp_gt 40 94 dX6_addPress_40 rfl (fun c40 => absurd c40 (nI_nlt (by omega) (by omega))) (fun c40 => ?_)
      refine am_iload 43 dX6_addPress_43 rfl ?_
      refine am_iload_n 45 dX6_addPress_45 rfl ?_
      refine am_icmp_ne 46 53 dX6_addPress_46 rfl (fun c46 => ?_) (fun c46 => ?_)
      · refine am_iconst 53 (v := 1) dX6_addPress_53 (by decide) ?_
        refine am_iload 54 dX6_addPress_54 rfl ?_
        refine am_iload_n 56 dX6_addPress_56 rfl ?_
        refine am_icmp_ne 57 64 dX6_addPress_57 rfl (fun c57 => ?_) (fun c57 => ?_)
        · refine am_iconst 64 (v := 1) dX6_addPress_64 (by decide) ?_
          refine am_iadd 65 dX6_addPress_65 ?_
          refine am_istore 66 dX6_addPress_66 (by decide) ?_
          refine am_aload_n 68 dX6_addPress_68 rfl ?_
          refine am_getfield 69 dX6_addPress_69 fX6_9 (by repeat (first | assumption | exact am_ue | refine am_un (by first | assumption | decide | omega) ?_)) rfl ?_
          refine am_iload 72 dX6_addPress_72 rfl ?_
          refine am_bipush 74 (v := 8) dX6_addPress_74 (by decide) ?_
          refine am_imul 76 dX6_addPress_76 ?_
          refine am_iload 77 dX6_addPress_77 rfl ?_
          refine am_iadd 79 dX6_addPress_79 ?_
          rw [am_cellN]
          refine am_dup2 80 dX6_addPress_80 rfl rfl ?_
          refine am_iaload 81 dX6_addPress_81 rfl (by repeat (first | assumption | exact am_ue | refine am_un (by first | assumption | decide | omega) ?_)) (am_ix (by omega) (by decide)) ?_
          rw [nI_clamp (n := 8 * r + c) (by omega)]
          refine am_iload_n 82 dX6_addPress_82 rfl ?_
          refine am_iload 83 dX6_addPress_83 rfl ?_
          refine am_ishr 85 dX6_addPress_85 ?_
          refine am_iadd 86 dX6_addPress_86 ?_
          refine am_iastore 87 dX6_addPress_87 rfl (by repeat (first | assumption | exact am_ue | refine am_un (by first | assumption | decide | omega) ?_)) (am_ix (by omega) (by decide)) ?_
          rw [am_uu, nI_clamp (n := 8 * r + c) (by omega)]
          have e9 := m_pressTo_step (w := w) (s := s) (x := x) (y := y) (r := r) (c := c) (by omega) (by omega) (by omega) (by omega) (by omega)
          have r9 : (r = y) ↔ (nI r = nI y) := (nI_eq (by omega) (by omega)).symm
          have q9 : (c = x) ↔ (nI c = nI x) := (nI_eq (by omega) (by omega)).symm
          simp only [r9, q9, c46, c57, if_true, if_false, ite_true, ite_false] at e9
          rw [e9]
          refine am_iinc 88 (v := nI (c + 1)) dX6_addPress_88 rfl (nI_1 c) (by decide) ?_
          refine am_goto 91 (tgt := 30) dX6_addPress_91 rfl ?_
          exact ih2 _ (by omega)
        · refine am_iconst 60 (v := 0) dX6_addPress_60 (by decide) ?_
          refine am_goto 61 (tgt := 65) dX6_addPress_61 rfl ?_
          refine am_iadd 65 dX6_addPress_65 ?_
          refine am_istore 66 dX6_addPress_66 (by decide) ?_
          refine am_aload_n 68 dX6_addPress_68 rfl ?_
          refine am_getfield 69 dX6_addPress_69 fX6_9 (by repeat (first | assumption | exact am_ue | refine am_un (by first | assumption | decide | omega) ?_)) rfl ?_
          refine am_iload 72 dX6_addPress_72 rfl ?_
          refine am_bipush 74 (v := 8) dX6_addPress_74 (by decide) ?_
          refine am_imul 76 dX6_addPress_76 ?_
          refine am_iload 77 dX6_addPress_77 rfl ?_
          refine am_iadd 79 dX6_addPress_79 ?_
          rw [am_cellN]
          refine am_dup2 80 dX6_addPress_80 rfl rfl ?_
          refine am_iaload 81 dX6_addPress_81 rfl (by repeat (first | assumption | exact am_ue | refine am_un (by first | assumption | decide | omega) ?_)) (am_ix (by omega) (by decide)) ?_
          rw [nI_clamp (n := 8 * r + c) (by omega)]
          refine am_iload_n 82 dX6_addPress_82 rfl ?_
          refine am_iload 83 dX6_addPress_83 rfl ?_
          refine am_ishr 85 dX6_addPress_85 ?_
          refine am_iadd 86 dX6_addPress_86 ?_
          refine am_iastore 87 dX6_addPress_87 rfl (by repeat (first | assumption | exact am_ue | refine am_un (by first | assumption | decide | omega) ?_)) (am_ix (by omega) (by decide)) ?_
          rw [am_uu, nI_clamp (n := 8 * r + c) (by omega)]
          have e9 := m_pressTo_step (w := w) (s := s) (x := x) (y := y) (r := r) (c := c) (by omega) (by omega) (by omega) (by omega) (by omega)
          have r9 : (r = y) ↔ (nI r = nI y) := (nI_eq (by omega) (by omega)).symm
          have q9 : (c = x) ↔ (nI c = nI x) := (nI_eq (by omega) (by omega)).symm
          simp only [r9, q9, c46, c57, if_true, if_false, ite_true, ite_false] at e9
          rw [e9]
          refine am_iinc 88 (v := nI (c + 1)) dX6_addPress_88 rfl (nI_1 c) (by decide) ?_
          refine am_goto 91 (tgt := 30) dX6_addPress_91 rfl ?_
          exact ih2 _ (by omega)
      · refine am_iconst 49 (v := 0) dX6_addPress_49 (by decide) ?_
        refine am_goto 50 (tgt := 54) dX6_addPress_50 rfl ?_
        refine am_iload 54 dX6_addPress_54 rfl ?_
        refine am_iload_n 56 dX6_addPress_56 rfl ?_
        refine am_icmp_ne 57 64 dX6_addPress_57 rfl (fun c57 => ?_) (fun c57 => ?_)
        · refine am_iconst 64 (v := 1) dX6_addPress_64 (by decide) ?_
          refine am_iadd 65 dX6_addPress_65 ?_
          refine am_istore 66 dX6_addPress_66 (by decide) ?_
          refine am_aload_n 68 dX6_addPress_68 rfl ?_
          refine am_getfield 69 dX6_addPress_69 fX6_9 (by repeat (first | assumption | exact am_ue | refine am_un (by first | assumption | decide | omega) ?_)) rfl ?_
          refine am_iload 72 dX6_addPress_72 rfl ?_
          refine am_bipush 74 (v := 8) dX6_addPress_74 (by decide) ?_
          refine am_imul 76 dX6_addPress_76 ?_
          refine am_iload 77 dX6_addPress_77 rfl ?_
          refine am_iadd 79 dX6_addPress_79 ?_
          rw [am_cellN]
          refine am_dup2 80 dX6_addPress_80 rfl rfl ?_
          refine am_iaload 81 dX6_addPress_81 rfl (by repeat (first | assumption | exact am_ue | refine am_un (by first | assumption | decide | omega) ?_)) (am_ix (by omega) (by decide)) ?_
          rw [nI_clamp (n := 8 * r + c) (by omega)]
          refine am_iload_n 82 dX6_addPress_82 rfl ?_
          refine am_iload 83 dX6_addPress_83 rfl ?_
          refine am_ishr 85 dX6_addPress_85 ?_
          refine am_iadd 86 dX6_addPress_86 ?_
          refine am_iastore 87 dX6_addPress_87 rfl (by repeat (first | assumption | exact am_ue | refine am_un (by first | assumption | decide | omega) ?_)) (am_ix (by omega) (by decide)) ?_
          rw [am_uu, nI_clamp (n := 8 * r + c) (by omega)]
          have e9 := m_pressTo_step (w := w) (s := s) (x := x) (y := y) (r := r) (c := c) (by omega) (by omega) (by omega) (by omega) (by omega)
          have r9 : (r = y) ↔ (nI r = nI y) := (nI_eq (by omega) (by omega)).symm
          have q9 : (c = x) ↔ (nI c = nI x) := (nI_eq (by omega) (by omega)).symm
          simp only [r9, q9, c46, c57, if_true, if_false, ite_true, ite_false] at e9
          rw [e9]
          refine am_iinc 88 (v := nI (c + 1)) dX6_addPress_88 rfl (nI_1 c) (by decide) ?_
          refine am_goto 91 (tgt := 30) dX6_addPress_91 rfl ?_
          exact ih2 _ (by omega)
        · refine am_iconst 60 (v := 0) dX6_addPress_60 (by decide) ?_
          refine am_goto 61 (tgt := 65) dX6_addPress_61 rfl ?_
          refine am_iadd 65 dX6_addPress_65 ?_
          refine am_istore 66 dX6_addPress_66 (by decide) ?_
          refine am_aload_n 68 dX6_addPress_68 rfl ?_
          refine am_getfield 69 dX6_addPress_69 fX6_9 (by repeat (first | assumption | exact am_ue | refine am_un (by first | assumption | decide | omega) ?_)) rfl ?_
          refine am_iload 72 dX6_addPress_72 rfl ?_
          refine am_bipush 74 (v := 8) dX6_addPress_74 (by decide) ?_
          refine am_imul 76 dX6_addPress_76 ?_
          refine am_iload 77 dX6_addPress_77 rfl ?_
          refine am_iadd 79 dX6_addPress_79 ?_
          rw [am_cellN]
          refine am_dup2 80 dX6_addPress_80 rfl rfl ?_
          refine am_iaload 81 dX6_addPress_81 rfl (by repeat (first | assumption | exact am_ue | refine am_un (by first | assumption | decide | omega) ?_)) (am_ix (by omega) (by decide)) ?_
          rw [nI_clamp (n := 8 * r + c) (by omega)]
          refine am_iload_n 82 dX6_addPress_82 rfl ?_
          refine am_iload 83 dX6_addPress_83 rfl ?_
          refine am_ishr 85 dX6_addPress_85 ?_
          refine am_iadd 86 dX6_addPress_86 ?_
          refine am_iastore 87 dX6_addPress_87 rfl (by repeat (first | assumption | exact am_ue | refine am_un (by first | assumption | decide | omega) ?_)) (am_ix (by omega) (by decide)) ?_
          rw [am_uu, nI_clamp (n := 8 * r + c) (by omega)]
          have e9 := m_pressTo_step (w := w) (s := s) (x := x) (y := y) (r := r) (c := c) (by omega) (by omega) (by omega) (by omega) (by omega)
          have r9 : (r = y) ↔ (nI r = nI y) := (nI_eq (by omega) (by omega)).symm
          have q9 : (c = x) ↔ (nI c = nI x) := (nI_eq (by omega) (by omega)).symm
          simp only [r9, q9, c46, c57, if_true, if_false, ite_true, ite_false] at e9
          rw [e9]
          refine am_iinc 88 (v := nI (c + 1)) dX6_addPress_88 rfl (nI_1 c) (by decide) ?_
          refine am_goto 91 (tgt := 30) dX6_addPress_91 rfl ?_
          exact ih2 _ (by omega)
end Sheet3
end
section
/-! ===== Picture ===== -/
theorem dX5_init_0 : decode cX5_init 0 = .ok (.aload_n 0, 1) := by decide +kernel
theorem dX5_init_1 : decode cX5_init 1 = .ok (.invokespecial 3, 3) := by decide +kernel
theorem dX5_init_4 : decode cX5_init 4 = .ok (.aload_n 0, 1) := by decide +kernel
theorem dX5_init_5 : decode cX5_init 5 = .ok (.bipush 48, 2) := by decide +kernel
theorem dX5_init_7 : decode cX5_init 7 = .ok (.newarray .int, 2) := by decide +kernel
theorem dX5_init_9 : decode cX5_init 9 = .ok (.putfield 9, 3) := by decide +kernel
theorem dX5_init_12 : decode cX5_init 12 = .ok (.aload_n 0, 1) := by decide +kernel
theorem dX5_init_13 : decode cX5_init 13 = .ok (.bipush 48, 2) := by decide +kernel
theorem dX5_init_15 : decode cX5_init 15 = .ok (.newarray .int, 2) := by decide +kernel
theorem dX5_init_17 : decode cX5_init 17 = .ok (.putfield 15, 3) := by decide +kernel
theorem dX5_init_20 : decode cX5_init 20 = .ok (.aload_n 0, 1) := by decide +kernel
theorem dX5_init_21 : decode cX5_init 21 = .ok (.bipush 48, 2) := by decide +kernel
theorem dX5_init_23 : decode cX5_init 23 = .ok (.newarray .int, 2) := by decide +kernel
theorem dX5_init_25 : decode cX5_init 25 = .ok (.putfield 18, 3) := by decide +kernel
theorem dX5_init_28 : decode cX5_init 28 = .ok (.aload_n 0, 1) := by decide +kernel
theorem dX5_init_29 : decode cX5_init 29 = .ok (.bipush 48, 2) := by decide +kernel
theorem dX5_init_31 : decode cX5_init 31 = .ok (.newarray .int, 2) := by decide +kernel
theorem dX5_init_33 : decode cX5_init 33 = .ok (.putfield 21, 3) := by decide +kernel
theorem dX5_init_36 : decode cX5_init 36 = .ok (.aload_n 0, 1) := by decide +kernel
theorem dX5_init_37 : decode cX5_init 37 = .ok (.bipush 48, 2) := by decide +kernel
theorem dX5_init_39 : decode cX5_init 39 = .ok (.newarray .int, 2) := by decide +kernel
theorem dX5_init_41 : decode cX5_init 41 = .ok (.putfield 24, 3) := by decide +kernel
theorem dX5_init_44 : decode cX5_init 44 = .ok (.aload_n 0, 1) := by decide +kernel
theorem dX5_init_45 : decode cX5_init 45 = .ok (.bipush 48, 2) := by decide +kernel
theorem dX5_init_47 : decode cX5_init 47 = .ok (.newarray .int, 2) := by decide +kernel
theorem dX5_init_49 : decode cX5_init 49 = .ok (.putfield 27, 3) := by decide +kernel
theorem dX5_init_52 : decode cX5_init 52 = .ok (.return_, 1) := by decide +kernel
theorem dX5_look_0 : decode cX5_look 0 = .ok (.iconst 0, 1) := by decide +kernel
theorem dX5_look_1 : decode cX5_look 1 = .ok (.istore_n 2, 1) := by decide +kernel
theorem dX5_look_2 : decode cX5_look 2 = .ok (.iload_n 2, 1) := by decide +kernel
theorem dX5_look_3 : decode cX5_look 3 = .ok (.bipush 48, 2) := by decide +kernel
theorem dX5_look_5 : decode cX5_look 5 = .ok (.if_icmp .ge 27, 3) := by decide +kernel
theorem dX5_look_8 : decode cX5_look 8 = .ok (.aload_n 0, 1) := by decide +kernel
theorem dX5_look_9 : decode cX5_look 9 = .ok (.getfield 9, 3) := by decide +kernel
theorem dX5_look_12 : decode cX5_look 12 = .ok (.iload_n 2, 1) := by decide +kernel
theorem dX5_look_13 : decode cX5_look 13 = .ok (.aload_n 1, 1) := by decide +kernel
theorem dX5_look_14 : decode cX5_look 14 = .ok (.iload_n 2, 1) := by decide +kernel
theorem dX5_look_15 : decode cX5_look 15 = .ok (.invokevirtual 30, 3) := by decide +kernel
theorem dX5_look_18 : decode cX5_look 18 = .ok (.iastore, 1) := by decide +kernel
theorem dX5_look_19 : decode cX5_look 19 = .ok (.aload_n 0, 1) := by decide +kernel
theorem dX5_look_20 : decode cX5_look 20 = .ok (.getfield 15, 3) := by decide +kernel
theorem dX5_look_23 : decode cX5_look 23 = .ok (.iload_n 2, 1) := by decide +kernel
theorem dX5_look_24 : decode cX5_look 24 = .ok (.iconst 0, 1) := by decide +kernel
theorem dX5_look_25 : decode cX5_look 25 = .ok (.iastore, 1) := by decide +kernel
theorem dX5_look_26 : decode cX5_look 26 = .ok (.iinc 2 1, 3) := by decide +kernel
theorem dX5_look_29 : decode cX5_look 29 = .ok (.goto (-27), 3) := by decide +kernel
theorem dX5_look_32 : decode cX5_look 32 = .ok (.iconst 0, 1) := by decide +kernel
theorem dX5_look_33 : decode cX5_look 33 = .ok (.istore_n 2, 1) := by decide +kernel
theorem dX5_look_34 : decode cX5_look 34 = .ok (.iload_n 2, 1) := by decide +kernel
theorem dX5_look_35 : decode cX5_look 35 = .ok (.bipush 48, 2) := by decide +kernel
theorem dX5_look_37 : decode cX5_look 37 = .ok (.if_icmp .ge 31, 3) := by decide +kernel
theorem dX5_look_40 : decode cX5_look 40 = .ok (.aload_n 0, 1) := by decide +kernel
theorem dX5_look_41 : decode cX5_look 41 = .ok (.iload_n 2, 1) := by decide +kernel
theorem dX5_look_42 : decode cX5_look 42 = .ok (.invokevirtual 36, 3) := by decide +kernel
theorem dX5_look_45 : decode cX5_look 45 = .ok (.ifCond .eq 17, 3) := by decide +kernel
theorem dX5_look_48 : decode cX5_look 48 = .ok (.aload_n 0, 1) := by decide +kernel
theorem dX5_look_49 : decode cX5_look 49 = .ok (.getfield 15, 3) := by decide +kernel
theorem dX5_look_52 : decode cX5_look 52 = .ok (.iload_n 2, 1) := by decide +kernel
theorem dX5_look_53 : decode cX5_look 53 = .ok (.iaload, 1) := by decide +kernel
theorem dX5_look_54 : decode cX5_look 54 = .ok (.ifCond .ne 8, 3) := by decide +kernel
theorem dX5_look_57 : decode cX5_look 57 = .ok (.aload_n 0, 1) := by decide +kernel
theorem dX5_look_58 : decode cX5_look 58 = .ok (.iload_n 2, 1) := by decide +kernel
theorem dX5_look_59 : decode cX5_look 59 = .ok (.invokevirtual 40, 3) := by decide +kernel
theorem dX5_look_62 : decode cX5_look 62 = .ok (.iinc 2 1, 3) := by decide +kernel
theorem dX5_look_65 : decode cX5_look 65 = .ok (.goto (-31), 3) := by decide +kernel
theorem dX5_look_68 : decode cX5_look 68 = .ok (.aload_n 0, 1) := by decide +kernel
theorem dX5_look_69 : decode cX5_look 69 = .ok (.invokevirtual 44, 3) := by decide +kernel
theorem dX5_look_72 : decode cX5_look 72 = .ok (.aload_n 0, 1) := by decide +kernel
theorem dX5_look_73 : decode cX5_look 73 = .ok (.aload_n 0, 1) := by decide +kernel
theorem dX5_look_74 : decode cX5_look 74 = .ok (.invokevirtual 47, 3) := by decide +kernel
theorem dX5_look_77 : decode cX5_look 77 = .ok (.putfield 51, 3) := by decide +kernel
theorem dX5_look_80 : decode cX5_look 80 = .ok (.return_, 1) := by decide +kernel
theorem dX5_isTouched_0 : decode cX5_isTouched 0 = .ok (.aload_n 0, 1) := by decide +kernel
theorem dX5_isTouched_1 : decode cX5_isTouched 1 = .ok (.getfield 9, 3) := by decide +kernel
theorem dX5_isTouched_4 : decode cX5_isTouched 4 = .ok (.iload_n 1, 1) := by decide +kernel
theorem dX5_isTouched_5 : decode cX5_isTouched 5 = .ok (.iaload, 1) := by decide +kernel
theorem dX5_isTouched_6 : decode cX5_isTouched 6 = .ok (.bipush 20, 2) := by decide +kernel
theorem dX5_isTouched_8 : decode cX5_isTouched 8 = .ok (.if_icmp .lt 7, 3) := by decide +kernel
theorem dX5_isTouched_11 : decode cX5_isTouched 11 = .ok (.iconst 1, 1) := by decide +kernel
theorem dX5_isTouched_12 : decode cX5_isTouched 12 = .ok (.goto 4, 3) := by decide +kernel
theorem dX5_isTouched_15 : decode cX5_isTouched 15 = .ok (.iconst 0, 1) := by decide +kernel
theorem dX5_isTouched_16 : decode cX5_isTouched 16 = .ok (.ireturn, 1) := by decide +kernel
theorem dX5_measureRegion_0 : decode cX5_measureRegion 0 = .ok (.aload_n 0, 1) := by decide +kernel
theorem dX5_measureRegion_1 : decode cX5_measureRegion 1 = .ok (.iload_n 1, 1) := by decide +kernel
theorem dX5_measureRegion_2 : decode cX5_measureRegion 2 = .ok (.bipush 8, 2) := by decide +kernel
theorem dX5_measureRegion_4 : decode cX5_measureRegion 4 = .ok (.irem, 1) := by decide +kernel
theorem dX5_measureRegion_5 : decode cX5_measureRegion 5 = .ok (.iload_n 1, 1) := by decide +kernel
theorem dX5_measureRegion_6 : decode cX5_measureRegion 6 = .ok (.bipush 8, 2) := by decide +kernel
theorem dX5_measureRegion_8 : decode cX5_measureRegion 8 = .ok (.idiv, 1) := by decide +kernel
theorem dX5_measureRegion_9 : decode cX5_measureRegion 9 = .ok (.iconst 0, 1) := by decide +kernel
theorem dX5_measureRegion_10 : decode cX5_measureRegion 10 = .ok (.invokevirtual 55, 3) := by decide +kernel
theorem dX5_measureRegion_13 : decode cX5_measureRegion 13 = .ok (.istore_n 2, 1) := by decide +kernel
theorem dX5_measureRegion_14 : decode cX5_measureRegion 14 = .ok (.iconst 0, 1) := by decide +kernel
theorem dX5_measureRegion_15 : decode cX5_measureRegion 15 = .ok (.istore_n 3, 1) := by decide +kernel
theorem dX5_measureRegion_16 : decode cX5_measureRegion 16 = .ok (.iload_n 3, 1) := by decide +kernel
theorem dX5_measureRegion_17 : decode cX5_measureRegion 17 = .ok (.iload_n 2, 1) := by decide +kernel
theorem dX5_measureRegion_18 : decode cX5_measureRegion 18 = .ok (.if_icmp .ge 85, 3) := by decide +kernel
theorem dX5_measureRegion_21 : decode cX5_measureRegion 21 = .ok (.iload_n 3, 1) := by decide +kernel
theorem dX5_measureRegion_22 : decode cX5_measureRegion 22 = .ok (.bipush 48, 2) := by decide +kernel
theorem dX5_measureRegion_24 : decode cX5_measureRegion 24 = .ok (.if_icmp .ge 79, 3) := by decide +kernel
theorem dX5_measureRegion_27 : decode cX5_measureRegion 27 = .ok (.aload_n 0, 1) := by decide +kernel
theorem dX5_measureRegion_28 : decode cX5_measureRegion 28 = .ok (.getfield 27, 3) := by decide +kernel
theorem dX5_measureRegion_31 : decode cX5_measureRegion 31 = .ok (.iload_n 3, 1) := by decide +kernel
theorem dX5_measureRegion_32 : decode cX5_measureRegion 32 = .ok (.iaload, 1) := by decide +kernel
theorem dX5_measureRegion_33 : decode cX5_measureRegion 33 = .ok (.bipush 8, 2) := by decide +kernel
theorem dX5_measureRegion_35 : decode cX5_measureRegion 35 = .ok (.irem, 1) := by decide +kernel
theorem dX5_measureRegion_36 : decode cX5_measureRegion 36 = .ok (.istore 4, 2) := by decide +kernel
theorem dX5_measureRegion_38 : decode cX5_measureRegion 38 = .ok (.aload_n 0, 1) := by decide +kernel
theorem dX5_measureRegion_39 : decode cX5_measureRegion 39 = .ok (.getfield 27, 3) := by decide +kernel
theorem dX5_measureRegion_42 : decode cX5_measureRegion 42 = .ok (.iload_n 3, 1) := by decide +kernel
theorem dX5_measureRegion_43 : decode cX5_measureRegion 43 = .ok (.iaload, 1) := by decide +kernel
theorem dX5_measureRegion_44 : decode cX5_measureRegion 44 = .ok (.bipush 8, 2) := by decide +kernel
theorem dX5_measureRegion_46 : decode cX5_measureRegion 46 = .ok (.idiv, 1) := by decide +kernel
theorem dX5_measureRegion_47 : decode cX5_measureRegion 47 = .ok (.istore 5, 2) := by decide +kernel
theorem dX5_measureRegion_49 : decode cX5_measureRegion 49 = .ok (.aload_n 0, 1) := by decide +kernel
theorem dX5_measureRegion_50 : decode cX5_measureRegion 50 = .ok (.iload 4, 2) := by decide +kernel
theorem dX5_measureRegion_52 : decode cX5_measureRegion 52 = .ok (.iconst 1, 1) := by decide +kernel
theorem dX5_measureRegion_53 : decode cX5_measureRegion 53 = .ok (.isub, 1) := by decide +kernel
theorem dX5_measureRegion_54 : decode cX5_measureRegion 54 = .ok (.iload 5, 2) := by decide +kernel
theorem dX5_measureRegion_56 : decode cX5_measureRegion 56 = .ok (.iload_n 2, 1) := by decide +kernel
theorem dX5_measureRegion_57 : decode cX5_measureRegion 57 = .ok (.invokevirtual 55, 3) := by decide +kernel
theorem dX5_measureRegion_60 : decode cX5_measureRegion 60 = .ok (.istore_n 2, 1) := by decide +kernel
theorem dX5_measureRegion_61 : decode cX5_measureRegion 61 = .ok (.aload_n 0, 1) := by decide +kernel
theorem dX5_measureRegion_62 : decode cX5_measureRegion 62 = .ok (.iload 4, 2) := by decide +kernel
theorem dX5_measureRegion_64 : decode cX5_measureRegion 64 = .ok (.iconst 1, 1) := by decide +kernel
theorem dX5_measureRegion_65 : decode cX5_measureRegion 65 = .ok (.iadd, 1) := by decide +kernel
theorem dX5_measureRegion_66 : decode cX5_measureRegion 66 = .ok (.iload 5, 2) := by decide +kernel
theorem dX5_measureRegion_68 : decode cX5_measureRegion 68 = .ok (.iload_n 2, 1) := by decide +kernel
theorem dX5_measureRegion_69 : decode cX5_measureRegion 69 = .ok (.invokevirtual 55, 3) := by decide +kernel
theorem dX5_measureRegion_72 : decode cX5_measureRegion 72 = .ok (.istore_n 2, 1) := by decide +kernel
theorem dX5_measureRegion_73 : decode cX5_measureRegion 73 = .ok (.aload_n 0, 1) := by decide +kernel
theorem dX5_measureRegion_74 : decode cX5_measureRegion 74 = .ok (.iload 4, 2) := by decide +kernel
theorem dX5_measureRegion_76 : decode cX5_measureRegion 76 = .ok (.iload 5, 2) := by decide +kernel
theorem dX5_measureRegion_78 : decode cX5_measureRegion 78 = .ok (.iconst 1, 1) := by decide +kernel
theorem dX5_measureRegion_79 : decode cX5_measureRegion 79 = .ok (.isub, 1) := by decide +kernel
theorem dX5_measureRegion_80 : decode cX5_measureRegion 80 = .ok (.iload_n 2, 1) := by decide +kernel
theorem dX5_measureRegion_81 : decode cX5_measureRegion 81 = .ok (.invokevirtual 55, 3) := by decide +kernel
theorem dX5_measureRegion_84 : decode cX5_measureRegion 84 = .ok (.istore_n 2, 1) := by decide +kernel
theorem dX5_measureRegion_85 : decode cX5_measureRegion 85 = .ok (.aload_n 0, 1) := by decide +kernel
theorem dX5_measureRegion_86 : decode cX5_measureRegion 86 = .ok (.iload 4, 2) := by decide +kernel
theorem dX5_measureRegion_88 : decode cX5_measureRegion 88 = .ok (.iload 5, 2) := by decide +kernel
theorem dX5_measureRegion_90 : decode cX5_measureRegion 90 = .ok (.iconst 1, 1) := by decide +kernel
theorem dX5_measureRegion_91 : decode cX5_measureRegion 91 = .ok (.iadd, 1) := by decide +kernel
theorem dX5_measureRegion_92 : decode cX5_measureRegion 92 = .ok (.iload_n 2, 1) := by decide +kernel
theorem dX5_measureRegion_93 : decode cX5_measureRegion 93 = .ok (.invokevirtual 55, 3) := by decide +kernel
theorem dX5_measureRegion_96 : decode cX5_measureRegion 96 = .ok (.istore_n 2, 1) := by decide +kernel
theorem dX5_measureRegion_97 : decode cX5_measureRegion 97 = .ok (.iinc 3 1, 3) := by decide +kernel
theorem dX5_measureRegion_100 : decode cX5_measureRegion 100 = .ok (.goto (-84), 3) := by decide +kernel
theorem dX5_measureRegion_103 : decode cX5_measureRegion 103 = .ok (.iconst 0, 1) := by decide +kernel
theorem dX5_measureRegion_104 : decode cX5_measureRegion 104 = .ok (.istore_n 3, 1) := by decide +kernel
theorem dX5_measureRegion_105 : decode cX5_measureRegion 105 = .ok (.iload_n 3, 1) := by decide +kernel
theorem dX5_measureRegion_106 : decode cX5_measureRegion 106 = .ok (.iload_n 2, 1) := by decide +kernel
theorem dX5_measureRegion_107 : decode cX5_measureRegion 107 = .ok (.if_icmp .ge 27, 3) := by decide +kernel
theorem dX5_measureRegion_110 : decode cX5_measureRegion 110 = .ok (.iload_n 3, 1) := by decide +kernel
theorem dX5_measureRegion_111 : decode cX5_measureRegion 111 = .ok (.bipush 48, 2) := by decide +kernel
theorem dX5_measureRegion_113 : decode cX5_measureRegion 113 = .ok (.if_icmp .ge 21, 3) := by decide +kernel
theorem dX5_measureRegion_116 : decode cX5_measureRegion 116 = .ok (.aload_n 0, 1) := by decide +kernel
theorem dX5_measureRegion_117 : decode cX5_measureRegion 117 = .ok (.getfield 15, 3) := by decide +kernel
theorem dX5_measureRegion_120 : decode cX5_measureRegion 120 = .ok (.aload_n 0, 1) := by decide +kernel
theorem dX5_measureRegion_121 : decode cX5_measureRegion 121 = .ok (.getfield 27, 3) := by decide +kernel
theorem dX5_measureRegion_124 : decode cX5_measureRegion 124 = .ok (.iload_n 3, 1) := by decide +kernel
theorem dX5_measureRegion_125 : decode cX5_measureRegion 125 = .ok (.iaload, 1) := by decide +kernel
theorem dX5_measureRegion_126 : decode cX5_measureRegion 126 = .ok (.iload_n 2, 1) := by decide +kernel
theorem dX5_measureRegion_127 : decode cX5_measureRegion 127 = .ok (.iastore, 1) := by decide +kernel
theorem dX5_measureRegion_128 : decode cX5_measureRegion 128 = .ok (.iinc 3 1, 3) := by decide +kernel
theorem dX5_measureRegion_131 : decode cX5_measureRegion 131 = .ok (.goto (-26), 3) := by decide +kernel
theorem dX5_measureRegion_134 : decode cX5_measureRegion 134 = .ok (.return_, 1) := by decide +kernel
theorem dX5_link_0 : decode cX5_link 0 = .ok (.iload_n 1, 1) := by decide +kernel
theorem dX5_link_1 : decode cX5_link 1 = .ok (.ifCond .lt 25, 3) := by decide +kernel
theorem dX5_link_4 : decode cX5_link 4 = .ok (.iload_n 1, 1) := by decide +kernel
theorem dX5_link_5 : decode cX5_link 5 = .ok (.bipush 8, 2) := by decide +kernel
theorem dX5_link_7 : decode cX5_link 7 = .ok (.if_icmp .ge 19, 3) := by decide +kernel
theorem dX5_link_10 : decode cX5_link 10 = .ok (.iload_n 2, 1) := by decide +kernel
theorem dX5_link_11 : decode cX5_link 11 = .ok (.ifCond .lt 15, 3) := by decide +kernel
theorem dX5_link_14 : decode cX5_link 14 = .ok (.iload_n 2, 1) := by decide +kernel
theorem dX5_link_15 : decode cX5_link 15 = .ok (.bipush 6, 2) := by decide +kernel
theorem dX5_link_17 : decode cX5_link 17 = .ok (.if_icmp .ge 9, 3) := by decide +kernel
theorem dX5_link_20 : decode cX5_link 20 = .ok (.iload_n 3, 1) := by decide +kernel
theorem dX5_link_21 : decode cX5_link 21 = .ok (.bipush 48, 2) := by decide +kernel
theorem dX5_link_23 : decode cX5_link 23 = .ok (.if_icmp .lt 5, 3) := by decide +kernel
theorem dX5_link_26 : decode cX5_link 26 = .ok (.iload_n 3, 1) := by decide +kernel
theorem dX5_link_27 : decode cX5_link 27 = .ok (.ireturn, 1) := by decide +kernel
theorem dX5_link_28 : decode cX5_link 28 = .ok (.iload_n 2, 1) := by decide +kernel
theorem dX5_link_29 : decode cX5_link 29 = .ok (.bipush 8, 2) := by decide +kernel
theorem dX5_link_31 : decode cX5_link 31 = .ok (.imul, 1) := by decide +kernel
theorem dX5_link_32 : decode cX5_link 32 = .ok (.iload_n 1, 1) := by decide +kernel
theorem dX5_link_33 : decode cX5_link 33 = .ok (.iadd, 1) := by decide +kernel
theorem dX5_link_34 : decode cX5_link 34 = .ok (.istore 4, 2) := by decide +kernel
theorem dX5_link_36 : decode cX5_link 36 = .ok (.aload_n 0, 1) := by decide +kernel
theorem dX5_link_37 : decode cX5_link 37 = .ok (.iload 4, 2) := by decide +kernel
theorem dX5_link_39 : decode cX5_link 39 = .ok (.invokevirtual 36, 3) := by decide +kernel
theorem dX5_link_42 : decode cX5_link 42 = .ok (.ifCond .eq 13, 3) := by decide +kernel
theorem dX5_link_45 : decode cX5_link 45 = .ok (.aload_n 0, 1) := by decide +kernel
theorem dX5_link_46 : decode cX5_link 46 = .ok (.getfield 15, 3) := by decide +kernel
theorem dX5_link_49 : decode cX5_link 49 = .ok (.iload 4, 2) := by decide +kernel
theorem dX5_link_51 : decode cX5_link 51 = .ok (.iaload, 1) := by decide +kernel
theorem dX5_link_52 : decode cX5_link 52 = .ok (.ifCond .eq 5, 3) := by decide +kernel
theorem dX5_link_55 : decode cX5_link 55 = .ok (.iload_n 3, 1) := by decide +kernel
theorem dX5_link_56 : decode cX5_link 56 = .ok (.ireturn, 1) := by decide +kernel
theorem dX5_link_57 : decode cX5_link 57 = .ok (.aload_n 0, 1) := by decide +kernel
theorem dX5_link_58 : decode cX5_link 58 = .ok (.getfield 15, 3) := by decide +kernel
theorem dX5_link_61 : decode cX5_link 61 = .ok (.iload 4, 2) := by decide +kernel
theorem dX5_link_63 : decode cX5_link 63 = .ok (.iconst 1, 1) := by decide +kernel
theorem dX5_link_64 : decode cX5_link 64 = .ok (.iastore, 1) := by decide +kernel
theorem dX5_link_65 : decode cX5_link 65 = .ok (.aload_n 0, 1) := by decide +kernel
theorem dX5_link_66 : decode cX5_link 66 = .ok (.getfield 27, 3) := by decide +kernel
theorem dX5_link_69 : decode cX5_link 69 = .ok (.iload_n 3, 1) := by decide +kernel
theorem dX5_link_70 : decode cX5_link 70 = .ok (.iload 4, 2) := by decide +kernel
theorem dX5_link_72 : decode cX5_link 72 = .ok (.iastore, 1) := by decide +kernel
theorem dX5_link_73 : decode cX5_link 73 = .ok (.iload_n 3, 1) := by decide +kernel
theorem dX5_link_74 : decode cX5_link 74 = .ok (.iconst 1, 1) := by decide +kernel
theorem dX5_link_75 : decode cX5_link 75 = .ok (.iadd, 1) := by decide +kernel
theorem dX5_link_76 : decode cX5_link 76 = .ok (.ireturn, 1) := by decide +kernel
theorem dX5_findPeaks_0 : decode cX5_findPeaks 0 = .ok (.aload_n 0, 1) := by decide +kernel
theorem dX5_findPeaks_1 : decode cX5_findPeaks 1 = .ok (.iconst 0, 1) := by decide +kernel
theorem dX5_findPeaks_2 : decode cX5_findPeaks 2 = .ok (.putfield 59, 3) := by decide +kernel
theorem dX5_findPeaks_5 : decode cX5_findPeaks 5 = .ok (.iconst 0, 1) := by decide +kernel
theorem dX5_findPeaks_6 : decode cX5_findPeaks 6 = .ok (.istore_n 1, 1) := by decide +kernel
theorem dX5_findPeaks_7 : decode cX5_findPeaks 7 = .ok (.iload_n 1, 1) := by decide +kernel
theorem dX5_findPeaks_8 : decode cX5_findPeaks 8 = .ok (.bipush 48, 2) := by decide +kernel
theorem dX5_findPeaks_10 : decode cX5_findPeaks 10 = .ok (.if_icmp .ge 75, 3) := by decide +kernel
theorem dX5_findPeaks_13 : decode cX5_findPeaks 13 = .ok (.aload_n 0, 1) := by decide +kernel
theorem dX5_findPeaks_14 : decode cX5_findPeaks 14 = .ok (.iload_n 1, 1) := by decide +kernel
theorem dX5_findPeaks_15 : decode cX5_findPeaks 15 = .ok (.invokevirtual 36, 3) := by decide +kernel
theorem dX5_findPeaks_18 : decode cX5_findPeaks 18 = .ok (.ifCond .eq 61, 3) := by decide +kernel
theorem dX5_findPeaks_21 : decode cX5_findPeaks 21 = .ok (.aload_n 0, 1) := by decide +kernel
theorem dX5_findPeaks_22 : decode cX5_findPeaks 22 = .ok (.iload_n 1, 1) := by decide +kernel
theorem dX5_findPeaks_23 : decode cX5_findPeaks 23 = .ok (.invokevirtual 62, 3) := by decide +kernel
theorem dX5_findPeaks_26 : decode cX5_findPeaks 26 = .ok (.ifCond .eq 53, 3) := by decide +kernel
theorem dX5_findPeaks_29 : decode cX5_findPeaks 29 = .ok (.aload_n 0, 1) := by decide +kernel
theorem dX5_findPeaks_30 : decode cX5_findPeaks 30 = .ok (.getfield 18, 3) := by decide +kernel
theorem dX5_findPeaks_33 : decode cX5_findPeaks 33 = .ok (.aload_n 0, 1) := by decide +kernel
theorem dX5_findPeaks_34 : decode cX5_findPeaks 34 = .ok (.getfield 59, 3) := by decide +kernel
theorem dX5_findPeaks_37 : decode cX5_findPeaks 37 = .ok (.iload_n 1, 1) := by decide +kernel
theorem dX5_findPeaks_38 : decode cX5_findPeaks 38 = .ok (.iastore, 1) := by decide +kernel
theorem dX5_findPeaks_39 : decode cX5_findPeaks 39 = .ok (.aload_n 0, 1) := by decide +kernel
theorem dX5_findPeaks_40 : decode cX5_findPeaks 40 = .ok (.getfield 21, 3) := by decide +kernel
theorem dX5_findPeaks_43 : decode cX5_findPeaks 43 = .ok (.aload_n 0, 1) := by decide +kernel
theorem dX5_findPeaks_44 : decode cX5_findPeaks 44 = .ok (.getfield 59, 3) := by decide +kernel
theorem dX5_findPeaks_47 : decode cX5_findPeaks 47 = .ok (.aload_n 0, 1) := by decide +kernel
theorem dX5_findPeaks_48 : decode cX5_findPeaks 48 = .ok (.iload_n 1, 1) := by decide +kernel
theorem dX5_findPeaks_49 : decode cX5_findPeaks 49 = .ok (.iconst 0, 1) := by decide +kernel
theorem dX5_findPeaks_50 : decode cX5_findPeaks 50 = .ok (.invokevirtual 65, 3) := by decide +kernel
theorem dX5_findPeaks_53 : decode cX5_findPeaks 53 = .ok (.iastore, 1) := by decide +kernel
theorem dX5_findPeaks_54 : decode cX5_findPeaks 54 = .ok (.aload_n 0, 1) := by decide +kernel
theorem dX5_findPeaks_55 : decode cX5_findPeaks 55 = .ok (.getfield 24, 3) := by decide +kernel
theorem dX5_findPeaks_58 : decode cX5_findPeaks 58 = .ok (.aload_n 0, 1) := by decide +kernel
theorem dX5_findPeaks_59 : decode cX5_findPeaks 59 = .ok (.getfield 59, 3) := by decide +kernel
theorem dX5_findPeaks_62 : decode cX5_findPeaks 62 = .ok (.aload_n 0, 1) := by decide +kernel
theorem dX5_findPeaks_63 : decode cX5_findPeaks 63 = .ok (.iload_n 1, 1) := by decide +kernel
theorem dX5_findPeaks_64 : decode cX5_findPeaks 64 = .ok (.iconst 1, 1) := by decide +kernel
theorem dX5_findPeaks_65 : decode cX5_findPeaks 65 = .ok (.invokevirtual 65, 3) := by decide +kernel
theorem dX5_findPeaks_68 : decode cX5_findPeaks 68 = .ok (.iastore, 1) := by decide +kernel
theorem dX5_findPeaks_69 : decode cX5_findPeaks 69 = .ok (.aload_n 0, 1) := by decide +kernel
theorem dX5_findPeaks_70 : decode cX5_findPeaks 70 = .ok (.dup, 1) := by decide +kernel
theorem dX5_findPeaks_71 : decode cX5_findPeaks 71 = .ok (.getfield 59, 3) := by decide +kernel
theorem dX5_findPeaks_74 : decode cX5_findPeaks 74 = .ok (.iconst 1, 1) := by decide +kernel
theorem dX5_findPeaks_75 : decode cX5_findPeaks 75 = .ok (.iadd, 1) := by decide +kernel
theorem dX5_findPeaks_76 : decode cX5_findPeaks 76 = .ok (.putfield 59, 3) := by decide +kernel
theorem dX5_findPeaks_79 : decode cX5_findPeaks 79 = .ok (.iinc 1 1, 3) := by decide +kernel
theorem dX5_findPeaks_82 : decode cX5_findPeaks 82 = .ok (.goto (-75), 3) := by decide +kernel
theorem dX5_findPeaks_85 : decode cX5_findPeaks 85 = .ok (.return_, 1) := by decide +kernel
theorem dX5_isSummit_0 : decode cX5_isSummit 0 = .ok (.iload_n 1, 1) := by decide +kernel
theorem dX5_isSummit_1 : decode cX5_isSummit 1 = .ok (.bipush 8, 2) := by decide +kernel
theorem dX5_isSummit_3 : decode cX5_isSummit 3 = .ok (.irem, 1) := by decide +kernel
theorem dX5_isSummit_4 : decode cX5_isSummit 4 = .ok (.istore_n 2, 1) := by decide +kernel
theorem dX5_isSummit_5 : decode cX5_isSummit 5 = .ok (.iload_n 1, 1) := by decide +kernel
theorem dX5_isSummit_6 : decode cX5_isSummit 6 = .ok (.bipush 8, 2) := by decide +kernel
theorem dX5_isSummit_8 : decode cX5_isSummit 8 = .ok (.idiv, 1) := by decide +kernel
theorem dX5_isSummit_9 : decode cX5_isSummit 9 = .ok (.istore_n 3, 1) := by decide +kernel
theorem dX5_isSummit_10 : decode cX5_isSummit 10 = .ok (.iload_n 3, 1) := by decide +kernel
theorem dX5_isSummit_11 : decode cX5_isSummit 11 = .ok (.iconst 1, 1) := by decide +kernel
theorem dX5_isSummit_12 : decode cX5_isSummit 12 = .ok (.isub, 1) := by decide +kernel
theorem dX5_isSummit_13 : decode cX5_isSummit 13 = .ok (.iconst 0, 1) := by decide +kernel
theorem dX5_isSummit_14 : decode cX5_isSummit 14 = .ok (.invokestatic 69, 3) := by decide +kernel
theorem dX5_isSummit_17 : decode cX5_isSummit 17 = .ok (.istore 4, 2) := by decide +kernel
theorem dX5_isSummit_19 : decode cX5_isSummit 19 = .ok (.iload 4, 2) := by decide +kernel
theorem dX5_isSummit_21 : decode cX5_isSummit 21 = .ok (.iload_n 3, 1) := by decide +kernel
theorem dX5_isSummit_22 : decode cX5_isSummit 22 = .ok (.iconst 1, 1) := by decide +kernel
theorem dX5_isSummit_23 : decode cX5_isSummit 23 = .ok (.iadd, 1) := by decide +kernel
theorem dX5_isSummit_24 : decode cX5_isSummit 24 = .ok (.iconst 5, 1) := by decide +kernel
theorem dX5_isSummit_25 : decode cX5_isSummit 25 = .ok (.invokestatic 75, 3) := by decide +kernel
theorem dX5_isSummit_28 : decode cX5_isSummit 28 = .ok (.if_icmp .gt 87, 3) := by decide +kernel
theorem dX5_isSummit_31 : decode cX5_isSummit 31 = .ok (.iload_n 2, 1) := by decide +kernel
theorem dX5_isSummit_32 : decode cX5_isSummit 32 = .ok (.iconst 1, 1) := by decide +kernel
theorem dX5_isSummit_33 : decode cX5_isSummit 33 = .ok (.isub, 1) := by decide +kernel
theorem dX5_isSummit_34 : decode cX5_isSummit 34 = .ok (.iconst 0, 1) := by decide +kernel
theorem dX5_isSummit_35 : decode cX5_isSummit 35 = .ok (.invokestatic 69, 3) := by decide +kernel
theorem dX5_isSummit_38 : decode cX5_isSummit 38 = .ok (.istore 5, 2) := by decide +kernel
theorem dX5_isSummit_40 : decode cX5_isSummit 40 = .ok (.iload 5, 2) := by decide +kernel
theorem dX5_isSummit_42 : decode cX5_isSummit 42 = .ok (.iload_n 2, 1) := by decide +kernel
theorem dX5_isSummit_43 : decode cX5_isSummit 43 = .ok (.iconst 1, 1) := by decide +kernel
theorem dX5_isSummit_44 : decode cX5_isSummit 44 = .ok (.iadd, 1) := by decide +kernel
theorem dX5_isSummit_45 : decode cX5_isSummit 45 = .ok (.bipush 7, 2) := by decide +kernel
theorem dX5_isSummit_47 : decode cX5_isSummit 47 = .ok (.invokestatic 75, 3) := by decide +kernel
theorem dX5_isSummit_50 : decode cX5_isSummit 50 = .ok (.if_icmp .gt 59, 3) := by decide +kernel
theorem dX5_isSummit_53 : decode cX5_isSummit 53 = .ok (.iload 4, 2) := by decide +kernel
theorem dX5_isSummit_55 : decode cX5_isSummit 55 = .ok (.bipush 8, 2) := by decide +kernel
theorem dX5_isSummit_57 : decode cX5_isSummit 57 = .ok (.imul, 1) := by decide +kernel
theorem dX5_isSummit_58 : decode cX5_isSummit 58 = .ok (.iload 5, 2) := by decide +kernel
theorem dX5_isSummit_60 : decode cX5_isSummit 60 = .ok (.iadd, 1) := by decide +kernel
theorem dX5_isSummit_61 : decode cX5_isSummit 61 = .ok (.istore 6, 2) := by decide +kernel
theorem dX5_isSummit_63 : decode cX5_isSummit 63 = .ok (.aload_n 0, 1) := by decide +kernel
theorem dX5_isSummit_64 : decode cX5_isSummit 64 = .ok (.getfield 9, 3) := by decide +kernel
theorem dX5_isSummit_67 : decode cX5_isSummit 67 = .ok (.iload 6, 2) := by decide +kernel
theorem dX5_isSummit_69 : decode cX5_isSummit 69 = .ok (.iaload, 1) := by decide +kernel
theorem dX5_isSummit_70 : decode cX5_isSummit 70 = .ok (.aload_n 0, 1) := by decide +kernel
theorem dX5_isSummit_71 : decode cX5_isSummit 71 = .ok (.getfield 9, 3) := by decide +kernel
theorem dX5_isSummit_74 : decode cX5_isSummit 74 = .ok (.iload_n 1, 1) := by decide +kernel
theorem dX5_isSummit_75 : decode cX5_isSummit 75 = .ok (.iaload, 1) := by decide +kernel
theorem dX5_isSummit_76 : decode cX5_isSummit 76 = .ok (.if_icmp .gt 25, 3) := by decide +kernel
theorem dX5_isSummit_79 : decode cX5_isSummit 79 = .ok (.aload_n 0, 1) := by decide +kernel
theorem dX5_isSummit_80 : decode cX5_isSummit 80 = .ok (.getfield 9, 3) := by decide +kernel
theorem dX5_isSummit_83 : decode cX5_isSummit 83 = .ok (.iload 6, 2) := by decide +kernel
theorem dX5_isSummit_85 : decode cX5_isSummit 85 = .ok (.iaload, 1) := by decide +kernel
theorem dX5_isSummit_86 : decode cX5_isSummit 86 = .ok (.aload_n 0, 1) := by decide +kernel
theorem dX5_isSummit_87 : decode cX5_isSummit 87 = .ok (.getfield 9, 3) := by decide +kernel
theorem dX5_isSummit_90 : decode cX5_isSummit 90 = .ok (.iload_n 1, 1) := by decide +kernel
theorem dX5_isSummit_91 : decode cX5_isSummit 91 = .ok (.iaload, 1) := by decide +kernel
theorem dX5_isSummit_92 : decode cX5_isSummit 92 = .ok (.if_icmp .ne 11, 3) := by decide +kernel
theorem dX5_isSummit_95 : decode cX5_isSummit 95 = .ok (.iload 6, 2) := by decide +kernel
theorem dX5_isSummit_97 : decode cX5_isSummit 97 = .ok (.iload_n 1, 1) := by decide +kernel
theorem dX5_isSummit_98 : decode cX5_isSummit 98 = .ok (.if_icmp .ge 5, 3) := by decide +kernel
theorem dX5_isSummit_101 : decode cX5_isSummit 101 = .ok (.iconst 0, 1) := by decide +kernel
theorem dX5_isSummit_102 : decode cX5_isSummit 102 = .ok (.ireturn, 1) := by decide +kernel
theorem dX5_isSummit_103 : decode cX5_isSummit 103 = .ok (.iinc 5 1, 3) := by decide +kernel
theorem dX5_isSummit_106 : decode cX5_isSummit 106 = .ok (.goto (-66), 3) := by decide +kernel
theorem dX5_isSummit_109 : decode cX5_isSummit 109 = .ok (.iinc 4 1, 3) := by decide +kernel
theorem dX5_isSummit_112 : decode cX5_isSummit 112 = .ok (.goto (-93), 3) := by decide +kernel
theorem dX5_isSummit_115 : decode cX5_isSummit 115 = .ok (.iconst 1, 1) := by decide +kernel
theorem dX5_isSummit_116 : decode cX5_isSummit 116 = .ok (.ireturn, 1) := by decide +kernel
theorem dX5_placeOf_0 : decode cX5_placeOf 0 = .ok (.iload_n 1, 1) := by decide +kernel
theorem dX5_placeOf_1 : decode cX5_placeOf 1 = .ok (.bipush 8, 2) := by decide +kernel
theorem dX5_placeOf_3 : decode cX5_placeOf 3 = .ok (.irem, 1) := by decide +kernel
theorem dX5_placeOf_4 : decode cX5_placeOf 4 = .ok (.istore_n 3, 1) := by decide +kernel
theorem dX5_placeOf_5 : decode cX5_placeOf 5 = .ok (.iload_n 1, 1) := by decide +kernel
theorem dX5_placeOf_6 : decode cX5_placeOf 6 = .ok (.bipush 8, 2) := by decide +kernel
theorem dX5_placeOf_8 : decode cX5_placeOf 8 = .ok (.idiv, 1) := by decide +kernel
theorem dX5_placeOf_9 : decode cX5_placeOf 9 = .ok (.istore 4, 2) := by decide +kernel
theorem dX5_placeOf_11 : decode cX5_placeOf 11 = .ok (.lconst 0, 1) := by decide +kernel
theorem dX5_placeOf_12 : decode cX5_placeOf 12 = .ok (.lstore 5, 2) := by decide +kernel
theorem dX5_placeOf_14 : decode cX5_placeOf 14 = .ok (.lconst 0, 1) := by decide +kernel
theorem dX5_placeOf_15 : decode cX5_placeOf 15 = .ok (.lstore 7, 2) := by decide +kernel
theorem dX5_placeOf_17 : decode cX5_placeOf 17 = .ok (.iload 4, 2) := by decide +kernel
theorem dX5_placeOf_19 : decode cX5_placeOf 19 = .ok (.iconst 1, 1) := by decide +kernel
theorem dX5_placeOf_20 : decode cX5_placeOf 20 = .ok (.isub, 1) := by decide +kernel
theorem dX5_placeOf_21 : decode cX5_placeOf 21 = .ok (.iconst 0, 1) := by decide +kernel
theorem dX5_placeOf_22 : decode cX5_placeOf 22 = .ok (.invokestatic 69, 3) := by decide +kernel
theorem dX5_placeOf_25 : decode cX5_placeOf 25 = .ok (.istore 9, 2) := by decide +kernel
theorem dX5_placeOf_27 : decode cX5_placeOf 27 = .ok (.iload 9, 2) := by decide +kernel
theorem dX5_placeOf_29 : decode cX5_placeOf 29 = .ok (.iload 4, 2) := by decide +kernel
theorem dX5_placeOf_31 : decode cX5_placeOf 31 = .ok (.iconst 1, 1) := by decide +kernel
theorem dX5_placeOf_32 : decode cX5_placeOf 32 = .ok (.iadd, 1) := by decide +kernel
theorem dX5_placeOf_33 : decode cX5_placeOf 33 = .ok (.iconst 5, 1) := by decide +kernel
theorem dX5_placeOf_34 : decode cX5_placeOf 34 = .ok (.invokestatic 75, 3) := by decide +kernel
theorem dX5_placeOf_37 : decode cX5_placeOf 37 = .ok (.if_icmp .gt 88, 3) := by decide +kernel
theorem dX5_placeOf_40 : decode cX5_placeOf 40 = .ok (.iload_n 3, 1) := by decide +kernel
theorem dX5_placeOf_41 : decode cX5_placeOf 41 = .ok (.iconst 1, 1) := by decide +kernel
theorem dX5_placeOf_42 : decode cX5_placeOf 42 = .ok (.isub, 1) := by decide +kernel
theorem dX5_placeOf_43 : decode cX5_placeOf 43 = .ok (.iconst 0, 1) := by decide +kernel
theorem dX5_placeOf_44 : decode cX5_placeOf 44 = .ok (.invokestatic 69, 3) := by decide +kernel
theorem dX5_placeOf_47 : decode cX5_placeOf 47 = .ok (.istore 10, 2) := by decide +kernel
theorem dX5_placeOf_49 : decode cX5_placeOf 49 = .ok (.iload 10, 2) := by decide +kernel
theorem dX5_placeOf_51 : decode cX5_placeOf 51 = .ok (.iload_n 3, 1) := by decide +kernel
theorem dX5_placeOf_52 : decode cX5_placeOf 52 = .ok (.iconst 1, 1) := by decide +kernel
theorem dX5_placeOf_53 : decode cX5_placeOf 53 = .ok (.iadd, 1) := by decide +kernel
theorem dX5_placeOf_54 : decode cX5_placeOf 54 = .ok (.bipush 7, 2) := by decide +kernel
theorem dX5_placeOf_56 : decode cX5_placeOf 56 = .ok (.invokestatic 75, 3) := by decide +kernel
theorem dX5_placeOf_59 : decode cX5_placeOf 59 = .ok (.if_icmp .gt 60, 3) := by decide +kernel
theorem dX5_placeOf_62 : decode cX5_placeOf 62 = .ok (.aload_n 0, 1) := by decide +kernel
theorem dX5_placeOf_63 : decode cX5_placeOf 63 = .ok (.getfield 9, 3) := by decide +kernel
theorem dX5_placeOf_66 : decode cX5_placeOf 66 = .ok (.iload 9, 2) := by decide +kernel
theorem dX5_placeOf_68 : decode cX5_placeOf 68 = .ok (.bipush 8, 2) := by decide +kernel
theorem dX5_placeOf_70 : decode cX5_placeOf 70 = .ok (.imul, 1) := by decide +kernel
theorem dX5_placeOf_71 : decode cX5_placeOf 71 = .ok (.iload 10, 2) := by decide +kernel
theorem dX5_placeOf_73 : decode cX5_placeOf 73 = .ok (.iadd, 1) := by decide +kernel
theorem dX5_placeOf_74 : decode cX5_placeOf 74 = .ok (.iaload, 1) := by decide +kernel
theorem dX5_placeOf_75 : decode cX5_placeOf 75 = .ok (.iconst 0, 1) := by decide +kernel
theorem dX5_placeOf_76 : decode cX5_placeOf 76 = .ok (.invokestatic 69, 3) := by decide +kernel
theorem dX5_placeOf_79 : decode cX5_placeOf 79 = .ok (.i2l, 1) := by decide +kernel
theorem dX5_placeOf_80 : decode cX5_placeOf 80 = .ok (.lstore 11, 2) := by decide +kernel
theorem dX5_placeOf_82 : decode cX5_placeOf 82 = .ok (.lload 5, 2) := by decide +kernel
theorem dX5_placeOf_84 : decode cX5_placeOf 84 = .ok (.lload 11, 2) := by decide +kernel
theorem dX5_placeOf_86 : decode cX5_placeOf 86 = .ok (.ladd, 1) := by decide +kernel
theorem dX5_placeOf_87 : decode cX5_placeOf 87 = .ok (.lstore 5, 2) := by decide +kernel
theorem dX5_placeOf_89 : decode cX5_placeOf 89 = .ok (.lload 7, 2) := by decide +kernel
theorem dX5_placeOf_91 : decode cX5_placeOf 91 = .ok (.ldc2_w 78, 3) := by decide +kernel
theorem dX5_placeOf_94 : decode cX5_placeOf 94 = .ok (.lload 11, 2) := by decide +kernel
theorem dX5_placeOf_96 : decode cX5_placeOf 96 = .ok (.lmul, 1) := by decide +kernel
theorem dX5_placeOf_97 : decode cX5_placeOf 97 = .ok (.iload_n 2, 1) := by decide +kernel
theorem dX5_placeOf_98 : decode cX5_placeOf 98 = .ok (.ifCond .eq 8, 3) := by decide +kernel
theorem dX5_placeOf_101 : decode cX5_placeOf 101 = .ok (.iload 9, 2) := by decide +kernel
theorem dX5_placeOf_103 : decode cX5_placeOf 103 = .ok (.goto 5, 3) := by decide +kernel
theorem dX5_placeOf_106 : decode cX5_placeOf 106 = .ok (.iload 10, 2) := by decide +kernel
theorem dX5_placeOf_108 : decode cX5_placeOf 108 = .ok (.i2l, 1) := by decide +kernel
theorem dX5_placeOf_109 : decode cX5_placeOf 109 = .ok (.lmul, 1) := by decide +kernel
theorem dX5_placeOf_110 : decode cX5_placeOf 110 = .ok (.ladd, 1) := by decide +kernel
theorem dX5_placeOf_111 : decode cX5_placeOf 111 = .ok (.lstore 7, 2) := by decide +kernel
theorem dX5_placeOf_113 : decode cX5_placeOf 113 = .ok (.iinc 10 1, 3) := by decide +kernel
theorem dX5_placeOf_116 : decode cX5_placeOf 116 = .ok (.goto (-67), 3) := by decide +kernel
theorem dX5_placeOf_119 : decode cX5_placeOf 119 = .ok (.iinc 9 1, 3) := by decide +kernel
theorem dX5_placeOf_122 : decode cX5_placeOf 122 = .ok (.goto (-95), 3) := by decide +kernel
theorem dX5_placeOf_125 : decode cX5_placeOf 125 = .ok (.lload 5, 2) := by decide +kernel
theorem dX5_placeOf_127 : decode cX5_placeOf 127 = .ok (.lconst 0, 1) := by decide +kernel
theorem dX5_placeOf_128 : decode cX5_placeOf 128 = .ok (.lcmp, 1) := by decide +kernel
theorem dX5_placeOf_129 : decode cX5_placeOf 129 = .ok (.ifCond .le 19, 3) := by decide +kernel
theorem dX5_placeOf_132 : decode cX5_placeOf 132 = .ok (.lload 7, 2) := by decide +kernel
theorem dX5_placeOf_134 : decode cX5_placeOf 134 = .ok (.lload 5, 2) := by decide +kernel
theorem dX5_placeOf_136 : decode cX5_placeOf 136 = .ok (.ladd, 1) := by decide +kernel
theorem dX5_placeOf_137 : decode cX5_placeOf 137 = .ok (.ldc2_w 80, 3) := by decide +kernel
theorem dX5_placeOf_140 : decode cX5_placeOf 140 = .ok (.lload 5, 2) := by decide +kernel
theorem dX5_placeOf_142 : decode cX5_placeOf 142 = .ok (.lmul, 1) := by decide +kernel
theorem dX5_placeOf_143 : decode cX5_placeOf 143 = .ok (.ldiv, 1) := by decide +kernel
theorem dX5_placeOf_144 : decode cX5_placeOf 144 = .ok (.l2i, 1) := by decide +kernel
theorem dX5_placeOf_145 : decode cX5_placeOf 145 = .ok (.goto 4, 3) := by decide +kernel
theorem dX5_placeOf_148 : decode cX5_placeOf 148 = .ok (.iconst 0, 1) := by decide +kernel
theorem dX5_placeOf_149 : decode cX5_placeOf 149 = .ok (.ireturn, 1) := by decide +kernel
theorem dX5_humNow_0 : decode cX5_humNow 0 = .ok (.lconst 0, 1) := by decide +kernel
theorem dX5_humNow_1 : decode cX5_humNow 1 = .ok (.lstore_n 1, 1) := by decide +kernel
theorem dX5_humNow_2 : decode cX5_humNow 2 = .ok (.iconst 0, 1) := by decide +kernel
theorem dX5_humNow_3 : decode cX5_humNow 3 = .ok (.istore_n 3, 1) := by decide +kernel
theorem dX5_humNow_4 : decode cX5_humNow 4 = .ok (.iconst 0, 1) := by decide +kernel
theorem dX5_humNow_5 : decode cX5_humNow 5 = .ok (.istore 4, 2) := by decide +kernel
theorem dX5_humNow_7 : decode cX5_humNow 7 = .ok (.iload 4, 2) := by decide +kernel
theorem dX5_humNow_9 : decode cX5_humNow 9 = .ok (.bipush 48, 2) := by decide +kernel
theorem dX5_humNow_11 : decode cX5_humNow 11 = .ok (.if_icmp .ge 35, 3) := by decide +kernel
theorem dX5_humNow_14 : decode cX5_humNow 14 = .ok (.aload_n 0, 1) := by decide +kernel
theorem dX5_humNow_15 : decode cX5_humNow 15 = .ok (.iload 4, 2) := by decide +kernel
theorem dX5_humNow_17 : decode cX5_humNow 17 = .ok (.invokevirtual 36, 3) := by decide +kernel
theorem dX5_humNow_20 : decode cX5_humNow 20 = .ok (.ifCond .ne 20, 3) := by decide +kernel
theorem dX5_humNow_23 : decode cX5_humNow 23 = .ok (.lload_n 1, 1) := by decide +kernel
theorem dX5_humNow_24 : decode cX5_humNow 24 = .ok (.aload_n 0, 1) := by decide +kernel
theorem dX5_humNow_25 : decode cX5_humNow 25 = .ok (.getfield 9, 3) := by decide +kernel
theorem dX5_humNow_28 : decode cX5_humNow 28 = .ok (.iload 4, 2) := by decide +kernel
theorem dX5_humNow_30 : decode cX5_humNow 30 = .ok (.iaload, 1) := by decide +kernel
theorem dX5_humNow_31 : decode cX5_humNow 31 = .ok (.i2l, 1) := by decide +kernel
theorem dX5_humNow_32 : decode cX5_humNow 32 = .ok (.invokestatic 82, 3) := by decide +kernel
theorem dX5_humNow_35 : decode cX5_humNow 35 = .ok (.ladd, 1) := by decide +kernel
theorem dX5_humNow_36 : decode cX5_humNow 36 = .ok (.lstore_n 1, 1) := by decide +kernel
theorem dX5_humNow_37 : decode cX5_humNow 37 = .ok (.iinc 3 1, 3) := by decide +kernel
theorem dX5_humNow_40 : decode cX5_humNow 40 = .ok (.iinc 4 1, 3) := by decide +kernel
theorem dX5_humNow_43 : decode cX5_humNow 43 = .ok (.goto (-36), 3) := by decide +kernel
theorem dX5_humNow_46 : decode cX5_humNow 46 = .ok (.iload_n 3, 1) := by decide +kernel
theorem dX5_humNow_47 : decode cX5_humNow 47 = .ok (.ifCond .le 11, 3) := by decide +kernel
theorem dX5_humNow_50 : decode cX5_humNow 50 = .ok (.lload_n 1, 1) := by decide +kernel
theorem dX5_humNow_51 : decode cX5_humNow 51 = .ok (.iload_n 3, 1) := by decide +kernel
theorem dX5_humNow_52 : decode cX5_humNow 52 = .ok (.i2l, 1) := by decide +kernel
theorem dX5_humNow_53 : decode cX5_humNow 53 = .ok (.ldiv, 1) := by decide +kernel
theorem dX5_humNow_54 : decode cX5_humNow 54 = .ok (.l2i, 1) := by decide +kernel
theorem dX5_humNow_55 : decode cX5_humNow 55 = .ok (.goto 4, 3) := by decide +kernel
theorem dX5_humNow_58 : decode cX5_humNow 58 = .ok (.iconst 0, 1) := by decide +kernel
theorem dX5_humNow_59 : decode cX5_humNow 59 = .ok (.ireturn, 1) := by decide +kernel
theorem dX5_isCalm_0 : decode cX5_isCalm 0 = .ok (.iconst 0, 1) := by decide +kernel
theorem dX5_isCalm_1 : decode cX5_isCalm 1 = .ok (.istore_n 1, 1) := by decide +kernel
theorem dX5_isCalm_2 : decode cX5_isCalm 2 = .ok (.iload_n 1, 1) := by decide +kernel
theorem dX5_isCalm_3 : decode cX5_isCalm 3 = .ok (.bipush 48, 2) := by decide +kernel
theorem dX5_isCalm_5 : decode cX5_isCalm 5 = .ok (.if_icmp .ge 20, 3) := by decide +kernel
theorem dX5_isCalm_8 : decode cX5_isCalm 8 = .ok (.aload_n 0, 1) := by decide +kernel
theorem dX5_isCalm_9 : decode cX5_isCalm 9 = .ok (.getfield 9, 3) := by decide +kernel
theorem dX5_isCalm_12 : decode cX5_isCalm 12 = .ok (.iload_n 1, 1) := by decide +kernel
theorem dX5_isCalm_13 : decode cX5_isCalm 13 = .ok (.iaload, 1) := by decide +kernel
theorem dX5_isCalm_14 : decode cX5_isCalm 14 = .ok (.ifCond .eq 5, 3) := by decide +kernel
theorem dX5_isCalm_17 : decode cX5_isCalm 17 = .ok (.iconst 0, 1) := by decide +kernel
theorem dX5_isCalm_18 : decode cX5_isCalm 18 = .ok (.ireturn, 1) := by decide +kernel
theorem dX5_isCalm_19 : decode cX5_isCalm 19 = .ok (.iinc 1 1, 3) := by decide +kernel
theorem dX5_isCalm_22 : decode cX5_isCalm 22 = .ok (.goto (-20), 3) := by decide +kernel
theorem dX5_isCalm_25 : decode cX5_isCalm 25 = .ok (.iconst 1, 1) := by decide +kernel
theorem dX5_isCalm_26 : decode cX5_isCalm 26 = .ok (.ireturn, 1) := by decide +kernel
theorem dX5_sizeOf_0 : decode cX5_sizeOf 0 = .ok (.aload_n 0, 1) := by decide +kernel
theorem dX5_sizeOf_1 : decode cX5_sizeOf 1 = .ok (.getfield 15, 3) := by decide +kernel
theorem dX5_sizeOf_4 : decode cX5_sizeOf 4 = .ok (.aload_n 0, 1) := by decide +kernel
theorem dX5_sizeOf_5 : decode cX5_sizeOf 5 = .ok (.getfield 18, 3) := by decide +kernel
theorem dX5_sizeOf_8 : decode cX5_sizeOf 8 = .ok (.iload_n 1, 1) := by decide +kernel
theorem dX5_sizeOf_9 : decode cX5_sizeOf 9 = .ok (.iaload, 1) := by decide +kernel
theorem dX5_sizeOf_10 : decode cX5_sizeOf 10 = .ok (.iaload, 1) := by decide +kernel
theorem dX5_sizeOf_11 : decode cX5_sizeOf 11 = .ok (.ireturn, 1) := by decide +kernel
theorem dX5_isPalm_0 : decode cX5_isPalm 0 = .ok (.aload_n 0, 1) := by decide +kernel
theorem dX5_isPalm_1 : decode cX5_isPalm 1 = .ok (.iload_n 1, 1) := by decide +kernel
theorem dX5_isPalm_2 : decode cX5_isPalm 2 = .ok (.invokevirtual 86, 3) := by decide +kernel
theorem dX5_isPalm_5 : decode cX5_isPalm 5 = .ok (.bipush 14, 2) := by decide +kernel
theorem dX5_isPalm_7 : decode cX5_isPalm 7 = .ok (.if_icmp .le 7, 3) := by decide +kernel
theorem dX5_isPalm_10 : decode cX5_isPalm 10 = .ok (.iconst 1, 1) := by decide +kernel
theorem dX5_isPalm_11 : decode cX5_isPalm 11 = .ok (.goto 4, 3) := by decide +kernel
theorem dX5_isPalm_14 : decode cX5_isPalm 14 = .ok (.iconst 0, 1) := by decide +kernel
theorem dX5_isPalm_15 : decode cX5_isPalm 15 = .ok (.ireturn, 1) := by decide +kernel
theorem dX5_countPalms_0 : decode cX5_countPalms 0 = .ok (.iconst 0, 1) := by decide +kernel
theorem dX5_countPalms_1 : decode cX5_countPalms 1 = .ok (.istore_n 1, 1) := by decide +kernel
theorem dX5_countPalms_2 : decode cX5_countPalms 2 = .ok (.iconst 0, 1) := by decide +kernel
theorem dX5_countPalms_3 : decode cX5_countPalms 3 = .ok (.istore_n 2, 1) := by decide +kernel
theorem dX5_countPalms_4 : decode cX5_countPalms 4 = .ok (.iload_n 2, 1) := by decide +kernel
theorem dX5_countPalms_5 : decode cX5_countPalms 5 = .ok (.aload_n 0, 1) := by decide +kernel
theorem dX5_countPalms_6 : decode cX5_countPalms 6 = .ok (.getfield 59, 3) := by decide +kernel
theorem dX5_countPalms_9 : decode cX5_countPalms 9 = .ok (.if_icmp .ge 25, 3) := by decide +kernel
theorem dX5_countPalms_12 : decode cX5_countPalms 12 = .ok (.iload_n 1, 1) := by decide +kernel
theorem dX5_countPalms_13 : decode cX5_countPalms 13 = .ok (.aload_n 0, 1) := by decide +kernel
theorem dX5_countPalms_14 : decode cX5_countPalms 14 = .ok (.iload_n 2, 1) := by decide +kernel
theorem dX5_countPalms_15 : decode cX5_countPalms 15 = .ok (.invokevirtual 89, 3) := by decide +kernel
theorem dX5_countPalms_18 : decode cX5_countPalms 18 = .ok (.ifCond .eq 7, 3) := by decide +kernel
theorem dX5_countPalms_21 : decode cX5_countPalms 21 = .ok (.iconst 1, 1) := by decide +kernel
theorem dX5_countPalms_22 : decode cX5_countPalms 22 = .ok (.goto 4, 3) := by decide +kernel
theorem dX5_countPalms_25 : decode cX5_countPalms 25 = .ok (.iconst 0, 1) := by decide +kernel
theorem dX5_countPalms_26 : decode cX5_countPalms 26 = .ok (.iadd, 1) := by decide +kernel
theorem dX5_countPalms_27 : decode cX5_countPalms 27 = .ok (.istore_n 1, 1) := by decide +kernel
theorem dX5_countPalms_28 : decode cX5_countPalms 28 = .ok (.iinc 2 1, 3) := by decide +kernel
theorem dX5_countPalms_31 : decode cX5_countPalms 31 = .ok (.goto (-27), 3) := by decide +kernel
theorem dX5_countPalms_34 : decode cX5_countPalms 34 = .ok (.iload_n 1, 1) := by decide +kernel
theorem dX5_countPalms_35 : decode cX5_countPalms 35 = .ok (.ireturn, 1) := by decide +kernel
theorem dX5_peakAt_0 : decode cX5_peakAt 0 = .ok (.iconst 0, 1) := by decide +kernel
theorem dX5_peakAt_1 : decode cX5_peakAt 1 = .ok (.istore_n 2, 1) := by decide +kernel
theorem dX5_peakAt_2 : decode cX5_peakAt 2 = .ok (.iload_n 2, 1) := by decide +kernel
theorem dX5_peakAt_3 : decode cX5_peakAt 3 = .ok (.aload_n 0, 1) := by decide +kernel
theorem dX5_peakAt_4 : decode cX5_peakAt 4 = .ok (.getfield 59, 3) := by decide +kernel
theorem dX5_peakAt_7 : decode cX5_peakAt 7 = .ok (.if_icmp .ge 21, 3) := by decide +kernel
theorem dX5_peakAt_10 : decode cX5_peakAt 10 = .ok (.aload_n 0, 1) := by decide +kernel
theorem dX5_peakAt_11 : decode cX5_peakAt 11 = .ok (.getfield 18, 3) := by decide +kernel
theorem dX5_peakAt_14 : decode cX5_peakAt 14 = .ok (.iload_n 2, 1) := by decide +kernel
theorem dX5_peakAt_15 : decode cX5_peakAt 15 = .ok (.iaload, 1) := by decide +kernel
theorem dX5_peakAt_16 : decode cX5_peakAt 16 = .ok (.iload_n 1, 1) := by decide +kernel
theorem dX5_peakAt_17 : decode cX5_peakAt 17 = .ok (.if_icmp .ne 5, 3) := by decide +kernel
theorem dX5_peakAt_20 : decode cX5_peakAt 20 = .ok (.iload_n 2, 1) := by decide +kernel
theorem dX5_peakAt_21 : decode cX5_peakAt 21 = .ok (.ireturn, 1) := by decide +kernel
theorem dX5_peakAt_22 : decode cX5_peakAt 22 = .ok (.iinc 2 1, 3) := by decide +kernel
theorem dX5_peakAt_25 : decode cX5_peakAt 25 = .ok (.goto (-23), 3) := by decide +kernel
theorem dX5_peakAt_28 : decode cX5_peakAt 28 = .ok (.iconst (-1), 1) := by decide +kernel
theorem dX5_peakAt_29 : decode cX5_peakAt 29 = .ok (.ireturn, 1) := by decide +kernel
theorem dX5_signalOfRow_0 : decode cX5_signalOfRow 0 = .ok (.iconst 0, 1) := by decide +kernel
theorem dX5_signalOfRow_1 : decode cX5_signalOfRow 1 = .ok (.istore_n 2, 1) := by decide +kernel
theorem dX5_signalOfRow_2 : decode cX5_signalOfRow 2 = .ok (.iconst 0, 1) := by decide +kernel
theorem dX5_signalOfRow_3 : decode cX5_signalOfRow 3 = .ok (.istore_n 3, 1) := by decide +kernel
theorem dX5_signalOfRow_4 : decode cX5_signalOfRow 4 = .ok (.iload_n 3, 1) := by decide +kernel
theorem dX5_signalOfRow_5 : decode cX5_signalOfRow 5 = .ok (.bipush 8, 2) := by decide +kernel
theorem dX5_signalOfRow_7 : decode cX5_signalOfRow 7 = .ok (.if_icmp .ge 23, 3) := by decide +kernel
theorem dX5_signalOfRow_10 : decode cX5_signalOfRow 10 = .ok (.iload_n 2, 1) := by decide +kernel
theorem dX5_signalOfRow_11 : decode cX5_signalOfRow 11 = .ok (.aload_n 0, 1) := by decide +kernel
theorem dX5_signalOfRow_12 : decode cX5_signalOfRow 12 = .ok (.getfield 9, 3) := by decide +kernel
theorem dX5_signalOfRow_15 : decode cX5_signalOfRow 15 = .ok (.iload_n 1, 1) := by decide +kernel
theorem dX5_signalOfRow_16 : decode cX5_signalOfRow 16 = .ok (.bipush 8, 2) := by decide +kernel
theorem dX5_signalOfRow_18 : decode cX5_signalOfRow 18 = .ok (.imul, 1) := by decide +kernel
theorem dX5_signalOfRow_19 : decode cX5_signalOfRow 19 = .ok (.iload_n 3, 1) := by decide +kernel
theorem dX5_signalOfRow_20 : decode cX5_signalOfRow 20 = .ok (.iadd, 1) := by decide +kernel
theorem dX5_signalOfRow_21 : decode cX5_signalOfRow 21 = .ok (.iaload, 1) := by decide +kernel
theorem dX5_signalOfRow_22 : decode cX5_signalOfRow 22 = .ok (.iadd, 1) := by decide +kernel
theorem dX5_signalOfRow_23 : decode cX5_signalOfRow 23 = .ok (.istore_n 2, 1) := by decide +kernel
theorem dX5_signalOfRow_24 : decode cX5_signalOfRow 24 = .ok (.iinc 3 1, 3) := by decide +kernel
theorem dX5_signalOfRow_27 : decode cX5_signalOfRow 27 = .ok (.goto (-23), 3) := by decide +kernel
theorem dX5_signalOfRow_30 : decode cX5_signalOfRow 30 = .ok (.iload_n 2, 1) := by decide +kernel
theorem dX5_signalOfRow_31 : decode cX5_signalOfRow 31 = .ok (.ireturn, 1) := by decide +kernel
theorem dX5_touchedInRow_0 : decode cX5_touchedInRow 0 = .ok (.iconst 0, 1) := by decide +kernel
theorem dX5_touchedInRow_1 : decode cX5_touchedInRow 1 = .ok (.istore_n 2, 1) := by decide +kernel
theorem dX5_touchedInRow_2 : decode cX5_touchedInRow 2 = .ok (.iconst 0, 1) := by decide +kernel
theorem dX5_touchedInRow_3 : decode cX5_touchedInRow 3 = .ok (.istore_n 3, 1) := by decide +kernel
theorem dX5_touchedInRow_4 : decode cX5_touchedInRow 4 = .ok (.iload_n 3, 1) := by decide +kernel
theorem dX5_touchedInRow_5 : decode cX5_touchedInRow 5 = .ok (.bipush 8, 2) := by decide +kernel
theorem dX5_touchedInRow_7 : decode cX5_touchedInRow 7 = .ok (.if_icmp .ge 30, 3) := by decide +kernel
theorem dX5_touchedInRow_10 : decode cX5_touchedInRow 10 = .ok (.iload_n 2, 1) := by decide +kernel
theorem dX5_touchedInRow_11 : decode cX5_touchedInRow 11 = .ok (.aload_n 0, 1) := by decide +kernel
theorem dX5_touchedInRow_12 : decode cX5_touchedInRow 12 = .ok (.iload_n 1, 1) := by decide +kernel
theorem dX5_touchedInRow_13 : decode cX5_touchedInRow 13 = .ok (.bipush 8, 2) := by decide +kernel
theorem dX5_touchedInRow_15 : decode cX5_touchedInRow 15 = .ok (.imul, 1) := by decide +kernel
theorem dX5_touchedInRow_16 : decode cX5_touchedInRow 16 = .ok (.iload_n 3, 1) := by decide +kernel
theorem dX5_touchedInRow_17 : decode cX5_touchedInRow 17 = .ok (.iadd, 1) := by decide +kernel
theorem dX5_touchedInRow_18 : decode cX5_touchedInRow 18 = .ok (.invokevirtual 36, 3) := by decide +kernel
theorem dX5_touchedInRow_21 : decode cX5_touchedInRow 21 = .ok (.ifCond .eq 7, 3) := by decide +kernel
theorem dX5_touchedInRow_24 : decode cX5_touchedInRow 24 = .ok (.iconst 1, 1) := by decide +kernel
theorem dX5_touchedInRow_25 : decode cX5_touchedInRow 25 = .ok (.goto 4, 3) := by decide +kernel
theorem dX5_touchedInRow_28 : decode cX5_touchedInRow 28 = .ok (.iconst 0, 1) := by decide +kernel
theorem dX5_touchedInRow_29 : decode cX5_touchedInRow 29 = .ok (.iadd, 1) := by decide +kernel
theorem dX5_touchedInRow_30 : decode cX5_touchedInRow 30 = .ok (.istore_n 2, 1) := by decide +kernel
theorem dX5_touchedInRow_31 : decode cX5_touchedInRow 31 = .ok (.iinc 3 1, 3) := by decide +kernel
theorem dX5_touchedInRow_34 : decode cX5_touchedInRow 34 = .ok (.goto (-30), 3) := by decide +kernel
theorem dX5_touchedInRow_37 : decode cX5_touchedInRow 37 = .ok (.iload_n 2, 1) := by decide +kernel
theorem dX5_touchedInRow_38 : decode cX5_touchedInRow 38 = .ok (.ireturn, 1) := by decide +kernel
theorem dX5_peaksInRow_0 : decode cX5_peaksInRow 0 = .ok (.iconst 0, 1) := by decide +kernel
theorem dX5_peaksInRow_1 : decode cX5_peaksInRow 1 = .ok (.istore_n 2, 1) := by decide +kernel
theorem dX5_peaksInRow_2 : decode cX5_peaksInRow 2 = .ok (.iconst 0, 1) := by decide +kernel
theorem dX5_peaksInRow_3 : decode cX5_peaksInRow 3 = .ok (.istore_n 3, 1) := by decide +kernel
theorem dX5_peaksInRow_4 : decode cX5_peaksInRow 4 = .ok (.iload_n 3, 1) := by decide +kernel
theorem dX5_peaksInRow_5 : decode cX5_peaksInRow 5 = .ok (.aload_n 0, 1) := by decide +kernel
theorem dX5_peaksInRow_6 : decode cX5_peaksInRow 6 = .ok (.getfield 59, 3) := by decide +kernel
theorem dX5_peaksInRow_9 : decode cX5_peaksInRow 9 = .ok (.if_icmp .ge 30, 3) := by decide +kernel
theorem dX5_peaksInRow_12 : decode cX5_peaksInRow 12 = .ok (.iload_n 2, 1) := by decide +kernel
theorem dX5_peaksInRow_13 : decode cX5_peaksInRow 13 = .ok (.aload_n 0, 1) := by decide +kernel
theorem dX5_peaksInRow_14 : decode cX5_peaksInRow 14 = .ok (.getfield 18, 3) := by decide +kernel
theorem dX5_peaksInRow_17 : decode cX5_peaksInRow 17 = .ok (.iload_n 3, 1) := by decide +kernel
theorem dX5_peaksInRow_18 : decode cX5_peaksInRow 18 = .ok (.iaload, 1) := by decide +kernel
theorem dX5_peaksInRow_19 : decode cX5_peaksInRow 19 = .ok (.bipush 8, 2) := by decide +kernel
theorem dX5_peaksInRow_21 : decode cX5_peaksInRow 21 = .ok (.idiv, 1) := by decide +kernel
theorem dX5_peaksInRow_22 : decode cX5_peaksInRow 22 = .ok (.iload_n 1, 1) := by decide +kernel
theorem dX5_peaksInRow_23 : decode cX5_peaksInRow 23 = .ok (.if_icmp .ne 7, 3) := by decide +kernel
theorem dX5_peaksInRow_26 : decode cX5_peaksInRow 26 = .ok (.iconst 1, 1) := by decide +kernel
theorem dX5_peaksInRow_27 : decode cX5_peaksInRow 27 = .ok (.goto 4, 3) := by decide +kernel
theorem dX5_peaksInRow_30 : decode cX5_peaksInRow 30 = .ok (.iconst 0, 1) := by decide +kernel
theorem dX5_peaksInRow_31 : decode cX5_peaksInRow 31 = .ok (.iadd, 1) := by decide +kernel
theorem dX5_peaksInRow_32 : decode cX5_peaksInRow 32 = .ok (.istore_n 2, 1) := by decide +kernel
theorem dX5_peaksInRow_33 : decode cX5_peaksInRow 33 = .ok (.iinc 3 1, 3) := by decide +kernel
theorem dX5_peaksInRow_36 : decode cX5_peaksInRow 36 = .ok (.goto (-32), 3) := by decide +kernel
theorem dX5_peaksInRow_39 : decode cX5_peaksInRow 39 = .ok (.iload_n 2, 1) := by decide +kernel
theorem dX5_peaksInRow_40 : decode cX5_peaksInRow 40 = .ok (.ireturn, 1) := by decide +kernel
section Picture
variable {i n : Nat} {f : Nat → am_C} {sig reg pc px py chn : Nat → Int32} {pk hm : Int32}
theorem s_isTouched {c : Nat} (h : m_Pic f i sig reg pc px py chn pk hm) (hc : c < 48) : AM mX5_isTouched 0 0 [.ref i, .int (nI c)] n f (am_is (some (.int (m_tc sig c))) n f) := by
  obtain ⟨h0, h1, h2, h3, h4, h5, h6⟩ := h
  show AW mX5_isTouched 0 0 0 [some (.ref i), some (.int (nI c))] [] n f _
  refine am_aload_n 0 dX5_isTouched_0 rfl ?_
  refine am_getfield 1 dX5_isTouched_1 fX5_9 (by repeat (first | assumption | exact am_ue | refine am_un (by first | assumption | decide | omega) ?_)) rfl ?_
  refine am_iload_n 4 dX5_isTouched_4 rfl ?_
  refine am_iaload 5 dX5_isTouched_5 rfl (by repeat (first | assumption | exact am_ue | refine am_un (by first | assumption | decide | omega) ?_)) (by first | assumption | exact vp_in_nI (by omega) (by decide)) ?_
  rw [nI_clamp (n := c) (by omega)]
  refine am_bipush 6 (v := 20) dX5_isTouched_6 (by decide) ?_
  refine am_icmp_lt 8 15 dX5_isTouched_8 rfl (fun c8 => ?_) (fun c8 => ?_)
  · refine am_iconst 15 (v := 0) dX5_isTouched_15 (by decide) ?_
    refine am_ireturn 16 dX5_isTouched_16 rfl rfl ?_
    exact ⟨by simp [m_tc, *], rfl, rfl⟩
  · refine am_iconst 11 (v := 1) dX5_isTouched_11 (by decide) ?_
    refine am_goto 12 (tgt := 16) dX5_isTouched_12 rfl ?_
    refine am_ireturn 16 dX5_isTouched_16 rfl rfl ?_
    exact ⟨by simp [m_tc, *], rfl, rfl⟩
theorem s_link {x y : Int32} {c : Option Nat} {q : List Nat} (h : m_Pic f i sig reg pc px py chn pk hm) (hx : m_at x y c) (hq : q.length ≤ 48) (hch : m_chn chn q) : AM mX5_link 0 0 [.ref i, .int x, .int y, .int (nI q.length)] n f
    (fun o n' f' => ∃ chn', o = .inl (some (.int (nI (m_tryO sig c (reg, q)).2.length))) ∧ n = n' ∧ f' = va_up (va_up f (i + 2) (.inl (0, 48, .inl (m_tryO sig c (reg, q)).1))) (i + 6) (.inl (0, 48, .inl chn')) ∧ m_chn chn' (m_tryO sig c (reg, q)).2) := by
  have hp := h
  obtain ⟨h0, h1, h2, h3, h4, h5, h6⟩ := h
  show AW mX5_link 0 0 0 [some (.ref i), some (.int x), some (.int y), some (.int (nI q.length)), none] [] n f _
  have hsame : m_tryO sig c (reg, q) = (reg, q) → ∃ chn', (Sum.inl (some (Value.int (nI q.length))) : Option Value ⊕ Nat) = .inl (some (.int (nI (m_tryO sig c (reg, q)).2.length))) ∧ n = n ∧ f = va_up (va_up f (i + 2) (.inl (0, 48, .inl (m_tryO sig c (reg, q)).1))) (i + 6) (.inl (0, 48, .inl chn')) ∧ m_chn chn' (m_tryO sig c (reg, q)).2 := by
    intro e
    rw [e]
    refine ⟨chn, rfl, rfl, ?_, hch⟩
    rw [am_self h2, am_self h6]
  rcases hx with ⟨a, b, ha, hb, rfl, rfl, rfl⟩ | ⟨rfl, hx⟩
  · have e1 : nI b * 8 + nI a = nI (8 * b + a) := am_cellN b a
    refine am_iload_n 0 dX5_link_0 rfl ?_
    refine am_if_lt 1 26 dX5_link_1 rfl (fun c1 => absurd c1 (nI_pos (by omega))) (fun c1 => ?_)
    refine am_iload_n 4 dX5_link_4 rfl ?_
    refine am_bipush 5 (v := 8) dX5_link_5 (by decide) ?_
    refine am_icmp_ge 7 26 dX5_link_7 rfl (fun c7 => absurd c7 (nI_ge (by omega) (by decide))) (fun c7 => ?_)
    refine am_iload_n 10 dX5_link_10 rfl ?_
    refine am_if_lt 11 26 dX5_link_11 rfl (fun c11 => absurd c11 (nI_pos (by omega))) (fun c11 => ?_)
    refine am_iload_n 14 dX5_link_14 rfl ?_
    refine am_bipush 15 (v := 6) dX5_link_15 (by decide) ?_
    refine am_icmp_ge 17 26 dX5_link_17 rfl (fun c17 => absurd c17 (nI_ge (by omega) (by decide))) (fun c17 => ?_)
    refine am_iload_n 20 dX5_link_20 rfl ?_
    refine am_bipush 21 (v := 48) dX5_link_21 (by decide) ?_
    refine am_icmp_lt 23 28 dX5_link_23 rfl (fun c23 => ?_) (fun c23 => ?_)
    · refine am_iload_n 28 dX5_link_28 rfl ?_
      refine am_bipush 29 (v := 8) dX5_link_29 (by decide) ?_
      refine am_imul 31 dX5_link_31 ?_
      refine am_iload_n 32 dX5_link_32 rfl ?_
      refine am_iadd 33 dX5_link_33 ?_
      rw [e1]
      refine am_istore 34 dX5_link_34 (by decide) ?_
      refine am_aload_n 36 dX5_link_36 rfl ?_
      refine am_iload 37 dX5_link_37 rfl ?_
      refine am_V1 39 (mc' := 0) (ms' := 0) (rc := 0) (rs := 0) dX5_link_39 lX5_36 ⟨by decide, by decide⟩ (by repeat (first | assumption | exact am_ue | refine am_un (by first | assumption | decide | omega) ?_)) (Nat.le_of_ble_eq_true rfl) (Nat.le_of_ble_eq_true rfl) (s_isTouched hp (by omega)) ?_
      refine am_is_ct ?_
      refine am_if_eq 42 55 dX5_link_42 rfl (fun c42 => ?_) (fun c42 => ?_)
      · have c20 : ¬ 20 ≤ sig (8 * b + a) := by
          intro z
          unfold m_tc at c42
          rw [if_neg (Int32.not_lt.mpr z)] at c42
          exact absurd c42 (by decide)
        refine am_iload_n 55 dX5_link_55 rfl ?_
        refine am_ireturn 56 dX5_link_56 rfl rfl ?_
        exact hsame (by show m_try sig (8 * b + a) (reg, q) = _; unfold m_try; rw [if_neg (fun z => by first | exact c20 z.2.1 | exact c52 z.2.2)])
      · have c20 : 20 ≤ sig (8 * b + a) := by
          apply Int32.not_lt.mp
          intro z
          unfold m_tc at c42
          rw [if_pos z] at c42
          exact c42 rfl
        refine am_aload_n 45 dX5_link_45 rfl ?_
        refine am_getfield 46 dX5_link_46 fX5_15 (by repeat (first | assumption | exact am_ue | refine am_un (by first | assumption | decide | omega) ?_)) rfl ?_
        refine am_iload 49 dX5_link_49 rfl ?_
        refine am_iaload 51 dX5_link_51 rfl (by repeat (first | assumption | exact am_ue | refine am_un (by first | assumption | decide | omega) ?_)) (am_ix (by omega) (by decide)) ?_
        rw [nI_clamp (n := 8 * b + a) (by omega)]
        refine am_if_eq 52 57 dX5_link_52 rfl (fun c52 => ?_) (fun c52 => ?_)
        · refine am_aload_n 57 dX5_link_57 rfl ?_
          refine am_getfield 58 dX5_link_58 fX5_15 (by repeat (first | assumption | exact am_ue | refine am_un (by first | assumption | decide | omega) ?_)) rfl ?_
          refine am_iload 61 dX5_link_61 rfl ?_
          refine am_iconst 63 (v := 1) dX5_link_63 (by decide) ?_
          refine am_iastore 64 dX5_link_64 rfl (by repeat (first | assumption | exact am_ue | refine am_un (by first | assumption | decide | omega) ?_)) (am_ix (by omega) (by decide)) ?_
          rw [nI_clamp (n := 8 * b + a) (by omega)]
          refine am_aload_n 65 dX5_link_65 rfl ?_
          refine am_getfield 66 dX5_link_66 fX5_27 (by repeat (first | assumption | exact am_ue | refine am_un (by first | assumption | decide | omega) ?_)) rfl ?_
          refine am_iload_n 69 dX5_link_69 rfl ?_
          refine am_iload 70 dX5_link_70 rfl ?_
          refine am_iastore 72 dX5_link_72 rfl (by repeat (first | assumption | exact am_ue | refine am_un (by first | assumption | decide | omega) ?_)) (am_ix (am_ltN 48 c23 (by decide) (by omega)) (by decide)) ?_
          rw [nI_clamp (n := q.length) (by omega)]
          refine am_iload_n 73 dX5_link_73 rfl ?_
          refine am_iconst 74 (v := 1) dX5_link_74 (by decide) ?_
          refine am_iadd 75 dX5_link_75 ?_
          refine am_ireturn 76 dX5_link_76 rfl rfl ?_
          have e9 : m_tryO sig (some (8 * b + a)) (reg, q) = (va_up reg (8 * b + a) 1, q ++ [8 * b + a]) := by
            show m_try sig (8 * b + a) (reg, q) = _
            unfold m_try
            have hl : q.length < 48 := am_ltN 48 c23 (by decide) (by omega)
            rw [if_pos ⟨hl, c20, c52⟩]
          refine ⟨va_up chn q.length (nI (8 * b + a)), ?_, rfl, ?_, ?_⟩
          · rw [e9, nI_1]; simp
          · rw [e9]
          · rw [e9]; exact m_chn_push hch
        · refine am_iload_n 55 dX5_link_55 rfl ?_
          refine am_ireturn 56 dX5_link_56 rfl rfl ?_
          exact hsame (by show m_try sig (8 * b + a) (reg, q) = _; unfold m_try; rw [if_neg (fun z => by first | exact c20 z.2.1 | exact c52 z.2.2)])
    · refine am_iload_n 26 dX5_link_26 rfl ?_
      refine am_ireturn 27 dX5_link_27 rfl rfl ?_
      exact hsame (by show m_try sig (8 * b + a) (reg, q) = _; unfold m_try; rw [if_neg (fun z => c23 (nI_lt z.1 (by decide)))])
  · have e9 : m_tryO sig none (reg, q) = (reg, q) := rfl
    refine am_iload_n 0 dX5_link_0 rfl ?_
    refine am_if_lt 1 26 dX5_link_1 rfl (fun c1 => ?_) (fun c1 => ?_)
    · refine am_iload_n 26 dX5_link_26 rfl ?_
      refine am_ireturn 27 dX5_link_27 rfl rfl ?_
      exact hsame e9
    · refine am_iload_n 4 dX5_link_4 rfl ?_
      refine am_bipush 5 (v := 8) dX5_link_5 (by decide) ?_
      refine am_icmp_ge 7 26 dX5_link_7 rfl (fun c7 => ?_) (fun c7 => ?_)
      · refine am_iload_n 26 dX5_link_26 rfl ?_
        refine am_ireturn 27 dX5_link_27 rfl rfl ?_
        exact hsame e9
      · refine am_iload_n 10 dX5_link_10 rfl ?_
        refine am_if_lt 11 26 dX5_link_11 rfl (fun c11 => ?_) (fun c11 => ?_)
        · refine am_iload_n 26 dX5_link_26 rfl ?_
          refine am_ireturn 27 dX5_link_27 rfl rfl ?_
          exact hsame e9
        · refine am_iload_n 14 dX5_link_14 rfl ?_
          refine am_bipush 15 (v := 6) dX5_link_15 (by decide) ?_
          refine am_icmp_ge 17 26 dX5_link_17 rfl (fun c17 => ?_) (fun c17 => False.elim (by rcases hx with z | z | z | z <;> contradiction))
          refine am_iload_n 26 dX5_link_26 rfl ?_
          refine am_ireturn 27 dX5_link_27 rfl rfl ?_
          exact hsame e9
theorem s_measureRegion {s : Nat} (h : m_Pic f i sig reg pc px py chn pk hm) (hs : s < 48) (hr : m_rok sig reg) : AM mX5_measureRegion 0 0 [.ref i, .int (nI s)] n f
    (fun o n' f' => ∃ chn', o = .inl none ∧ n = n' ∧ f' = va_up (va_up f (i + 2) (.inl (0, 48, .inl (m_region sig s reg)))) (i + 6) (.inl (0, 48, .inl chn'))) := by
  have hp := h
  obtain ⟨h0, h1, h2, h3, h4, h5, h6⟩ := h
  show AW mX5_measureRegion 0 0 0 [some (.ref i), some (.int (nI s)), none, none, none, none] [] n f _
  generalize hR : m_bfs sig 48 0 (m_try sig s (reg, [])) = R
  have hreg : m_region sig s reg = fun c => if c ∈ R.2 then nI R.2.length else R.1 c := by
    unfold m_region
    rw [hR]
  have hok0 : m_ok sig (m_try sig s (reg, [])) := m_ok_try ⟨by simp, (fun c hc => by cases hc), hr⟩ hs
  have hokR : m_ok sig R := by rw [← hR]; exact m_ok_bfs 48 0 _ hok0
  have hT : ∀ (chn' : Nat → Int32) (z3 z4 z5 : Option Value), m_chn chn' R.2 → AW mX5_measureRegion 0 0 103 [some (.ref i), some (.int (nI s)), some (.int (nI R.2.length)), z3, z4, z5] [] n (va_up (va_up f (i + 2) (.inl (0, 48, .inl R.1))) (i + 6) (.inl (0, 48, .inl chn'))) (fun o n' f' => ∃ chn', o = .inl none ∧ n = n' ∧ f' = va_up (va_up f (i + 2) (.inl (0, 48, .inl (m_region sig s reg)))) (i + 6) (.inl (0, 48, .inl chn'))) := by
    intro chn' z3 z4 z5 hch
    have hlen := hokR.1
    refine am_iconst 103 (v := 0) dX5_measureRegion_103 (by decide) ?_
    refine am_istore_n 104 dX5_measureRegion_104 (by decide) ?_
    have g := am_for R.2.length (fun k (rg : Nat → Int32) => ∀ c, rg c = if c ∈ R.2.take k then nI R.2.length else R.1 c) (fun k rg => AW mX5_measureRegion 0 0 105 [some (.ref i), some (.int (nI s)), some (.int (nI R.2.length)), some (.int (nI k)), z4, z5] [] n (va_up (va_up f (i + 2) (.inl (0, 48, .inl rg))) (i + 6) (.inl (0, 48, .inl chn'))) (fun o n' f' => ∃ chn', o = .inl none ∧ n = n' ∧ f' = va_up (va_up f (i + 2) (.inl (0, 48, .inl (m_region sig s reg)))) (i + 6) (.inl (0, 48, .inl chn')))) ?_ ?_ 0 R.1 (by omega) (fun c => by simp)
    · exact g
    · intro rg hrg
      have e : rg = m_region sig s reg := by
        rw [hreg]
        funext c
        rw [hrg c, List.take_length]
      subst e
      refine am_iload_n 105 dX5_measureRegion_105 rfl ?_
      refine am_iload_n 106 dX5_measureRegion_106 rfl ?_
      refine am_icmp_ge 107 134 dX5_measureRegion_107 rfl (fun c107 => ?_) (fun c107 => absurd (Int32.le_refl _) c107)
      refine am_return 134 dX5_measureRegion_134 rfl ?_
      exact ⟨chn', rfl, rfl, rfl⟩
    · intro k rg hk hrg ih
      have hcm := m_ok_get hokR hk
      refine am_iload_n 105 dX5_measureRegion_105 rfl ?_
      refine am_iload_n 106 dX5_measureRegion_106 rfl ?_
      refine am_icmp_ge 107 134 dX5_measureRegion_107 rfl (fun c107 => absurd c107 (nI_ge hk (by omega))) (fun c107 => ?_)
      refine am_iload_n 110 dX5_measureRegion_110 rfl ?_
      refine am_bipush 111 (v := 48) dX5_measureRegion_111 (by decide) ?_
      refine am_icmp_ge 113 134 dX5_measureRegion_113 rfl (fun c113 => absurd c113 (nI_ge (show k < 48 by omega) (by decide))) (fun c113 => ?_)
      refine am_aload_n 116 dX5_measureRegion_116 rfl ?_
      refine am_getfield 117 dX5_measureRegion_117 fX5_15 (by repeat (first | assumption | exact am_ue | refine am_un (by first | assumption | decide | omega) ?_)) rfl ?_
      refine am_aload_n 120 dX5_measureRegion_120 rfl ?_
      refine am_getfield 121 dX5_measureRegion_121 fX5_27 (by repeat (first | assumption | exact am_ue | refine am_un (by first | assumption | decide | omega) ?_)) rfl ?_
      refine am_iload_n 124 dX5_measureRegion_124 rfl ?_
      refine am_iaload 125 dX5_measureRegion_125 rfl (by repeat (first | assumption | exact am_ue | refine am_un (by first | assumption | decide | omega) ?_)) (am_ix (by omega) (by decide)) ?_
      rw [nI_clamp (n := k) (by omega)]
      rw [hch k hk]
      refine am_iload_n 126 dX5_measureRegion_126 rfl ?_
      refine am_iastore 127 dX5_measureRegion_127 rfl (by repeat (first | assumption | exact am_ue | refine am_un (by first | assumption | decide | omega) ?_)) (am_ix hcm.1 (by decide)) ?_
      rw [nI_clamp (n := R.2.getD k 0) (by omega), am_us (i := i + 6) (j := i + 2) (by omega), am_uu]
      refine am_iinc 128 (v := nI (k + 1)) dX5_measureRegion_128 rfl (nI_1 k) (by decide) ?_
      refine am_goto 131 (tgt := 105) dX5_measureRegion_131 rfl ?_
      refine ih _ (fun c => ?_)
      by_cases e : c = R.2.getD k 0
      · rw [e, am_up_eq, if_pos ((m_take_in hk).mpr (Or.inr rfl))]
      · rw [am_up_ne e, hrg c]; exact am_cond (by rw [m_take_in hk]; exact ⟨Or.inl, fun z => z.resolve_right e⟩)
  refine am_aload_n 0 dX5_measureRegion_0 rfl ?_
  refine am_iload_n 1 dX5_measureRegion_1 rfl ?_
  refine am_bipush 2 (v := 8) dX5_measureRegion_2 (by decide) ?_
  refine am_irem 4 dX5_measureRegion_4 (by decide) ?_
  rw [am_rem8 (by omega)]
  refine am_iload_n 5 dX5_measureRegion_5 rfl ?_
  refine am_bipush 6 (v := 8) dX5_measureRegion_6 (by decide) ?_
  refine am_idiv 8 dX5_measureRegion_8 (by decide) ?_
  rw [am_div8 (by omega)]
  refine am_iconst 9 (v := 0) dX5_measureRegion_9 (by decide) ?_
  refine am_V3 10 (mc' := 0) (ms' := 0) (rc := 0) (rs := 0) dX5_measureRegion_10 lX5_55 ⟨by decide, by decide⟩ (by repeat (first | assumption | exact am_ue | refine am_un (by first | assumption | decide | omega) ?_)) (Nat.le_of_ble_eq_true rfl) (Nat.le_of_ble_eq_true rfl) (s_link hp (m_at_in (by omega) (by omega)) (q := []) (by simp) (fun j hj => by simp at hj)) ?_
  rintro o n' f' ⟨ch1, rfl, rfl, rfl, hc1⟩
  refine am_istore_n 13 dX5_measureRegion_13 (by decide) ?_
  refine am_iconst 14 (v := 0) dX5_measureRegion_14 (by decide) ?_
  refine am_istore_n 15 dX5_measureRegion_15 (by decide) ?_
  rw [show 8 * (s / 8) + s % 8 = s by omega] at hc1 ⊢
  have g := am_for 48 (fun k (z : m_R × (Nat → Int32) × Option Value × Option Value) => m_bfs sig (48 - k) k z.1 = R ∧ m_ok sig z.1 ∧ m_chn z.2.1 z.1.2) (fun k z => AW mX5_measureRegion 0 0 16 [some (.ref i), some (.int (nI s)), some (.int (nI z.1.2.length)), some (.int (nI k)), z.2.2.1, z.2.2.2] [] n (va_up (va_up f (i + 2) (.inl (0, 48, .inl z.1.1))) (i + 6) (.inl (0, 48, .inl z.2.1))) (fun o n' f' => ∃ chn', o = .inl none ∧ n = n' ∧ f' = va_up (va_up f (i + 2) (.inl (0, 48, .inl (m_region sig s reg)))) (i + 6) (.inl (0, 48, .inl chn')))) ?_ ?_ 0 (m_try sig s (reg, []), ch1, none, none) (by omega) ⟨hR, hok0, hc1⟩
  · exact g
  · rintro ⟨r, chn', z4, z5⟩ ⟨g1, g2, g3⟩
    have g1' : r = R := g1
    subst g1'
    refine am_iload_n 16 dX5_measureRegion_16 rfl ?_
    refine am_iload_n 17 dX5_measureRegion_17 rfl ?_
    refine am_icmp_ge 18 103 dX5_measureRegion_18 rfl (fun c18 => ?_) (fun c18 => ?_)
    · exact hT _ _ _ _ g3
    · refine am_iload_n 21 dX5_measureRegion_21 rfl ?_
      refine am_bipush 22 (v := 48) dX5_measureRegion_22 (by decide) ?_
      refine am_icmp_ge 24 103 dX5_measureRegion_24 rfl (fun c24 => ?_) (fun c24 => absurd (by decide) c24)
      exact hT _ _ _ _ g3
  · rintro k ⟨⟨rg, q⟩, chn', z4, z5⟩ hk ⟨g1, g2, g3⟩ ih
    have g1' : m_bfs sig (48 - k) k (rg, q) = R := g1
    show AW mX5_measureRegion 0 0 16 [some (.ref i), some (.int (nI s)), some (.int (nI q.length)), some (.int (nI k)), z4, z5] [] n (va_up (va_up f (i + 2) (.inl (0, 48, .inl rg))) (i + 6) (.inl (0, 48, .inl chn'))) _
    have g3' : m_chn chn' q := g3
    have hq48 : q.length ≤ 48 := g2.1
    rw [show 48 - k = (48 - (k + 1)) + 1 by omega] at g1'
    unfold m_bfs at g1'
    refine am_iload_n 16 dX5_measureRegion_16 rfl ?_
    refine am_iload_n 17 dX5_measureRegion_17 rfl ?_
    refine am_icmp_ge 18 103 dX5_measureRegion_18 rfl (fun c18 => ?_) (fun c18 => ?_)
    · rw [if_neg (show ¬ k < (rg, q).2.length from fun z => nI_ge z (by show q.length < _; omega) c18)] at g1'
      subst g1'
      exact hT _ _ _ _ g3'
    · have hkq : k < q.length := am_nleN q.length c18 (by omega) (by omega)
      rw [if_pos (show k < (rg, q).2.length from hkq)] at g1'
      have hc := m_ok_get g2 hkq
      generalize he : q.getD k 0 = c at hc
      have g1 : m_bfs sig (48 - (k + 1)) (k + 1) (m_exp sig c (rg, q)) = R := by rw [← he]; exact g1'
      clear g1'
      refine am_iload_n 21 dX5_measureRegion_21 rfl ?_
      refine am_bipush 22 (v := 48) dX5_measureRegion_22 (by decide) ?_
      refine am_icmp_ge 24 103 dX5_measureRegion_24 rfl (fun c24 => absurd c24 (nI_ge hk (by decide))) (fun c24 => ?_)
      refine am_aload_n 27 dX5_measureRegion_27 rfl ?_
      refine am_getfield 28 dX5_measureRegion_28 fX5_27 (by repeat (first | assumption | exact am_ue | refine am_un (by first | assumption | decide | omega) ?_)) rfl ?_
      refine am_iload_n 31 dX5_measureRegion_31 rfl ?_
      refine am_iaload 32 dX5_measureRegion_32 rfl (by repeat (first | assumption | exact am_ue | refine am_un (by first | assumption | decide | omega) ?_)) (am_ix hk (by decide)) ?_
      rw [nI_clamp (n := k) (by omega)]
      rw [g3' k hkq, he]
      refine am_bipush 33 (v := 8) dX5_measureRegion_33 (by decide) ?_
      refine am_irem 35 dX5_measureRegion_35 (by decide) ?_
      rw [am_rem8 (by omega)]
      refine am_istore 36 dX5_measureRegion_36 (by decide) ?_
      refine am_aload_n 38 dX5_measureRegion_38 rfl ?_
      refine am_getfield 39 dX5_measureRegion_39 fX5_27 (by repeat (first | assumption | exact am_ue | refine am_un (by first | assumption | decide | omega) ?_)) rfl ?_
      refine am_iload_n 42 dX5_measureRegion_42 rfl ?_
      refine am_iaload 43 dX5_measureRegion_43 rfl (by repeat (first | assumption | exact am_ue | refine am_un (by first | assumption | decide | omega) ?_)) (am_ix hk (by decide)) ?_
      rw [nI_clamp (n := k) (by omega)]
      rw [g3' k hkq, he]
      refine am_bipush 44 (v := 8) dX5_measureRegion_44 (by decide) ?_
      refine am_idiv 46 dX5_measureRegion_46 (by decide) ?_
      rw [am_div8 (by omega)]
      refine am_istore 47 dX5_measureRegion_47 (by decide) ?_
      refine am_aload_n 49 dX5_measureRegion_49 rfl ?_
      refine am_iload 50 dX5_measureRegion_50 rfl ?_
      refine am_iconst 52 (v := 1) dX5_measureRegion_52 (by decide) ?_
      refine am_isub 53 dX5_measureRegion_53 ?_
      refine am_iload 54 dX5_measureRegion_54 rfl ?_
      refine am_iload_n 56 dX5_measureRegion_56 rfl ?_
      refine am_V3 57 (mc' := 0) (ms' := 0) (rc := 0) (rs := 0) dX5_measureRegion_57 lX5_55 ⟨by decide, by decide⟩ (by repeat (first | assumption | exact am_ue | refine am_un (by first | assumption | decide | omega) ?_)) (Nat.le_of_ble_eq_true rfl) (Nat.le_of_ble_eq_true rfl) (s_link (hp.rc rg chn') (m_at_left hc.1) hq48 g3') ?_
      rintro o n' f' ⟨ch2, rfl, rfl, rfl, hc2⟩
      rw [am_us (i := i + 6) (j := i + 2) (by omega), am_uu, am_uu]
      have o2 := m_ok_tryO (c := m_left c) g2 (fun _ z => m_left_lt hc.1 z)
      generalize hr2 : m_tryO sig (m_left c) (rg, q) = r2 at hc2 o2 ⊢
      refine am_istore_n 60 dX5_measureRegion_60 (by decide) ?_
      refine am_aload_n 61 dX5_measureRegion_61 rfl ?_
      refine am_iload 62 dX5_measureRegion_62 rfl ?_
      refine am_iconst 64 (v := 1) dX5_measureRegion_64 (by decide) ?_
      refine am_iadd 65 dX5_measureRegion_65 ?_
      refine am_iload 66 dX5_measureRegion_66 rfl ?_
      refine am_iload_n 68 dX5_measureRegion_68 rfl ?_
      refine am_V3 69 (mc' := 0) (ms' := 0) (rc := 0) (rs := 0) dX5_measureRegion_69 lX5_55 ⟨by decide, by decide⟩ (by repeat (first | assumption | exact am_ue | refine am_un (by first | assumption | decide | omega) ?_)) (Nat.le_of_ble_eq_true rfl) (Nat.le_of_ble_eq_true rfl) (s_link (hp.rc r2.1 ch2) (m_at_right hc.1) o2.1 hc2) ?_
      rintro o n' f' ⟨ch3, rfl, rfl, rfl, hc3⟩
      rw [am_us (i := i + 6) (j := i + 2) (by omega), am_uu, am_uu]
      have o3 := m_ok_tryO (c := m_right c) o2 (fun _ z => m_right_lt hc.1 z)
      generalize hr3 : m_tryO sig (m_right c) (r2.1, r2.2) = r3 at hc3 ⊢
      have o3 : m_ok sig r3 := by rw [← hr3]; exact o3
      refine am_istore_n 72 dX5_measureRegion_72 (by decide) ?_
      refine am_aload_n 73 dX5_measureRegion_73 rfl ?_
      refine am_iload 74 dX5_measureRegion_74 rfl ?_
      refine am_iload 76 dX5_measureRegion_76 rfl ?_
      refine am_iconst 78 (v := 1) dX5_measureRegion_78 (by decide) ?_
      refine am_isub 79 dX5_measureRegion_79 ?_
      refine am_iload_n 80 dX5_measureRegion_80 rfl ?_
      refine am_V3 81 (mc' := 0) (ms' := 0) (rc := 0) (rs := 0) dX5_measureRegion_81 lX5_55 ⟨by decide, by decide⟩ (by repeat (first | assumption | exact am_ue | refine am_un (by first | assumption | decide | omega) ?_)) (Nat.le_of_ble_eq_true rfl) (Nat.le_of_ble_eq_true rfl) (s_link (hp.rc r3.1 ch3) (m_at_up hc.1) o3.1 hc3) ?_
      rintro o n' f' ⟨ch4, rfl, rfl, rfl, hc4⟩
      rw [am_us (i := i + 6) (j := i + 2) (by omega), am_uu, am_uu]
      have o4 := m_ok_tryO (c := m_up c) o3 (fun _ z => m_up_lt hc.1 z)
      generalize hr4 : m_tryO sig (m_up c) (r3.1, r3.2) = r4 at hc4 ⊢
      have o4 : m_ok sig r4 := by rw [← hr4]; exact o4
      refine am_istore_n 84 dX5_measureRegion_84 (by decide) ?_
      refine am_aload_n 85 dX5_measureRegion_85 rfl ?_
      refine am_iload 86 dX5_measureRegion_86 rfl ?_
      refine am_iload 88 dX5_measureRegion_88 rfl ?_
      refine am_iconst 90 (v := 1) dX5_measureRegion_90 (by decide) ?_
      refine am_iadd 91 dX5_measureRegion_91 ?_
      refine am_iload_n 92 dX5_measureRegion_92 rfl ?_
      refine am_V3 93 (mc' := 0) (ms' := 0) (rc := 0) (rs := 0) dX5_measureRegion_93 lX5_55 ⟨by decide, by decide⟩ (by repeat (first | assumption | exact am_ue | refine am_un (by first | assumption | decide | omega) ?_)) (Nat.le_of_ble_eq_true rfl) (Nat.le_of_ble_eq_true rfl) (s_link (hp.rc r4.1 ch4) (m_at_down hc.1) o4.1 hc4) ?_
      rintro o n' f' ⟨ch5, rfl, rfl, rfl, hc5⟩
      rw [am_us (i := i + 6) (j := i + 2) (by omega), am_uu, am_uu]
      have e5 : m_tryO sig (m_down c) (r4.1, r4.2) = m_exp sig c (rg, q) := by
        unfold m_exp
        rw [hr2]
        show _ = m_tryO sig (m_down c) (m_tryO sig (m_up c) (m_tryO sig (m_right c) (r2.1, r2.2)))
        rw [hr3]
        show _ = m_tryO sig (m_down c) (m_tryO sig (m_up c) (r3.1, r3.2))
        rw [hr4]
      rw [e5] at hc5 ⊢
      refine am_istore_n 96 dX5_measureRegion_96 (by decide) ?_
      refine am_iinc 97 (v := nI (k + 1)) dX5_measureRegion_97 rfl (nI_1 k) (by decide) ?_
      refine am_goto 100 (tgt := 16) dX5_measureRegion_100 rfl ?_
      exact ih (m_exp sig c (rg, q), ch5, _, _) ⟨g1, m_ok_exp g2 hc.1, hc5⟩
end Picture
end
section
/-! ===== Picture: summits and places ===== -/
section Picture2
variable {i n : Nat} {f : Nat → am_C} {sig reg pc px py chn : Nat → Int32} {pk hm : Int32}
theorem s_isSummit {c : Nat} (h : m_Pic f i sig reg pc px py chn pk hm) (hc : c < 48) : AM mX5_isSummit 0 0 [.ref i, .int (nI c)] n f (am_is (some (.int (if m_sum sig c = true then 1 else 0))) n f) := by
  obtain ⟨h0, h1, h2, h3, h4, h5, h6⟩ := h
  show AW mX5_isSummit 0 0 0 [some (.ref i), some (.int (nI c)), none, none, none, none, none] [] n f _
  refine am_iload_n 0 dX5_isSummit_0 rfl ?_
  refine am_bipush 1 (v := 8) dX5_isSummit_1 (by decide) ?_
  refine am_irem 3 dX5_isSummit_3 (by decide) ?_
  rw [am_rem8 (by omega)]
  refine am_istore_n 4 dX5_isSummit_4 (by decide) ?_
  refine am_iload_n 5 dX5_isSummit_5 rfl ?_
  refine am_bipush 6 (v := 8) dX5_isSummit_6 (by decide) ?_
  refine am_idiv 8 dX5_isSummit_8 (by decide) ?_
  rw [am_div8 (by omega)]
  refine am_istore_n 9 dX5_isSummit_9 (by decide) ?_
  refine am_iload_n 10 dX5_isSummit_10 rfl ?_
  refine am_iconst 11 (v := 1) dX5_isSummit_11 (by decide) ?_
  refine am_isub 12 dX5_isSummit_12 ?_
  refine am_iconst 13 (v := 0) dX5_isSummit_13 (by decide) ?_
  refine am_max 14 dX5_isSummit_14 jX5_69 (by decide) (Nat.le_of_ble_eq_true rfl) ?_
  rw [am_lo1 (y := c / 8) (by omega)]
  refine am_istore 17 dX5_isSummit_17 (by decide) ?_
  refine am_for (min (c / 8 + 1) 5 + 1) (fun r (z : (Option Value) × (Option Value)) => c / 8 ≤ r + 1 ∧ ∀ o, o < 8 * r → m_adj c o → ¬ m_beat sig c o) (fun r z => AW mX5_isSummit 0 0 19 [some (.ref i), some (.int (nI c)), some (.int (nI (c % 8))), some (.int (nI (c / 8))), some (.int (nI r)), z.1, z.2] [] n f (am_is (some (.int (if m_sum sig c = true then 1 else 0))) n f)) ?_ ?_ (c / 8 - 1) (none, none) (by omega) ⟨by omega, fun o ho ha => by unfold m_adj at ha; omega⟩
  · rintro ⟨z1, z2⟩ ⟨hlo, hall⟩
    have hs : m_sum sig c = true := m_sum_iff.mpr fun o ho ha => hall o (by unfold m_adj at ha; omega) ha
    refine am_iload 19 dX5_isSummit_19 rfl ?_
    refine am_iload_n 21 dX5_isSummit_21 rfl ?_
    refine am_iconst 22 (v := 1) dX5_isSummit_22 (by decide) ?_
    refine am_iadd 23 dX5_isSummit_23 ?_
    refine am_iconst 24 (v := 5) dX5_isSummit_24 (by decide) ?_
    refine am_min 25 dX5_isSummit_25 jX5_75 (by decide) (Nat.le_of_ble_eq_true rfl) ?_
    rw [show (5 : Int32) = nI 5 from rfl, am_hi1 5 (y := c / 8) (by omega) (by decide)]
    refine am_icmp_gt 28 115 dX5_isSummit_28 rfl (fun c28 => ?_) (fun c28 => absurd (nI_lt (by omega) (by omega)) c28)
    refine am_iconst 115 (v := 1) dX5_isSummit_115 (by decide) ?_
    refine am_ireturn 116 dX5_isSummit_116 rfl rfl ?_
    exact ⟨by rw [if_pos hs], rfl, rfl⟩
  · rintro r ⟨z1, z2⟩ hr ⟨hlo, hall⟩ ih
    show AW mX5_isSummit 0 0 19 [some (.ref i), some (.int (nI c)), some (.int (nI (c % 8))), some (.int (nI (c / 8))), some (.int (nI r)), z1, z2] [] n f _
    refine am_iload 19 dX5_isSummit_19 rfl ?_
    refine am_iload_n 21 dX5_isSummit_21 rfl ?_
    refine am_iconst 22 (v := 1) dX5_isSummit_22 (by decide) ?_
    refine am_iadd 23 dX5_isSummit_23 ?_
    refine am_iconst 24 (v := 5) dX5_isSummit_24 (by decide) ?_
    refine am_min 25 dX5_isSummit_25 jX5_75 (by decide) (Nat.le_of_ble_eq_true rfl) ?_
    rw [show (5 : Int32) = nI 5 from rfl, am_hi1 5 (y := c / 8) (by omega) (by decide)]
    refine am_icmp_gt 28 115 dX5_isSummit_28 rfl (fun c28 => absurd c28 (nI_nlt (by omega) (by omega))) (fun c28 => ?_)
    refine am_iload_n 31 dX5_isSummit_31 rfl ?_
    refine am_iconst 32 (v := 1) dX5_isSummit_32 (by decide) ?_
    refine am_isub 33 dX5_isSummit_33 ?_
    refine am_iconst 34 (v := 0) dX5_isSummit_34 (by decide) ?_
    refine am_max 35 dX5_isSummit_35 jX5_69 (by decide) (Nat.le_of_ble_eq_true rfl) ?_
    rw [am_lo1 (y := c % 8) (by omega)]
    refine am_istore 38 dX5_isSummit_38 (by decide) ?_
    refine am_for (min (c % 8 + 1) 7 + 1) (fun k (z : Option Value) => c % 8 ≤ k + 1 ∧ ∀ o, o < 8 * r + k → m_adj c o → ¬ m_beat sig c o) (fun k z => AW mX5_isSummit 0 0 40 [some (.ref i), some (.int (nI c)), some (.int (nI (c % 8))), some (.int (nI (c / 8))), some (.int (nI r)), some (.int (nI k)), z] [] n f (am_is (some (.int (if m_sum sig c = true then 1 else 0))) n f)) ?_ ?_ (c % 8 - 1) z2 (by omega) ⟨by omega, fun o ho ha => by
      by_cases e : o < 8 * r
      · exact hall o e ha
      · unfold m_adj at ha; omega⟩
    · rintro z ⟨hlo2, hall2⟩
      refine am_iload 40 dX5_isSummit_40 rfl ?_
      refine am_iload_n 42 dX5_isSummit_42 rfl ?_
      refine am_iconst 43 (v := 1) dX5_isSummit_43 (by decide) ?_
      refine am_iadd 44 dX5_isSummit_44 ?_
      refine am_bipush 45 (v := 7) dX5_isSummit_45 (by decide) ?_
      refine am_min 47 dX5_isSummit_47 jX5_75 (by decide) (Nat.le_of_ble_eq_true rfl) ?_
      rw [show (7 : Int32) = nI 7 from rfl, am_hi1 7 (y := c % 8) (by omega) (by decide)]
      refine am_icmp_gt 50 109 dX5_isSummit_50 rfl (fun c50 => ?_) (fun c50 => absurd (nI_lt (by omega) (by omega)) c50)
      refine am_iinc 109 (v := nI (r + 1)) dX5_isSummit_109 rfl (nI_1 r) (by decide) ?_
      refine am_goto 112 (tgt := 19) dX5_isSummit_112 rfl ?_
      refine ih (_, _) ⟨by omega, fun o ho ha => ?_⟩
      by_cases e : o < 8 * r + (min (c % 8 + 1) 7 + 1)
      · exact hall2 o e ha
      · unfold m_adj at ha; omega
    · rintro k z hk ⟨hlo2, hall2⟩ ih2
      have hadj : m_adj c (8 * r + k) := by unfold m_adj; omega
      refine am_iload 40 dX5_isSummit_40 rfl ?_
      refine am_iload_n 42 dX5_isSummit_42 rfl ?_
      refine am_iconst 43 (v := 1) dX5_isSummit_43 (by decide) ?_
      refine am_iadd 44 dX5_isSummit_44 ?_
      refine am_bipush 45 (v := 7) dX5_isSummit_45 (by decide) ?_
      refine am_min 47 dX5_isSummit_47 jX5_75 (by decide) (Nat.le_of_ble_eq_true rfl) ?_
      rw [show (7 : Int32) = nI 7 from rfl, am_hi1 7 (y := c % 8) (by omega) (by decide)]
      refine am_icmp_gt 50 109 dX5_isSummit_50 rfl (fun c50 => absurd c50 (nI_nlt (by omega) (by omega))) (fun c50 => ?_)
      refine am_iload 53 dX5_isSummit_53 rfl ?_
      refine am_bipush 55 (v := 8) dX5_isSummit_55 (by decide) ?_
      refine am_imul 57 dX5_isSummit_57 ?_
      refine am_iload 58 dX5_isSummit_58 rfl ?_
      refine am_iadd 60 dX5_isSummit_60 ?_
      rw [am_cellN]
      refine am_istore 61 dX5_isSummit_61 (by decide) ?_
      refine am_aload_n 63 dX5_isSummit_63 rfl ?_
      refine am_getfield 64 dX5_isSummit_64 fX5_9 (by repeat (first | assumption | exact am_ue | refine am_un (by first | assumption | decide | omega) ?_)) rfl ?_
      refine am_iload 67 dX5_isSummit_67 rfl ?_
      refine am_iaload 69 dX5_isSummit_69 rfl (by repeat (first | assumption | exact am_ue | refine am_un (by first | assumption | decide | omega) ?_)) (am_ix (by omega) (by decide)) ?_
      rw [nI_clamp (n := 8 * r + k) (by omega)]
      refine am_aload_n 70 dX5_isSummit_70 rfl ?_
      refine am_getfield 71 dX5_isSummit_71 fX5_9 (by repeat (first | assumption | exact am_ue | refine am_un (by first | assumption | decide | omega) ?_)) rfl ?_
      refine am_iload_n 74 dX5_isSummit_74 rfl ?_
      refine am_iaload 75 dX5_isSummit_75 rfl (by repeat (first | assumption | exact am_ue | refine am_un (by first | assumption | decide | omega) ?_)) (am_ix (by omega) (by decide)) ?_
      rw [nI_clamp (n := c) (by omega)]
      refine am_icmp_gt 76 101 dX5_isSummit_76 rfl (fun c76 => ?_) (fun c76 => ?_)
      · refine am_iconst 101 (v := 0) dX5_isSummit_101 (by decide) ?_
        refine am_ireturn 102 dX5_isSummit_102 rfl rfl ?_
        have hb : m_beat sig c (8 * r + k) := by unfold m_beat; first | exact Or.inl c76 | exact Or.inr ⟨c92, am_nleN c c98 (by omega) (by omega)⟩
        exact ⟨by rw [if_neg (fun z => m_sum_iff.mp z (8 * r + k) (by omega) hadj hb)], rfl, rfl⟩
      · refine am_aload_n 79 dX5_isSummit_79 rfl ?_
        refine am_getfield 80 dX5_isSummit_80 fX5_9 (by repeat (first | assumption | exact am_ue | refine am_un (by first | assumption | decide | omega) ?_)) rfl ?_
        refine am_iload 83 dX5_isSummit_83 rfl ?_
        refine am_iaload 85 dX5_isSummit_85 rfl (by repeat (first | assumption | exact am_ue | refine am_un (by first | assumption | decide | omega) ?_)) (am_ix (by omega) (by decide)) ?_
        rw [nI_clamp (n := 8 * r + k) (by omega)]
        refine am_aload_n 86 dX5_isSummit_86 rfl ?_
        refine am_getfield 87 dX5_isSummit_87 fX5_9 (by repeat (first | assumption | exact am_ue | refine am_un (by first | assumption | decide | omega) ?_)) rfl ?_
        refine am_iload_n 90 dX5_isSummit_90 rfl ?_
        refine am_iaload 91 dX5_isSummit_91 rfl (by repeat (first | assumption | exact am_ue | refine am_un (by first | assumption | decide | omega) ?_)) (am_ix (by omega) (by decide)) ?_
        rw [nI_clamp (n := c) (by omega)]
        refine am_icmp_ne 92 103 dX5_isSummit_92 rfl (fun c92 => ?_) (fun c92 => ?_)
        · refine am_iinc 103 (v := nI (k + 1)) dX5_isSummit_103 rfl (nI_1 k) (by decide) ?_
          refine am_goto 106 (tgt := 40) dX5_isSummit_106 rfl ?_
          refine ih2 _ ⟨by omega, fun o ho ha => ?_⟩
          by_cases e : o = 8 * r + k
          · subst e
            unfold m_beat
            first | exact fun z => z.elim c76 (fun y => c92 y.1) | exact fun z => z.elim c76 (fun y => by have := am_leN c c98 (by omega) (by omega); omega)
          · exact hall2 o (by omega) ha
        · refine am_iload 95 dX5_isSummit_95 rfl ?_
          refine am_iload_n 97 dX5_isSummit_97 rfl ?_
          refine am_icmp_ge 98 103 dX5_isSummit_98 rfl (fun c98 => ?_) (fun c98 => ?_)
          · refine am_iinc 103 (v := nI (k + 1)) dX5_isSummit_103 rfl (nI_1 k) (by decide) ?_
            refine am_goto 106 (tgt := 40) dX5_isSummit_106 rfl ?_
            refine ih2 _ ⟨by omega, fun o ho ha => ?_⟩
            by_cases e : o = 8 * r + k
            · subst e
              unfold m_beat
              first | exact fun z => z.elim c76 (fun y => c92 y.1) | exact fun z => z.elim c76 (fun y => by have := am_leN c c98 (by omega) (by omega); omega)
            · exact hall2 o (by omega) ha
          · refine am_iconst 101 (v := 0) dX5_isSummit_101 (by decide) ?_
            refine am_ireturn 102 dX5_isSummit_102 rfl rfl ?_
            have hb : m_beat sig c (8 * r + k) := by unfold m_beat; first | exact Or.inl c76 | exact Or.inr ⟨c92, am_nleN c c98 (by omega) (by omega)⟩
            exact ⟨by rw [if_neg (fun z => m_sum_iff.mp z (8 * r + k) (by omega) hadj hb)], rfl, rfl⟩
end Picture2
end
section
/-! ===== Picture: places, peaks, hum, look ===== -/
section Picture3
variable {i n : Nat} {f : Nat → am_C} {sig reg pc px py chn : Nat → Int32} {pk hm : Int32}
theorem s_placeOf {c : Nat} {isY : Bool} (h : m_Pic f i sig reg pc px py chn pk hm) (hc : c < 48) : AM mX5_placeOf 0 0 [.ref i, .int (nI c), .int (m_bi isY)] n f (am_is (some (.int (nI (m_placeN sig c isY)))) n f) := by
  obtain ⟨h0, h1, h2, h3, h4, h5, h6⟩ := h
  show AW mX5_placeOf 0 0 0 [some (.ref i), some (.int (nI c)), some (.int (m_bi isY)), none, none, none, none, none, none, none, none, none, none] [] n f _
  have hwl := m_wt_lt (sig := sig) (x := c % 8) (y := c / 8) (r := 6) (c := 0)
  have hml := m_mo_lt (sig := sig) (isY := isY) (x := c % 8) (y := c / 8) (r := 6) (c := 0)
  have hend : ∀ (z9 z10 z11 z12 : Option Value), AW mX5_placeOf 0 0 125 [some (.ref i), some (.int (nI c)), some (.int (m_bi isY)), some (.int (nI (c % 8))), some (.int (nI (c / 8))), some (.long (lN (m_wt sig (c % 8) (c / 8) 6 0))), none, some (.long (lN (m_mo sig isY (c % 8) (c / 8) 6 0))), none, z9, z10, z11, z12] [] n f (am_is (some (.int (nI (m_placeN sig c isY)))) n f) := by
    intro z9 z10 z11 z12
    generalize hw : m_wt sig (c % 8) (c / 8) 6 0 = w at hwl
    generalize hm : m_mo sig isY (c % 8) (c / 8) 6 0 = mo at hml
    refine am_lload 125 dX5_placeOf_125 rfl ?_
    refine am_lconst 127 (v := 0) dX5_placeOf_127 rfl ?_
    refine am_lcmp 128 dX5_placeOf_128 ?_
    refine am_if_le 129 148 dX5_placeOf_129 rfl (fun c129 => ?_) (fun c129 => ?_)
    · have hw0 : w = 0 := (m_lN0 (by omega)).mp ((lg_cmp_le _ _).mp c129)
      refine am_iconst 148 (v := 0) dX5_placeOf_148 (by decide) ?_
      refine am_ireturn 149 dX5_placeOf_149 rfl rfl ?_
      refine ⟨?_, rfl, rfl⟩
      unfold m_placeN
      rw [hw, hm]
      first | rw [if_pos hw0] | (rw [if_neg (by omega)]; rfl)
    · have hw0 : 0 < w := Nat.pos_of_ne_zero fun z => c129 ((lg_cmp_le _ _).mpr ((m_lN0 (by omega)).mpr z))
      refine am_lload 132 dX5_placeOf_132 rfl ?_
      refine am_lload 134 dX5_placeOf_134 rfl ?_
      refine am_ladd 136 dX5_placeOf_136 ?_
      rw [lN_add]
      refine am_ldc2 137 dX5_placeOf_137 kX5_80 ?_
      refine am_lload 140 dX5_placeOf_140 rfl ?_
      refine am_lmul 142 dX5_placeOf_142 ?_
      rw [show (2 : Int64) = lN 2 from rfl, lN_mul]
      refine am_ldiv 143 dX5_placeOf_143 (m_lNe (by omega) (by omega)) ?_
      rw [pk_lDiv (by omega) (by omega) (by omega)]
      refine am_l2i 144 dX5_placeOf_144 ?_
      rw [lN_i]
      refine am_goto 145 (tgt := 149) dX5_placeOf_145 rfl ?_
      refine am_ireturn 149 dX5_placeOf_149 rfl rfl ?_
      refine ⟨?_, rfl, rfl⟩
      unfold m_placeN
      rw [hw, hm]
      first | rw [if_pos hw0] | (rw [if_neg (by omega)]; rfl)
  refine am_iload_n 0 dX5_placeOf_0 rfl ?_
  refine am_bipush 1 (v := 8) dX5_placeOf_1 (by decide) ?_
  refine am_irem 3 dX5_placeOf_3 (by decide) ?_
  rw [am_rem8 (by omega)]
  refine am_istore_n 4 dX5_placeOf_4 (by decide) ?_
  refine am_iload_n 5 dX5_placeOf_5 rfl ?_
  refine am_bipush 6 (v := 8) dX5_placeOf_6 (by decide) ?_
  refine am_idiv 8 dX5_placeOf_8 (by decide) ?_
  rw [am_div8 (by omega)]
  refine am_istore 9 dX5_placeOf_9 (by decide) ?_
  refine am_lconst 11 (v := 0) dX5_placeOf_11 rfl ?_
  refine am_lstore 12 dX5_placeOf_12 (by decide) ?_
  refine am_lconst 14 (v := 0) dX5_placeOf_14 rfl ?_
  refine am_lstore 15 dX5_placeOf_15 (by decide) ?_
  refine am_iload 17 dX5_placeOf_17 rfl ?_
  refine am_iconst 19 (v := 1) dX5_placeOf_19 (by decide) ?_
  refine am_isub 20 dX5_placeOf_20 ?_
  refine am_iconst 21 (v := 0) dX5_placeOf_21 (by decide) ?_
  refine am_max 22 dX5_placeOf_22 jX5_69 (by decide) (Nat.le_of_ble_eq_true rfl) ?_
  rw [am_lo1 (y := c / 8) (by omega)]
  refine am_istore 25 dX5_placeOf_25 (by decide) ?_
  refine am_for (min (c / 8 + 1) 5 + 1) (fun r (z : (Option Value) × (Option Value)) => c / 8 ≤ r + 1) (fun r z => AW mX5_placeOf 0 0 27 [some (.ref i), some (.int (nI c)), some (.int (m_bi isY)), some (.int (nI (c % 8))), some (.int (nI (c / 8))), some (.long (lN (m_wt sig (c % 8) (c / 8) r 0))), none, some (.long (lN (m_mo sig isY (c % 8) (c / 8) r 0))), none, some (.int (nI r)), z.1, z.2, none] [] n f (am_is (some (.int (nI (m_placeN sig c isY)))) n f)) ?_ ?_ (c / 8 - 1) (none, none) (by omega) (by omega) |> fun g => by
    rw [m_wt_start, m_mo_start] at g
    exact g
  · rintro ⟨z1, z2⟩ hlo
    show AW mX5_placeOf 0 0 27 [some (.ref i), some (.int (nI c)), some (.int (m_bi isY)), some (.int (nI (c % 8))), some (.int (nI (c / 8))), some (.long (lN (m_wt sig (c % 8) (c / 8) (min (c / 8 + 1) 5 + 1) 0))), none, some (.long (lN (m_mo sig isY (c % 8) (c / 8) (min (c / 8 + 1) 5 + 1) 0))), none, some (.int (nI (min (c / 8 + 1) 5 + 1))), z1, z2, none] [] n f _
    rw [m_wt_end, m_mo_end]
    refine am_iload 27 dX5_placeOf_27 rfl ?_
    refine am_iload 29 dX5_placeOf_29 rfl ?_
    refine am_iconst 31 (v := 1) dX5_placeOf_31 (by decide) ?_
    refine am_iadd 32 dX5_placeOf_32 ?_
    refine am_iconst 33 (v := 5) dX5_placeOf_33 (by decide) ?_
    refine am_min 34 dX5_placeOf_34 jX5_75 (by decide) (Nat.le_of_ble_eq_true rfl) ?_
    rw [show (5 : Int32) = nI 5 from rfl, am_hi1 5 (y := c / 8) (by omega) (by decide)]
    refine am_icmp_gt 37 125 dX5_placeOf_37 rfl (fun c37 => ?_) (fun c37 => absurd (nI_lt (by omega) (by omega)) c37)
    exact hend _ _ _ _
  · rintro r ⟨z1, z2⟩ hr hlo ih
    show AW mX5_placeOf 0 0 27 [some (.ref i), some (.int (nI c)), some (.int (m_bi isY)), some (.int (nI (c % 8))), some (.int (nI (c / 8))), some (.long (lN (m_wt sig (c % 8) (c / 8) r 0))), none, some (.long (lN (m_mo sig isY (c % 8) (c / 8) r 0))), none, some (.int (nI r)), z1, z2, none] [] n f _
    refine am_iload 27 dX5_placeOf_27 rfl ?_
    refine am_iload 29 dX5_placeOf_29 rfl ?_
    refine am_iconst 31 (v := 1) dX5_placeOf_31 (by decide) ?_
    refine am_iadd 32 dX5_placeOf_32 ?_
    refine am_iconst 33 (v := 5) dX5_placeOf_33 (by decide) ?_
    refine am_min 34 dX5_placeOf_34 jX5_75 (by decide) (Nat.le_of_ble_eq_true rfl) ?_
    rw [show (5 : Int32) = nI 5 from rfl, am_hi1 5 (y := c / 8) (by omega) (by decide)]
    refine am_icmp_gt 37 125 dX5_placeOf_37 rfl (fun c37 => absurd c37 (nI_nlt (by omega) (by omega))) (fun c37 => ?_)
    refine am_iload_n 40 dX5_placeOf_40 rfl ?_
    refine am_iconst 41 (v := 1) dX5_placeOf_41 (by decide) ?_
    refine am_isub 42 dX5_placeOf_42 ?_
    refine am_iconst 43 (v := 0) dX5_placeOf_43 (by decide) ?_
    refine am_max 44 dX5_placeOf_44 jX5_69 (by decide) (Nat.le_of_ble_eq_true rfl) ?_
    rw [am_lo1 (y := c % 8) (by omega)]
    refine am_istore 47 dX5_placeOf_47 (by decide) ?_
    refine am_for (min (c % 8 + 1) 7 + 1) (fun k (z : Option Value) => c % 8 ≤ k + 1) (fun k z => AW mX5_placeOf 0 0 49 [some (.ref i), some (.int (nI c)), some (.int (m_bi isY)), some (.int (nI (c % 8))), some (.int (nI (c / 8))), some (.long (lN (m_wt sig (c % 8) (c / 8) r k))), none, some (.long (lN (m_mo sig isY (c % 8) (c / 8) r k))), none, some (.int (nI r)), some (.int (nI k)), z, none] [] n f (am_is (some (.int (nI (m_placeN sig c isY)))) n f)) ?_ ?_ (c % 8 - 1) z2 (by omega) (by omega) |> fun g => by
      rw [m_wt_col, m_mo_col] at g
      exact g
    · rintro z hlo2
      rw [m_wt_row, m_mo_row]
      refine am_iload 49 dX5_placeOf_49 rfl ?_
      refine am_iload_n 51 dX5_placeOf_51 rfl ?_
      refine am_iconst 52 (v := 1) dX5_placeOf_52 (by decide) ?_
      refine am_iadd 53 dX5_placeOf_53 ?_
      refine am_bipush 54 (v := 7) dX5_placeOf_54 (by decide) ?_
      refine am_min 56 dX5_placeOf_56 jX5_75 (by decide) (Nat.le_of_ble_eq_true rfl) ?_
      rw [show (7 : Int32) = nI 7 from rfl, am_hi1 7 (y := c % 8) (by omega) (by decide)]
      refine am_icmp_gt 59 119 dX5_placeOf_59 rfl (fun c59 => ?_) (fun c59 => absurd (nI_lt (by omega) (by omega)) c59)
      refine am_iinc 119 (v := nI (r + 1)) dX5_placeOf_119 rfl (nI_1 (r)) (by decide) ?_
      refine am_goto 122 (tgt := 27) dX5_placeOf_122 rfl ?_
      exact ih (_, _) (by omega)
    · rintro k z hk hlo2 ih2
      have e1 := m_wt_step (sig := sig) (x := c % 8) (y := c / 8) (r := r) (c := k) (by omega) (by omega) (by omega) (by omega) (by omega) (by omega)
      have e2 := m_mo_step (sig := sig) (isY := isY) (x := c % 8) (y := c / 8) (r := r) (c := k) (by omega) (by omega) (by omega) (by omega) (by omega) (by omega)
      refine am_iload 49 dX5_placeOf_49 rfl ?_
      refine am_iload_n 51 dX5_placeOf_51 rfl ?_
      refine am_iconst 52 (v := 1) dX5_placeOf_52 (by decide) ?_
      refine am_iadd 53 dX5_placeOf_53 ?_
      refine am_bipush 54 (v := 7) dX5_placeOf_54 (by decide) ?_
      refine am_min 56 dX5_placeOf_56 jX5_75 (by decide) (Nat.le_of_ble_eq_true rfl) ?_
      rw [show (7 : Int32) = nI 7 from rfl, am_hi1 7 (y := c % 8) (by omega) (by decide)]
      refine am_icmp_gt 59 119 dX5_placeOf_59 rfl (fun c59 => absurd c59 (nI_nlt (by omega) (by omega))) (fun c59 => ?_)
      refine am_aload_n 62 dX5_placeOf_62 rfl ?_
      refine am_getfield 63 dX5_placeOf_63 fX5_9 (by repeat (first | assumption | exact am_ue | refine am_un (by first | assumption | decide | omega) ?_)) rfl ?_
      refine am_iload 66 dX5_placeOf_66 rfl ?_
      refine am_bipush 68 (v := 8) dX5_placeOf_68 (by decide) ?_
      refine am_imul 70 dX5_placeOf_70 ?_
      refine am_iload 71 dX5_placeOf_71 rfl ?_
      refine am_iadd 73 dX5_placeOf_73 ?_
      rw [am_cellN]
      refine am_iaload 74 dX5_placeOf_74 rfl (by repeat (first | assumption | exact am_ue | refine am_un (by first | assumption | decide | omega) ?_)) (am_ix (by omega) (by decide)) ?_
      rw [nI_clamp (n := 8 * r + k) (by omega)]
      refine am_iconst 75 (v := 0) dX5_placeOf_75 (by decide) ?_
      refine am_max 76 dX5_placeOf_76 jX5_69 (by decide) (Nat.le_of_ble_eq_true rfl) ?_
      refine am_i2l 79 dX5_placeOf_79 ?_
      rw [m_sp_l, show lN (sig (8 * r + k)).toInt.toNat = lN (m_sp sig (8 * r + k)) from rfl]
      refine am_lstore 80 dX5_placeOf_80 (by decide) ?_
      refine am_lload 82 dX5_placeOf_82 rfl ?_
      refine am_lload 84 dX5_placeOf_84 rfl ?_
      refine am_ladd 86 dX5_placeOf_86 ?_
      rw [lN_add, ← e1]
      refine am_lstore 87 dX5_placeOf_87 (by decide) ?_
      refine am_lload 89 dX5_placeOf_89 rfl ?_
      refine am_ldc2 91 dX5_placeOf_91 kX5_78 ?_
      refine am_lload 94 dX5_placeOf_94 rfl ?_
      refine am_lmul 96 dX5_placeOf_96 ?_
      rw [show (16 : Int64) = lN 16 from rfl, lN_mul]
      refine am_iload_n 97 dX5_placeOf_97 rfl ?_
      refine am_if_eq 98 106 dX5_placeOf_98 rfl (fun c98 => ?_) (fun c98 => ?_)
      · have hY : isY = false := by cases isY <;> simp_all [m_bi]
        subst hY
        refine am_iload 106 dX5_placeOf_106 rfl ?_
        refine am_i2l 108 dX5_placeOf_108 ?_
        rw [nI_l (by omega)]
        refine am_lmul 109 dX5_placeOf_109 ?_
        rw [lN_mul]
        refine am_ladd 110 dX5_placeOf_110 ?_
        first | rw [lN_add, show m_mo sig true (c % 8) (c / 8) r k + 16 * m_sp sig (8 * r + k) * r = m_mo sig true (c % 8) (c / 8) r (k + 1) from e2.symm] | rw [lN_add, show m_mo sig false (c % 8) (c / 8) r k + 16 * m_sp sig (8 * r + k) * k = m_mo sig false (c % 8) (c / 8) r (k + 1) from e2.symm]
        refine am_lstore 111 dX5_placeOf_111 (by decide) ?_
        refine am_iinc 113 (v := nI (k + 1)) dX5_placeOf_113 rfl (nI_1 (k)) (by decide) ?_
        refine am_goto 116 (tgt := 49) dX5_placeOf_116 rfl ?_
        exact ih2 _ (by omega)
      · have hY : isY = true := by cases isY <;> simp_all [m_bi]
        subst hY
        refine am_iload 101 dX5_placeOf_101 rfl ?_
        refine am_goto 103 (tgt := 108) dX5_placeOf_103 rfl ?_
        refine am_i2l 108 dX5_placeOf_108 ?_
        rw [nI_l (by omega)]
        refine am_lmul 109 dX5_placeOf_109 ?_
        rw [lN_mul]
        refine am_ladd 110 dX5_placeOf_110 ?_
        first | rw [lN_add, show m_mo sig true (c % 8) (c / 8) r k + 16 * m_sp sig (8 * r + k) * r = m_mo sig true (c % 8) (c / 8) r (k + 1) from e2.symm] | rw [lN_add, show m_mo sig false (c % 8) (c / 8) r k + 16 * m_sp sig (8 * r + k) * k = m_mo sig false (c % 8) (c / 8) r (k + 1) from e2.symm]
        refine am_lstore 111 dX5_placeOf_111 (by decide) ?_
        refine am_iinc 113 (v := nI (k + 1)) dX5_placeOf_113 rfl (nI_1 (k)) (by decide) ?_
        refine am_goto 116 (tgt := 49) dX5_placeOf_116 rfl ?_
        exact ih2 _ (by omega)
theorem s_humNow (h : m_Pic f i sig reg pc px py chn pk hm) : AM mX5_humNow 0 0 [.ref i] n f (am_is (some (.int (m_hum sig))) n f) := by
  have hp := h
  obtain ⟨h0, h1, h2, h3, h4, h5, h6⟩ := h
  show AW mX5_humNow 0 0 0 [some (.ref i), none, none, none, none] [] n f _
  have hcl := m_ca_le (sig := sig)
  have hul := m_hu_le (sig := sig)
  refine am_lconst 0 (v := 0) dX5_humNow_0 rfl ?_
  refine am_lstore_n 1 dX5_humNow_1 (by decide) ?_
  refine am_iconst 2 (v := 0) dX5_humNow_2 (by decide) ?_
  refine am_istore_n 3 dX5_humNow_3 (by decide) ?_
  refine am_iconst 4 (v := 0) dX5_humNow_4 (by decide) ?_
  refine am_istore 5 dX5_humNow_5 (by decide) ?_
  refine am_for 48 (fun _ (_ : Unit) => True) (fun k _ => AW mX5_humNow 0 0 7 [some (.ref i), some (.long (lN (m_S (m_huF sig) k))), none, some (.int (nI (m_S (m_caF sig) k))), some (.int (nI k))] [] n f (am_is (some (.int (m_hum sig))) n f)) ?_ ?_ 0 () (by omega) trivial
  · rintro ⟨⟩ -
    generalize hw : m_S (m_caF sig) 48 = ca at hcl
    generalize hm : m_S (m_huF sig) 48 = hu at hul
    refine am_iload 7 dX5_humNow_7 rfl ?_
    refine am_bipush 9 (v := 48) dX5_humNow_9 (by decide) ?_
    refine am_icmp_ge 11 46 dX5_humNow_11 rfl (fun c11 => ?_) (fun c11 => absurd (by decide) c11)
    refine am_iload_n 46 dX5_humNow_46 rfl ?_
    refine am_if_le 47 58 dX5_humNow_47 rfl (fun c47 => ?_) (fun c47 => ?_)
    · have hw0 : ca = 0 := by
        have := am_ngtN 0 (Int32.not_lt.mpr c47) (by decide) (by omega)
        omega
      refine am_iconst 58 (v := 0) dX5_humNow_58 (by decide) ?_
      refine am_ireturn 59 dX5_humNow_59 rfl rfl ?_
      refine ⟨?_, rfl, rfl⟩
      unfold m_hum
      rw [hw, hm]
      first | rw [if_pos hw0] | (rw [if_neg (by omega)])
    · have hw0 : 0 < ca := am_gtN 0 (Int32.not_le.mp c47) (by decide) (by omega)
      refine am_lload_n 50 dX5_humNow_50 rfl ?_
      refine am_iload_n 51 dX5_humNow_51 rfl ?_
      refine am_i2l 52 dX5_humNow_52 ?_
      rw [nI_l (by omega)]
      refine am_ldiv 53 dX5_humNow_53 (m_lNe (by omega) (by omega)) ?_
      rw [pk_lDiv (by omega) (by omega) (by omega)]
      refine am_l2i 54 dX5_humNow_54 ?_
      rw [lN_i]
      refine am_goto 55 (tgt := 59) dX5_humNow_55 rfl ?_
      refine am_ireturn 59 dX5_humNow_59 rfl rfl ?_
      refine ⟨?_, rfl, rfl⟩
      unfold m_hum
      rw [hw, hm]
      first | rw [if_pos hw0] | (rw [if_neg (by omega)])
  · rintro k ⟨⟩ hk - ih
    have ih := ih () trivial
    refine am_iload 7 dX5_humNow_7 rfl ?_
    refine am_bipush 9 (v := 48) dX5_humNow_9 (by decide) ?_
    refine am_icmp_ge 11 46 dX5_humNow_11 rfl (fun c11 => absurd c11 (nI_ge hk (by decide))) (fun c11 => ?_)
    refine am_aload_n 14 dX5_humNow_14 rfl ?_
    refine am_iload 15 dX5_humNow_15 rfl ?_
    refine am_V1 17 (mc' := 0) (ms' := 0) (rc := 0) (rs := 0) dX5_humNow_17 lX5_36 ⟨by decide, by decide⟩ (by repeat (first | assumption | exact am_ue | refine am_un (by first | assumption | decide | omega) ?_)) (Nat.le_of_ble_eq_true rfl) (Nat.le_of_ble_eq_true rfl) (s_isTouched hp hk) ?_
    refine am_is_ct ?_
    refine am_if_ne 20 40 dX5_humNow_20 rfl (fun c20 => ?_) (fun c20 => ?_)
    · have e1 : m_S (m_huF sig) (k + 1) = m_S (m_huF sig) k := by show _ + m_huF sig k = _; unfold m_huF; rw [if_pos (Classical.not_not.mp fun z => c20 (m_tc_0.mpr z))]; rfl
      have e2 : m_S (m_caF sig) (k + 1) = m_S (m_caF sig) k := by show _ + m_caF sig k = _; unfold m_caF; rw [if_pos (Classical.not_not.mp fun z => c20 (m_tc_0.mpr z))]; rfl
      rw [e1, e2] at ih
      refine am_iinc 40 (v := nI (k + 1)) dX5_humNow_40 rfl (nI_1 (k)) (by decide) ?_
      refine am_goto 43 (tgt := 7) dX5_humNow_43 rfl ?_
      exact ih
    · have c20' := m_tc_0.mp c20
      have e1 : m_S (m_huF sig) (k + 1) = m_S (m_huF sig) k + (sig k).toInt.natAbs := by show _ + m_huF sig k = _; unfold m_huF; rw [if_neg c20']
      have e2 : m_S (m_caF sig) (k + 1) = m_S (m_caF sig) k + 1 := by show _ + m_caF sig k = _; unfold m_caF; rw [if_neg c20']
      rw [e1, e2] at ih
      refine am_lload_n 23 dX5_humNow_23 rfl ?_
      refine am_aload_n 24 dX5_humNow_24 rfl ?_
      refine am_getfield 25 dX5_humNow_25 fX5_9 (by repeat (first | assumption | exact am_ue | refine am_un (by first | assumption | decide | omega) ?_)) rfl ?_
      refine am_iload 28 dX5_humNow_28 rfl ?_
      refine am_iaload 30 dX5_humNow_30 rfl (by repeat (first | assumption | exact am_ue | refine am_un (by first | assumption | decide | omega) ?_)) (am_ix hk (by decide)) ?_
      rw [nI_clamp (n := k) (by omega)]
      refine am_i2l 31 dX5_humNow_31 ?_
      refine am_absL 32 dX5_humNow_32 jX5_82 (by decide) (Nat.le_of_ble_eq_true rfl) ?_
      rw [m_abs_l]
      refine am_ladd 35 dX5_humNow_35 ?_
      rw [lN_add]
      refine am_lstore_n 36 dX5_humNow_36 (by decide) ?_
      refine am_iinc 37 (v := nI (m_S (m_caF sig) k + 1)) dX5_humNow_37 rfl (nI_1 (m_S (m_caF sig) k)) (by decide) ?_
      refine am_iinc 40 (v := nI (k + 1)) dX5_humNow_40 rfl (nI_1 (k)) (by decide) ?_
      refine am_goto 43 (tgt := 7) dX5_humNow_43 rfl ?_
      exact ih
theorem s_findPeaks (h : m_Pic f i sig reg pc px py chn pk hm) : AM mX5_findPeaks 0 0 [.ref i] n f (fun o n' f' => ∃ pc' px' py', o = .inl none ∧ n = n' ∧ f' = m_put f i sig reg pc' px' py' chn (nI (m_pks sig 48).length) hm ∧ m_pkOk sig (m_pks sig 48) pc' px' py') := by
  have h0 := h.put
  show AW mX5_findPeaks 0 0 0 [some (.ref i), none] [] n f _
  rw [h0]
  generalize hQ : (fun (o : Option Value ⊕ Nat) (n' : Nat) (f' : Nat → am_C) => ∃ pc' px' py', o = .inl none ∧ n = n' ∧ f' = m_put (m_put f i sig reg pc px py chn pk hm) i sig reg pc' px' py' chn (nI (m_pks sig 48).length) hm ∧ m_pkOk sig (m_pks sig 48) pc' px' py') = Q
  refine am_aload_n 0 dX5_findPeaks_0 rfl ?_
  refine am_iconst 1 (v := 0) dX5_findPeaks_1 (by decide) ?_
  refine am_putfield 2 dX5_findPeaks_2 pX5_59 (by first | assumption | exact m_put_a0 | exact m_put_a1 | exact m_put_a2 | exact m_put_a3 | exact m_put_a4 | exact m_put_a5 | exact m_put_a6) rfl rfl (Nat.le_of_ble_eq_true rfl) ?_
  rw [show (List.set [Value.ref (i + 1), .ref (i + 2), .ref (i + 3), .ref (i + 4), .ref (i + 5), .ref (i + 6), .int pk, .int hm] 6 (.int 0)) = [.ref (i + 1), .ref (i + 2), .ref (i + 3), .ref (i + 4), .ref (i + 5), .ref (i + 6), .int 0, .int hm] from rfl, m_put_0]
  refine am_iconst 5 (v := 0) dX5_findPeaks_5 (by decide) ?_
  refine am_istore_n 6 dX5_findPeaks_6 (by decide) ?_
  refine am_for 48 (fun k (z : (Nat → Int32) × (Nat → Int32) × (Nat → Int32)) => m_pkOk sig (m_pks sig k) z.1 z.2.1 z.2.2) (fun k z => AW mX5_findPeaks 0 0 7 [some (.ref i), some (.int (nI k))] [] n (m_put f i sig reg z.1 z.2.1 z.2.2 chn (nI (m_pks sig k).length) hm) Q) ?_ ?_ 0 (pc, px, py) (by omega) (fun j hj => by simp [m_pks] at hj)
  · rintro ⟨a, b, c⟩ hok
    refine am_iload_n 7 dX5_findPeaks_7 rfl ?_
    refine am_bipush 8 (v := 48) dX5_findPeaks_8 (by decide) ?_
    refine am_icmp_ge 10 85 dX5_findPeaks_10 rfl (fun c10 => ?_) (fun c10 => absurd (by decide) c10)
    refine am_return 85 dX5_findPeaks_85 rfl ?_
    subst hQ
    exact ⟨a, b, c, rfl, rfl, by rw [← h0], hok⟩
  · rintro k ⟨a, b, c⟩ hk hok ih
    have hok : m_pkOk sig (m_pks sig k) a b c := hok
    have hlen := m_pks_len (sig := sig) (k := k)
    have hpk := m_pks_succ (sig := sig) (k := k)
    show AW mX5_findPeaks 0 0 7 [some (.ref i), some (.int (nI k))] [] n (m_put f i sig reg a b c chn (nI (m_pks sig k).length) hm) Q
    refine am_iload_n 7 dX5_findPeaks_7 rfl ?_
    refine am_bipush 8 (v := 48) dX5_findPeaks_8 (by decide) ?_
    refine am_icmp_ge 10 85 dX5_findPeaks_10 rfl (fun c10 => absurd c10 (nI_ge hk (by decide))) (fun c10 => ?_)
    refine am_aload_n 13 dX5_findPeaks_13 rfl ?_
    refine am_iload_n 14 dX5_findPeaks_14 rfl ?_
    refine am_V1 15 (mc' := 0) (ms' := 0) (rc := 0) (rs := 0) dX5_findPeaks_15 lX5_36 ⟨by decide, by decide⟩ (by first | assumption | exact m_put_a0 | exact m_put_a1 | exact m_put_a2 | exact m_put_a3 | exact m_put_a4 | exact m_put_a5 | exact m_put_a6) (Nat.le_of_ble_eq_true rfl) (Nat.le_of_ble_eq_true rfl) (s_isTouched m_put_pic hk) ?_
    refine am_is_ct ?_
    refine am_if_eq 18 79 dX5_findPeaks_18 rfl (fun c18 => ?_) (fun c18 => ?_)
    · have hf : m_isPk sig k = false := by simp [m_isPk, m_tc_0.mp c18]
      rw [if_neg (by simp [hf])] at hpk
      have ih := ih (a, b, c) (by rw [hpk]; exact hok)
      rw [hpk] at ih
      refine am_iinc 79 (v := nI (k + 1)) dX5_findPeaks_79 rfl (nI_1 (k)) (by decide) ?_
      refine am_goto 82 (tgt := 7) dX5_findPeaks_82 rfl ?_
      first | exact ih | (rw [List.length_append] at ih; exact ih)
    · refine am_aload_n 21 dX5_findPeaks_21 rfl ?_
      refine am_iload_n 22 dX5_findPeaks_22 rfl ?_
      refine am_V1 23 (mc' := 0) (ms' := 0) (rc := 0) (rs := 0) dX5_findPeaks_23 lX5_62 ⟨by decide, by decide⟩ (by first | assumption | exact m_put_a0 | exact m_put_a1 | exact m_put_a2 | exact m_put_a3 | exact m_put_a4 | exact m_put_a5 | exact m_put_a6) (Nat.le_of_ble_eq_true rfl) (Nat.le_of_ble_eq_true rfl) (s_isSummit m_put_pic hk) ?_
      refine am_is_ct ?_
      refine am_if_eq 26 79 dX5_findPeaks_26 rfl (fun c26 => ?_) (fun c26 => ?_)
      · have hf : m_isPk sig k = false := by
          unfold m_isPk
          cases hs : m_sum sig k
          · simp
          · rw [hs] at c26; exact absurd c26 (by decide)
        rw [if_neg (by simp [hf])] at hpk
        have ih := ih (a, b, c) (by rw [hpk]; exact hok)
        rw [hpk] at ih
        refine am_iinc 79 (v := nI (k + 1)) dX5_findPeaks_79 rfl (nI_1 (k)) (by decide) ?_
        refine am_goto 82 (tgt := 7) dX5_findPeaks_82 rfl ?_
        first | exact ih | (rw [List.length_append] at ih; exact ih)
      · have hf : m_isPk sig k = true := by
          unfold m_isPk
          cases hs : m_sum sig k
          · rw [hs] at c26; exact absurd (if_neg (by decide)) c26
          · simp [Classical.not_not.mp fun z => c18 (m_tc_0.mpr z)]
        rw [if_pos hf] at hpk
        have ih := ih (_, _, _) (by rw [hpk]; exact m_pkOk_push hok)
        rw [hpk] at ih
        refine am_aload_n 29 dX5_findPeaks_29 rfl ?_
        refine am_getfield 30 dX5_findPeaks_30 fX5_18 (by first | assumption | exact m_put_a0 | exact m_put_a1 | exact m_put_a2 | exact m_put_a3 | exact m_put_a4 | exact m_put_a5 | exact m_put_a6) rfl ?_
        refine am_aload_n 33 dX5_findPeaks_33 rfl ?_
        refine am_getfield 34 dX5_findPeaks_34 fX5_59 (by first | assumption | exact m_put_a0 | exact m_put_a1 | exact m_put_a2 | exact m_put_a3 | exact m_put_a4 | exact m_put_a5 | exact m_put_a6) rfl ?_
        refine am_iload_n 37 dX5_findPeaks_37 rfl ?_
        refine am_iastore 38 dX5_findPeaks_38 rfl (by first | assumption | exact m_put_a0 | exact m_put_a1 | exact m_put_a2 | exact m_put_a3 | exact m_put_a4 | exact m_put_a5 | exact m_put_a6) (am_ix (by omega) (by decide)) ?_
        rw [nI_clamp (n := (m_pks sig k).length) (by omega), m_put_3]
        refine am_aload_n 39 dX5_findPeaks_39 rfl ?_
        refine am_getfield 40 dX5_findPeaks_40 fX5_21 (by first | assumption | exact m_put_a0 | exact m_put_a1 | exact m_put_a2 | exact m_put_a3 | exact m_put_a4 | exact m_put_a5 | exact m_put_a6) rfl ?_
        refine am_aload_n 43 dX5_findPeaks_43 rfl ?_
        refine am_getfield 44 dX5_findPeaks_44 fX5_59 (by first | assumption | exact m_put_a0 | exact m_put_a1 | exact m_put_a2 | exact m_put_a3 | exact m_put_a4 | exact m_put_a5 | exact m_put_a6) rfl ?_
        refine am_aload_n 47 dX5_findPeaks_47 rfl ?_
        refine am_iload_n 48 dX5_findPeaks_48 rfl ?_
        refine am_iconst 49 (v := 0) dX5_findPeaks_49 (by decide) ?_
        refine am_V2 50 (mc' := 0) (ms' := 0) (rc := 0) (rs := 0) dX5_findPeaks_50 lX5_65 ⟨by decide, by decide⟩ (by first | assumption | exact m_put_a0 | exact m_put_a1 | exact m_put_a2 | exact m_put_a3 | exact m_put_a4 | exact m_put_a5 | exact m_put_a6) (Nat.le_of_ble_eq_true rfl) (Nat.le_of_ble_eq_true rfl) (s_placeOf (isY := false) m_put_pic hk) ?_
        refine am_is_ct ?_
        refine am_iastore 53 dX5_findPeaks_53 rfl (by first | assumption | exact m_put_a0 | exact m_put_a1 | exact m_put_a2 | exact m_put_a3 | exact m_put_a4 | exact m_put_a5 | exact m_put_a6) (am_ix (by omega) (by decide)) ?_
        rw [nI_clamp (n := (m_pks sig k).length) (by omega), m_put_4]
        refine am_aload_n 54 dX5_findPeaks_54 rfl ?_
        refine am_getfield 55 dX5_findPeaks_55 fX5_24 (by first | assumption | exact m_put_a0 | exact m_put_a1 | exact m_put_a2 | exact m_put_a3 | exact m_put_a4 | exact m_put_a5 | exact m_put_a6) rfl ?_
        refine am_aload_n 58 dX5_findPeaks_58 rfl ?_
        refine am_getfield 59 dX5_findPeaks_59 fX5_59 (by first | assumption | exact m_put_a0 | exact m_put_a1 | exact m_put_a2 | exact m_put_a3 | exact m_put_a4 | exact m_put_a5 | exact m_put_a6) rfl ?_
        refine am_aload_n 62 dX5_findPeaks_62 rfl ?_
        refine am_iload_n 63 dX5_findPeaks_63 rfl ?_
        refine am_iconst 64 (v := 1) dX5_findPeaks_64 (by decide) ?_
        refine am_V2 65 (mc' := 0) (ms' := 0) (rc := 0) (rs := 0) dX5_findPeaks_65 lX5_65 ⟨by decide, by decide⟩ (by first | assumption | exact m_put_a0 | exact m_put_a1 | exact m_put_a2 | exact m_put_a3 | exact m_put_a4 | exact m_put_a5 | exact m_put_a6) (Nat.le_of_ble_eq_true rfl) (Nat.le_of_ble_eq_true rfl) (s_placeOf (isY := true) m_put_pic hk) ?_
        refine am_is_ct ?_
        refine am_iastore 68 dX5_findPeaks_68 rfl (by first | assumption | exact m_put_a0 | exact m_put_a1 | exact m_put_a2 | exact m_put_a3 | exact m_put_a4 | exact m_put_a5 | exact m_put_a6) (am_ix (by omega) (by decide)) ?_
        rw [nI_clamp (n := (m_pks sig k).length) (by omega), m_put_5]
        refine am_aload_n 69 dX5_findPeaks_69 rfl ?_
        refine am_dup 70 dX5_findPeaks_70 rfl ?_
        refine am_getfield 71 dX5_findPeaks_71 fX5_59 (by first | assumption | exact m_put_a0 | exact m_put_a1 | exact m_put_a2 | exact m_put_a3 | exact m_put_a4 | exact m_put_a5 | exact m_put_a6) rfl ?_
        refine am_iconst 74 (v := 1) dX5_findPeaks_74 (by decide) ?_
        refine am_iadd 75 dX5_findPeaks_75 ?_
        refine am_putfield 76 dX5_findPeaks_76 pX5_59 (by first | assumption | exact m_put_a0 | exact m_put_a1 | exact m_put_a2 | exact m_put_a3 | exact m_put_a4 | exact m_put_a5 | exact m_put_a6) rfl rfl (Nat.le_of_ble_eq_true rfl) ?_
        rw [nI_1, show ∀ v : Int32, (List.set [Value.ref (i + 1), .ref (i + 2), .ref (i + 3), .ref (i + 4), .ref (i + 5), .ref (i + 6), .int (nI (m_pks sig k).length), .int hm] 6 (.int v)) = [.ref (i + 1), .ref (i + 2), .ref (i + 3), .ref (i + 4), .ref (i + 5), .ref (i + 6), .int v, .int hm] from fun _ => rfl, m_put_0]
        refine am_iinc 79 (v := nI (k + 1)) dX5_findPeaks_79 rfl (nI_1 (k)) (by decide) ?_
        refine am_goto 82 (tgt := 7) dX5_findPeaks_82 rfl ?_
        first | exact ih | (rw [List.length_append] at ih; exact ih)
end Picture3
end
section
/-! ===== Picture: look, and what is read off it; Sheet.settle ===== -/
section Picture4
variable {i j n : Nat} {f : Nat → am_C} {sig reg pc px py chn w bs : Nat → Int32} {pk hm ht : Int32}
theorem s_look (h : m_Pic f i sig reg pc px py chn pk hm) (hS : m_Sh f j w bs ht) (hd : j + 2 < i ∨ i + 6 < j) : AM mX5_look 0 0 [.ref i, .ref j] n f (fun o n' f' => ∃ pc' px' py' chn', o = .inl none ∧ n = n' ∧ f' = m_put f i (fun k => ht + w k - bs k) (m_reg (fun k => ht + w k - bs k)) pc' px' py' chn' (nI (m_pks (fun k => ht + w k - bs k) 48).length) (m_hum (fun k => ht + w k - bs k)) ∧ m_pkOk (fun k => ht + w k - bs k) (m_pks (fun k => ht + w k - bs k) 48) pc' px' py') := by
  generalize hsg : (fun k => ht + w k - bs k) = sg
  have h0 := h.put
  generalize hQ : (fun (o : Option Value ⊕ Nat) (n' : Nat) (f' : Nat → am_C) => ∃ pc' px' py' chn', o = .inl none ∧ n = n' ∧ f' = m_put f i sg (m_reg sg) pc' px' py' chn' (nI (m_pks sg 48).length) (m_hum sg) ∧ m_pkOk sg (m_pks sg 48) pc' px' py') = Q
  have hput : ∀ (a b c d e g a' b' c' d' e' g' : Nat → Int32) (x y x' y' : Int32), m_put (m_put f i a b c d e g x y) i a' b' c' d' e' g' x' y' = m_put f i a' b' c' d' e' g' x' y' := by
    intro a b c d e g a' b' c' d' e' g' x y x' y'
    exact m_put_ext (by rw [m_put_a0, m_put_a0]) m_put_a1 m_put_a2 m_put_a3 m_put_a4 m_put_a5 m_put_a6 (fun z hz => (m_put_out hz).trans (m_put_out hz))
  show AW mX5_look 0 0 0 [some (.ref i), some (.ref j), none] [] n f _
  have hB : ∀ z : Option Value, AW mX5_look 0 0 32 [some (.ref i), some (.ref j), z] [] n (m_put f i sg (fun _ => 0) pc px py chn pk hm) Q := by
    intro z
    refine am_iconst 32 (v := 0) dX5_look_32 (by decide) ?_
    refine am_istore_n 33 dX5_look_33 (by decide) ?_
    refine am_for 48 (fun _ (_ : Nat → Int32) => True) (fun k (ch : Nat → Int32) => AW mX5_look 0 0 34 [some (.ref i), some (.ref j), some (.int (nI k))] [] n (m_put f i sg (m_regs sg k) pc px py ch pk hm) Q) ?_ ?_ 0 chn (by omega) trivial
    · rintro ch -
      refine am_iload_n 34 dX5_look_34 rfl ?_
      refine am_bipush 35 (v := 48) dX5_look_35 (by decide) ?_
      refine am_icmp_ge 37 68 dX5_look_37 rfl (fun c37 => ?_) (fun c37 => absurd (by decide) c37)
      refine am_aload_n 68 dX5_look_68 rfl ?_
      refine am_V0 69 (mc' := 0) (ms' := 0) (rc := 0) (rs := 0) dX5_look_69 lX5_44 ⟨by decide, by decide⟩ (by first | assumption | exact m_put_a0 | exact m_put_a1 | exact m_put_a2 | exact m_put_a3 | exact m_put_a4 | exact m_put_a5 | exact m_put_a6) (Nat.le_of_ble_eq_true rfl) (Nat.le_of_ble_eq_true rfl) (s_findPeaks m_put_pic) ?_
      rintro o n' f' ⟨pc', px', py', rfl, rfl, rfl, hok⟩
      rw [hput]
      show AW mX5_look 0 0 72 [some (.ref i), some (.ref j), some (.int (nI 48))] [] n _ Q
      refine am_aload_n 72 dX5_look_72 rfl ?_
      refine am_aload_n 73 dX5_look_73 rfl ?_
      refine am_V0 74 (mc' := 0) (ms' := 0) (rc := 0) (rs := 0) dX5_look_74 lX5_47 ⟨by decide, by decide⟩ (by first | assumption | exact m_put_a0 | exact m_put_a1 | exact m_put_a2 | exact m_put_a3 | exact m_put_a4 | exact m_put_a5 | exact m_put_a6) (Nat.le_of_ble_eq_true rfl) (Nat.le_of_ble_eq_true rfl) (s_humNow m_put_pic) ?_
      refine am_is_ct ?_
      refine am_putfield 77 dX5_look_77 pX5_51 (by first | assumption | exact m_put_a0 | exact m_put_a1 | exact m_put_a2 | exact m_put_a3 | exact m_put_a4 | exact m_put_a5 | exact m_put_a6) rfl rfl (Nat.le_of_ble_eq_true rfl) ?_
      rw [show ∀ u v : Int32, (List.set [Value.ref (i + 1), .ref (i + 2), .ref (i + 3), .ref (i + 4), .ref (i + 5), .ref (i + 6), .int u, .int hm] 7 (.int v)) = [.ref (i + 1), .ref (i + 2), .ref (i + 3), .ref (i + 4), .ref (i + 5), .ref (i + 6), .int u, .int v] from fun _ _ => rfl, m_put_0]
      refine am_return 80 dX5_look_80 rfl ?_
      subst hQ
      exact ⟨pc', px', py', ch, rfl, rfl, rfl, hok⟩
    · rintro k ch hk - ih
      have hrg : m_regs sg (k + 1) = if 20 ≤ sg k ∧ m_regs sg k k = 0 then m_region sg k (m_regs sg k) else m_regs sg k := rfl
      refine am_iload_n 34 dX5_look_34 rfl ?_
      refine am_bipush 35 (v := 48) dX5_look_35 (by decide) ?_
      refine am_icmp_ge 37 68 dX5_look_37 rfl (fun c37 => absurd c37 (nI_ge hk (by decide))) (fun c37 => ?_)
      refine am_aload_n 40 dX5_look_40 rfl ?_
      refine am_iload_n 41 dX5_look_41 rfl ?_
      refine am_V1 42 (mc' := 0) (ms' := 0) (rc := 0) (rs := 0) dX5_look_42 lX5_36 ⟨by decide, by decide⟩ (by first | assumption | exact m_put_a0 | exact m_put_a1 | exact m_put_a2 | exact m_put_a3 | exact m_put_a4 | exact m_put_a5 | exact m_put_a6) (Nat.le_of_ble_eq_true rfl) (Nat.le_of_ble_eq_true rfl) (s_isTouched m_put_pic hk) ?_
      refine am_is_ct ?_
      refine am_if_eq 45 62 dX5_look_45 rfl (fun c45 => ?_) (fun c45 => ?_)
      · have hr2 : m_regs sg (k + 1) = m_regs sg k := by rw [hrg, if_neg fun z => m_tc_0.mp c45 z.1]
        rw [hr2] at ih
        refine am_iinc 62 (v := nI (k + 1)) dX5_look_62 rfl (nI_1 (k)) (by decide) ?_
        refine am_goto 65 (tgt := 34) dX5_look_65 rfl ?_
        exact ih _ trivial
      · have h20 : 20 ≤ sg k := Classical.not_not.mp fun z => c45 (m_tc_0.mpr z)
        refine am_aload_n 48 dX5_look_48 rfl ?_
        refine am_getfield 49 dX5_look_49 fX5_15 (by first | assumption | exact m_put_a0 | exact m_put_a1 | exact m_put_a2 | exact m_put_a3 | exact m_put_a4 | exact m_put_a5 | exact m_put_a6) rfl ?_
        refine am_iload_n 52 dX5_look_52 rfl ?_
        refine am_iaload 53 dX5_look_53 rfl (by first | assumption | exact m_put_a0 | exact m_put_a1 | exact m_put_a2 | exact m_put_a3 | exact m_put_a4 | exact m_put_a5 | exact m_put_a6) (am_ix hk (by decide)) ?_
        rw [nI_clamp (n := k) (by omega)]
        refine am_if_ne 54 62 dX5_look_54 rfl (fun c54 => ?_) (fun c54 => ?_)
        · have hr2 : m_regs sg (k + 1) = m_regs sg k := by rw [hrg, if_neg fun z => c54 z.2]
          rw [hr2] at ih
          refine am_iinc 62 (v := nI (k + 1)) dX5_look_62 rfl (nI_1 (k)) (by decide) ?_
          refine am_goto 65 (tgt := 34) dX5_look_65 rfl ?_
          exact ih _ trivial
        · have hr2 : m_regs sg (k + 1) = m_region sg k (m_regs sg k) := by rw [hrg, if_pos ⟨h20, c54⟩]
          rw [hr2] at ih
          refine am_aload_n 57 dX5_look_57 rfl ?_
          refine am_iload_n 58 dX5_look_58 rfl ?_
          refine am_V1 59 (mc' := 0) (ms' := 0) (rc := 0) (rs := 0) dX5_look_59 lX5_40 ⟨by decide, by decide⟩ (by first | assumption | exact m_put_a0 | exact m_put_a1 | exact m_put_a2 | exact m_put_a3 | exact m_put_a4 | exact m_put_a5 | exact m_put_a6) (Nat.le_of_ble_eq_true rfl) (Nat.le_of_ble_eq_true rfl) (s_measureRegion m_put_pic hk (m_regs_ok k (by omega)).1) ?_
          rintro o n' f' ⟨ch', rfl, rfl, rfl⟩
          rw [m_put_2, m_put_6]
          show AW mX5_look 0 0 62 [some (.ref i), some (.ref j), some (.int (nI k))] [] n _ Q
          refine am_iinc 62 (v := nI (k + 1)) dX5_look_62 rfl (nI_1 (k)) (by decide) ?_
          refine am_goto 65 (tgt := 34) dX5_look_65 rfl ?_
          exact ih _ trivial
  rw [h0]
  refine am_iconst 0 (v := 0) dX5_look_0 (by decide) ?_
  refine am_istore_n 1 dX5_look_1 (by decide) ?_
  refine am_for 48 (fun k (z : (Nat → Int32) × (Nat → Int32)) => ∀ x, x < k → z.1 x = sg x ∧ z.2 x = 0) (fun k z => AW mX5_look 0 0 2 [some (.ref i), some (.ref j), some (.int (nI k))] [] n (m_put f i z.1 z.2 pc px py chn pk hm) Q) ?_ ?_ 0 (sig, reg) (by omega) (fun x hx => by omega)
  · rintro ⟨a, b⟩ hab
    have hab : ∀ x, x < 48 → a x = sg x ∧ b x = 0 := hab
    show AW mX5_look 0 0 2 [some (.ref i), some (.ref j), some (.int (nI 48))] [] n (m_put f i a b pc px py chn pk hm) Q
    refine AW.ints sg m_put_a1 (fun x hx => (hab x hx).1) ?_
    rw [m_put_1]
    refine AW.ints (fun _ => 0) m_put_a2 (fun x hx => (hab x hx).2) ?_
    rw [m_put_2]
    refine am_iload_n 2 dX5_look_2 rfl ?_
    refine am_bipush 3 (v := 48) dX5_look_3 (by decide) ?_
    refine am_icmp_ge 5 32 dX5_look_5 rfl (fun c5 => ?_) (fun c5 => absurd (by decide) c5)
    exact hB _
  · rintro k ⟨a, b⟩ hk hab ih
    have hab : ∀ x, x < k → a x = sg x ∧ b x = 0 := hab
    show AW mX5_look 0 0 2 [some (.ref i), some (.ref j), some (.int (nI k))] [] n (m_put f i a b pc px py chn pk hm) Q
    have g0 := (hS.put (sig := a) (reg := b) (pc := pc) (px := px) (py := py) (chn := chn) (pk := pk) (hm := hm) hd)
    refine am_iload_n 2 dX5_look_2 rfl ?_
    refine am_bipush 3 (v := 48) dX5_look_3 (by decide) ?_
    refine am_icmp_ge 5 32 dX5_look_5 rfl (fun c5 => absurd c5 (nI_ge hk (by decide))) (fun c5 => ?_)
    refine am_aload_n 8 dX5_look_8 rfl ?_
    refine am_getfield 9 dX5_look_9 fX5_9 (by first | assumption | exact g0.1 | exact m_put_a0 | exact m_put_a1 | exact m_put_a2) rfl ?_
    refine am_iload_n 12 dX5_look_12 rfl ?_
    refine am_aload_n 13 dX5_look_13 rfl ?_
    refine am_iload_n 14 dX5_look_14 rfl ?_
    refine am_V1 15 (mc' := 0) (ms' := 0) (rc := 0) (rs := 0) dX5_look_15 lX5_30 ⟨by decide, by decide⟩ (by first | assumption | exact g0.1 | exact m_put_a0 | exact m_put_a1 | exact m_put_a2) (Nat.le_of_ble_eq_true rfl) (Nat.le_of_ble_eq_true rfl) (s_signalOf g0.1 g0.2.1 g0.2.2 hk) ?_
    refine am_is_ct ?_
    refine am_iastore 18 dX5_look_18 rfl (by first | assumption | exact g0.1 | exact m_put_a0 | exact m_put_a1 | exact m_put_a2) (am_ix hk (by decide)) ?_
    rw [nI_clamp (n := k) (by omega), m_put_1, show ht + w k - bs k = sg k from by rw [← hsg]]
    refine am_aload_n 19 dX5_look_19 rfl ?_
    refine am_getfield 20 dX5_look_20 fX5_15 (by first | assumption | exact g0.1 | exact m_put_a0 | exact m_put_a1 | exact m_put_a2) rfl ?_
    refine am_iload_n 23 dX5_look_23 rfl ?_
    refine am_iconst 24 (v := 0) dX5_look_24 (by decide) ?_
    refine am_iastore 25 dX5_look_25 rfl (by first | assumption | exact g0.1 | exact m_put_a0 | exact m_put_a1 | exact m_put_a2) (am_ix hk (by decide)) ?_
    rw [nI_clamp (n := k) (by omega), m_put_2]
    refine am_iinc 26 (v := nI (k + 1)) dX5_look_26 rfl (nI_1 (k)) (by decide) ?_
    refine am_goto 29 (tgt := 2) dX5_look_29 rfl ?_
    refine ih (_, _) (fun x hx => ?_)
    by_cases e : x = k
    · subst e
      exact ⟨am_up_eq, am_up_eq⟩
    · exact ⟨(am_up_ne e).trans (hab x (by omega)).1, (am_up_ne e).trans (hab x (by omega)).2⟩
theorem s_isCalm (h : m_Pic f i sig reg pc px py chn pk hm) : AM mX5_isCalm 0 0 [.ref i] n f (fun o n' f' => ∃ b : Bool, o = .inl (some (.int (m_bi b))) ∧ n = n' ∧ f' = f ∧ (b = true ↔ ∀ k, k < 48 → sig k = 0)) := by
  obtain ⟨h0, h1, h2, h3, h4, h5, h6⟩ := h
  show AW mX5_isCalm 0 0 0 [some (.ref i), none] [] n f _
  refine am_iconst 0 (v := 0) dX5_isCalm_0 (by decide) ?_
  refine am_istore_n 1 dX5_isCalm_1 (by decide) ?_
  refine am_for 48 (fun k (_ : Unit) => ∀ x, x < k → sig x = 0) (fun k _ => AW mX5_isCalm 0 0 2 [some (.ref i), some (.int (nI k))] [] n f _) ?_ ?_ 0 () (by omega) (fun x hx => by omega)
  · rintro ⟨⟩ hall
    refine am_iload_n 2 dX5_isCalm_2 rfl ?_
    refine am_bipush 3 (v := 48) dX5_isCalm_3 (by decide) ?_
    refine am_icmp_ge 5 25 dX5_isCalm_5 rfl (fun c5 => ?_) (fun c5 => absurd (by decide) c5)
    refine am_iconst 25 (v := 1) dX5_isCalm_25 (by decide) ?_
    refine am_ireturn 26 dX5_isCalm_26 rfl rfl ?_
    exact ⟨true, rfl, rfl, rfl, fun _ => hall, fun _ => rfl⟩
  · rintro k ⟨⟩ hk hall ih
    refine am_iload_n 2 dX5_isCalm_2 rfl ?_
    refine am_bipush 3 (v := 48) dX5_isCalm_3 (by decide) ?_
    refine am_icmp_ge 5 25 dX5_isCalm_5 rfl (fun c5 => absurd c5 (nI_ge hk (by decide))) (fun c5 => ?_)
    refine am_aload_n 8 dX5_isCalm_8 rfl ?_
    refine am_getfield 9 dX5_isCalm_9 fX5_9 (by repeat (first | assumption | exact am_ue | refine am_un (by first | assumption | decide | omega) ?_)) rfl ?_
    refine am_iload_n 12 dX5_isCalm_12 rfl ?_
    refine am_iaload 13 dX5_isCalm_13 rfl (by repeat (first | assumption | exact am_ue | refine am_un (by first | assumption | decide | omega) ?_)) (am_ix hk (by decide)) ?_
    rw [nI_clamp (n := k) (by omega)]
    refine am_if_eq 14 19 dX5_isCalm_14 rfl (fun c14 => ?_) (fun c14 => ?_)
    · refine am_iinc 19 (v := nI (k + 1)) dX5_isCalm_19 rfl (nI_1 (k)) (by decide) ?_
      refine am_goto 22 (tgt := 2) dX5_isCalm_22 rfl ?_
      refine ih () (fun x hx => ?_)
      by_cases e : x = k
      · subst e; exact c14
      · exact hall x (by omega)
    · refine am_iconst 17 (v := 0) dX5_isCalm_17 (by decide) ?_
      refine am_ireturn 18 dX5_isCalm_18 rfl rfl ?_
      exact ⟨false, rfl, rfl, rfl, fun z => absurd z (by decide), fun z => absurd (z k hk) c14⟩
theorem s_signalOfRow {y : Nat} (h : m_Pic f i sig reg pc px py chn pk hm) (hy : y < 6) : AM mX5_signalOfRow 0 0 [.ref i, .int (nI y)] n f (am_is (some (.int (m_I (fun x => sig (8 * y + x)) 8))) n f) := by
  obtain ⟨h0, h1, h2, h3, h4, h5, h6⟩ := h
  show AW mX5_signalOfRow 0 0 0 [some (.ref i), some (.int (nI y)), none, none] [] n f _
  refine am_iconst 0 (v := 0) dX5_signalOfRow_0 (by decide) ?_
  refine am_istore_n 1 dX5_signalOfRow_1 (by decide) ?_
  refine am_iconst 2 (v := 0) dX5_signalOfRow_2 (by decide) ?_
  refine am_istore_n 3 dX5_signalOfRow_3 (by decide) ?_
  refine am_for 8 (fun _ (_ : Unit) => True) (fun k _ => AW mX5_signalOfRow 0 0 4 [some (.ref i), some (.int (nI y)), some (.int (m_I (fun x => sig (8 * y + x)) k)), some (.int (nI k))] [] n f _) ?_ ?_ 0 () (by omega) trivial
  · rintro ⟨⟩ -
    refine am_iload_n 4 dX5_signalOfRow_4 rfl ?_
    refine am_bipush 5 (v := 8) dX5_signalOfRow_5 (by decide) ?_
    refine am_icmp_ge 7 30 dX5_signalOfRow_7 rfl (fun c7 => ?_) (fun c7 => absurd (by decide) c7)
    refine am_iload_n 30 dX5_signalOfRow_30 rfl ?_
    exact am_ireturn 31 dX5_signalOfRow_31 rfl rfl ⟨rfl, rfl, rfl⟩
  · rintro k ⟨⟩ hk - ih
    refine am_iload_n 4 dX5_signalOfRow_4 rfl ?_
    refine am_bipush 5 (v := 8) dX5_signalOfRow_5 (by decide) ?_
    refine am_icmp_ge 7 30 dX5_signalOfRow_7 rfl (fun c7 => absurd c7 (nI_ge hk (by decide))) (fun c7 => ?_)
    refine am_iload_n 10 dX5_signalOfRow_10 rfl ?_
    refine am_aload_n 11 dX5_signalOfRow_11 rfl ?_
    refine am_getfield 12 dX5_signalOfRow_12 fX5_9 (by repeat (first | assumption | exact am_ue | refine am_un (by first | assumption | decide | omega) ?_)) rfl ?_
    refine am_iload_n 15 dX5_signalOfRow_15 rfl ?_
    refine am_bipush 16 (v := 8) dX5_signalOfRow_16 (by decide) ?_
    refine am_imul 18 dX5_signalOfRow_18 ?_
    refine am_iload_n 19 dX5_signalOfRow_19 rfl ?_
    refine am_iadd 20 dX5_signalOfRow_20 ?_
    rw [am_cellN]
    refine am_iaload 21 dX5_signalOfRow_21 rfl (by repeat (first | assumption | exact am_ue | refine am_un (by first | assumption | decide | omega) ?_)) (am_ix (by omega) (by decide)) ?_
    rw [nI_clamp (n := 8 * y + k) (by omega)]
    refine am_iadd 22 dX5_signalOfRow_22 ?_
    refine am_istore_n 23 dX5_signalOfRow_23 (by decide) ?_
    refine am_iinc 24 (v := nI (k + 1)) dX5_signalOfRow_24 rfl (nI_1 (k)) (by decide) ?_
    refine am_goto 27 (tgt := 4) dX5_signalOfRow_27 rfl ?_
    exact ih () trivial
theorem s_touchedInRow {y : Nat} (h : m_Pic f i sig reg pc px py chn pk hm) (hy : y < 6) : AM mX5_touchedInRow 0 0 [.ref i, .int (nI y)] n f (am_is (some (.int (m_I (fun x => m_tc sig (8 * y + x)) 8))) n f) := by
  have hp := h
  obtain ⟨h0, h1, h2, h3, h4, h5, h6⟩ := h
  show AW mX5_touchedInRow 0 0 0 [some (.ref i), some (.int (nI y)), none, none] [] n f _
  refine am_iconst 0 (v := 0) dX5_touchedInRow_0 (by decide) ?_
  refine am_istore_n 1 dX5_touchedInRow_1 (by decide) ?_
  refine am_iconst 2 (v := 0) dX5_touchedInRow_2 (by decide) ?_
  refine am_istore_n 3 dX5_touchedInRow_3 (by decide) ?_
  refine am_for 8 (fun _ (_ : Unit) => True) (fun k _ => AW mX5_touchedInRow 0 0 4 [some (.ref i), some (.int (nI y)), some (.int (m_I (fun x => m_tc sig (8 * y + x)) k)), some (.int (nI k))] [] n f _) ?_ ?_ 0 () (by omega) trivial
  · rintro ⟨⟩ -
    refine am_iload_n 4 dX5_touchedInRow_4 rfl ?_
    refine am_bipush 5 (v := 8) dX5_touchedInRow_5 (by decide) ?_
    refine am_icmp_ge 7 37 dX5_touchedInRow_7 rfl (fun c7 => ?_) (fun c7 => absurd (by decide) c7)
    refine am_iload_n 37 dX5_touchedInRow_37 rfl ?_
    exact am_ireturn 38 dX5_touchedInRow_38 rfl rfl ⟨rfl, rfl, rfl⟩
  · rintro k ⟨⟩ hk - ih
    have ih := ih () trivial
    have e1 : m_I (fun x => m_tc sig (8 * y + x)) (k + 1) = m_I (fun x => m_tc sig (8 * y + x)) k + m_tc sig (8 * y + k) := rfl
    refine am_iload_n 4 dX5_touchedInRow_4 rfl ?_
    refine am_bipush 5 (v := 8) dX5_touchedInRow_5 (by decide) ?_
    refine am_icmp_ge 7 37 dX5_touchedInRow_7 rfl (fun c7 => absurd c7 (nI_ge hk (by decide))) (fun c7 => ?_)
    refine am_iload_n 10 dX5_touchedInRow_10 rfl ?_
    refine am_aload_n 11 dX5_touchedInRow_11 rfl ?_
    refine am_iload_n 12 dX5_touchedInRow_12 rfl ?_
    refine am_bipush 13 (v := 8) dX5_touchedInRow_13 (by decide) ?_
    refine am_imul 15 dX5_touchedInRow_15 ?_
    refine am_iload_n 16 dX5_touchedInRow_16 rfl ?_
    refine am_iadd 17 dX5_touchedInRow_17 ?_
    rw [am_cellN]
    refine am_V1 18 (mc' := 0) (ms' := 0) (rc := 0) (rs := 0) dX5_touchedInRow_18 lX5_36 ⟨by decide, by decide⟩ (by repeat (first | assumption | exact am_ue | refine am_un (by first | assumption | decide | omega) ?_)) (Nat.le_of_ble_eq_true rfl) (Nat.le_of_ble_eq_true rfl) (s_isTouched hp (c := 8 * y + k) (by omega)) ?_
    refine am_is_ct ?_
    refine am_if_eq 21 28 dX5_touchedInRow_21 rfl (fun c21 => ?_) (fun c21 => ?_)
    · rw [c21] at e1
      rw [e1] at ih
      refine am_iconst 28 (v := 0) dX5_touchedInRow_28 (by decide) ?_
      refine am_iadd 29 dX5_touchedInRow_29 ?_
      refine am_istore_n 30 dX5_touchedInRow_30 (by decide) ?_
      refine am_iinc 31 (v := nI (k + 1)) dX5_touchedInRow_31 rfl (nI_1 (k)) (by decide) ?_
      refine am_goto 34 (tgt := 4) dX5_touchedInRow_34 rfl ?_
      exact ih
    · have e2 : m_tc sig (8 * y + k) = 1 := by
        unfold m_tc at c21 ⊢
        split at c21
        · exact absurd rfl c21
        · rename_i h; rw [if_neg h]
      rw [e2] at e1
      rw [e1] at ih
      refine am_iconst 24 (v := 1) dX5_touchedInRow_24 (by decide) ?_
      refine am_goto 25 (tgt := 29) dX5_touchedInRow_25 rfl ?_
      refine am_iadd 29 dX5_touchedInRow_29 ?_
      refine am_istore_n 30 dX5_touchedInRow_30 (by decide) ?_
      refine am_iinc 31 (v := nI (k + 1)) dX5_touchedInRow_31 rfl (nI_1 (k)) (by decide) ?_
      refine am_goto 34 (tgt := 4) dX5_touchedInRow_34 rfl ?_
      exact ih
theorem s_sizeOf {k : Nat} (h : m_Look f i sig) (hk : k < (m_pks sig 48).length) : AM mX5_sizeOf 0 0 [.ref i, .int (nI k)] n f (am_is (some (.int (m_reg sig ((m_pks sig 48).getD k 0)))) n f) := by
  obtain ⟨pc, px, py, chn, ⟨h0, h1, h2, h3, h4, h5, h6⟩, hok⟩ := h
  have hl := m_pks_len (sig := sig) (k := 48)
  have hc := (m_pks48 hk).1
  show AW mX5_sizeOf 0 0 0 [some (.ref i), some (.int (nI k))] [] n f _
  refine am_aload_n 0 dX5_sizeOf_0 rfl ?_
  refine am_getfield 1 dX5_sizeOf_1 fX5_15 (by repeat (first | assumption | exact am_ue | refine am_un (by first | assumption | decide | omega) ?_)) rfl ?_
  refine am_aload_n 4 dX5_sizeOf_4 rfl ?_
  refine am_getfield 5 dX5_sizeOf_5 fX5_18 (by repeat (first | assumption | exact am_ue | refine am_un (by first | assumption | decide | omega) ?_)) rfl ?_
  refine am_iload_n 8 dX5_sizeOf_8 rfl ?_
  refine am_iaload 9 dX5_sizeOf_9 rfl (by repeat (first | assumption | exact am_ue | refine am_un (by first | assumption | decide | omega) ?_)) (am_ix (by omega) (by decide)) ?_
  rw [nI_clamp (n := k) (by omega), (hok k hk).1]
  refine am_iaload 10 dX5_sizeOf_10 rfl (by repeat (first | assumption | exact am_ue | refine am_un (by first | assumption | decide | omega) ?_)) (am_ix hc (by decide)) ?_
  rw [nI_clamp (n := (m_pks sig 48).getD k 0) (by omega)]
  exact am_ireturn 11 dX5_sizeOf_11 rfl rfl ⟨rfl, rfl, rfl⟩
theorem s_isPalm {k : Nat} (h : m_Look f i sig) (hk : k < (m_pks sig 48).length) : AM mX5_isPalm 0 0 [.ref i, .int (nI k)] n f (am_is (some (.int (if 14 < m_reg sig ((m_pks sig 48).getD k 0) then 1 else 0))) n f) := by
  have hL := h
  obtain ⟨pc, px, py, chn, ⟨h0, h1, h2, h3, h4, h5, h6⟩, hok⟩ := h
  show AW mX5_isPalm 0 0 0 [some (.ref i), some (.int (nI k))] [] n f _
  refine am_aload_n 0 dX5_isPalm_0 rfl ?_
  refine am_iload_n 1 dX5_isPalm_1 rfl ?_
  refine am_V1 2 (mc' := 0) (ms' := 0) (rc := 0) (rs := 0) dX5_isPalm_2 lX5_86 ⟨by decide, by decide⟩ (by repeat (first | assumption | exact am_ue | refine am_un (by first | assumption | decide | omega) ?_)) (Nat.le_of_ble_eq_true rfl) (Nat.le_of_ble_eq_true rfl) (s_sizeOf hL hk) ?_
  refine am_is_ct ?_
  refine am_bipush 5 (v := 14) dX5_isPalm_5 (by decide) ?_
  refine am_icmp_le 7 14 dX5_isPalm_7 rfl (fun c7 => ?_) (fun c7 => ?_)
  · refine am_iconst 14 (v := 0) dX5_isPalm_14 (by decide) ?_
    refine am_ireturn 15 dX5_isPalm_15 rfl rfl ?_
    exact ⟨by first | rw [if_pos (Int32.not_le.mp c7)] | rw [if_neg (Int32.not_lt.mpr c7)], rfl, rfl⟩
  · refine am_iconst 10 (v := 1) dX5_isPalm_10 (by decide) ?_
    refine am_goto 11 (tgt := 15) dX5_isPalm_11 rfl ?_
    refine am_ireturn 15 dX5_isPalm_15 rfl rfl ?_
    exact ⟨by first | rw [if_pos (Int32.not_le.mp c7)] | rw [if_neg (Int32.not_lt.mpr c7)], rfl, rfl⟩
theorem s_countPalms (h : m_Look f i sig) : AM mX5_countPalms 0 0 [.ref i] n f (am_is (some (.int (m_I (fun k => if 14 < m_reg sig ((m_pks sig 48).getD k 0) then 1 else 0) (m_pks sig 48).length))) n f) := by
  have hL := h
  obtain ⟨pc, px, py, chn, ⟨h0, h1, h2, h3, h4, h5, h6⟩, hok⟩ := h
  have hl := m_pks_len (sig := sig) (k := 48)
  show AW mX5_countPalms 0 0 0 [some (.ref i), none, none] [] n f _
  refine am_iconst 0 (v := 0) dX5_countPalms_0 (by decide) ?_
  refine am_istore_n 1 dX5_countPalms_1 (by decide) ?_
  refine am_iconst 2 (v := 0) dX5_countPalms_2 (by decide) ?_
  refine am_istore_n 3 dX5_countPalms_3 (by decide) ?_
  refine am_for (m_pks sig 48).length (fun _ (_ : Unit) => True) (fun k _ => AW mX5_countPalms 0 0 4 [some (.ref i), some (.int (m_I (fun k => if 14 < m_reg sig ((m_pks sig 48).getD k 0) then 1 else 0) k)), some (.int (nI k))] [] n f _) ?_ ?_ 0 () (by omega) trivial
  · rintro ⟨⟩ -
    refine am_iload_n 4 dX5_countPalms_4 rfl ?_
    refine am_aload_n 5 dX5_countPalms_5 rfl ?_
    refine am_getfield 6 dX5_countPalms_6 fX5_59 (by repeat (first | assumption | exact am_ue | refine am_un (by first | assumption | decide | omega) ?_)) rfl ?_
    refine am_icmp_ge 9 34 dX5_countPalms_9 rfl (fun c9 => ?_) (fun c9 => absurd (Int32.le_refl _) c9)
    refine am_iload_n 34 dX5_countPalms_34 rfl ?_
    exact am_ireturn 35 dX5_countPalms_35 rfl rfl ⟨rfl, rfl, rfl⟩
  · rintro k ⟨⟩ hk - ih
    have ih := ih () trivial
    have e1 : m_I (fun k => if 14 < m_reg sig ((m_pks sig 48).getD k 0) then (1 : Int32) else 0) (k + 1) = m_I (fun k => if 14 < m_reg sig ((m_pks sig 48).getD k 0) then 1 else 0) k + (if 14 < m_reg sig ((m_pks sig 48).getD k 0) then 1 else 0) := rfl
    rw [e1] at ih
    refine am_iload_n 4 dX5_countPalms_4 rfl ?_
    refine am_aload_n 5 dX5_countPalms_5 rfl ?_
    refine am_getfield 6 dX5_countPalms_6 fX5_59 (by repeat (first | assumption | exact am_ue | refine am_un (by first | assumption | decide | omega) ?_)) rfl ?_
    refine am_icmp_ge 9 34 dX5_countPalms_9 rfl (fun c9 => absurd c9 (nI_ge hk (by omega))) (fun c9 => ?_)
    refine am_iload_n 12 dX5_countPalms_12 rfl ?_
    refine am_aload_n 13 dX5_countPalms_13 rfl ?_
    refine am_iload_n 14 dX5_countPalms_14 rfl ?_
    refine am_V1 15 (mc' := 0) (ms' := 0) (rc := 0) (rs := 0) dX5_countPalms_15 lX5_89 ⟨by decide, by decide⟩ (by repeat (first | assumption | exact am_ue | refine am_un (by first | assumption | decide | omega) ?_)) (Nat.le_of_ble_eq_true rfl) (Nat.le_of_ble_eq_true rfl) (s_isPalm hL hk) ?_
    refine am_is_ct ?_
    refine am_if_eq 18 25 dX5_countPalms_18 rfl (fun c18 => ?_) (fun c18 => ?_)
    · rw [c18] at ih
      refine am_iconst 25 (v := 0) dX5_countPalms_25 (by decide) ?_
      refine am_iadd 26 dX5_countPalms_26 ?_
      refine am_istore_n 27 dX5_countPalms_27 (by decide) ?_
      refine am_iinc 28 (v := nI (k + 1)) dX5_countPalms_28 rfl (nI_1 (k)) (by decide) ?_
      refine am_goto 31 (tgt := 4) dX5_countPalms_31 rfl ?_
      exact ih
    · have e2 : (if 14 < m_reg sig ((m_pks sig 48).getD k 0) then (1 : Int32) else 0) = 1 := by
        split
        · rfl
        · rename_i h; exact absurd (if_neg h) c18
      rw [e2] at ih
      refine am_iconst 21 (v := 1) dX5_countPalms_21 (by decide) ?_
      refine am_goto 22 (tgt := 26) dX5_countPalms_22 rfl ?_
      refine am_iadd 26 dX5_countPalms_26 ?_
      refine am_istore_n 27 dX5_countPalms_27 (by decide) ?_
      refine am_iinc 28 (v := nI (k + 1)) dX5_countPalms_28 rfl (nI_1 (k)) (by decide) ?_
      refine am_goto 31 (tgt := 4) dX5_countPalms_31 rfl ?_
      exact ih
theorem s_peaksInRow {y : Nat} (h : m_Look f i sig) (hy : y < 6) : AM mX5_peaksInRow 0 0 [.ref i, .int (nI y)] n f (am_is (some (.int (m_I (fun k => if (m_pks sig 48).getD k 0 / 8 = y then 1 else 0) (m_pks sig 48).length))) n f) := by
  have hL := h
  obtain ⟨pc, px, py, chn, ⟨h0, h1, h2, h3, h4, h5, h6⟩, hok⟩ := h
  have hl := m_pks_len (sig := sig) (k := 48)
  show AW mX5_peaksInRow 0 0 0 [some (.ref i), some (.int (nI y)), none, none] [] n f _
  refine am_iconst 0 (v := 0) dX5_peaksInRow_0 (by decide) ?_
  refine am_istore_n 1 dX5_peaksInRow_1 (by decide) ?_
  refine am_iconst 2 (v := 0) dX5_peaksInRow_2 (by decide) ?_
  refine am_istore_n 3 dX5_peaksInRow_3 (by decide) ?_
  refine am_for (m_pks sig 48).length (fun _ (_ : Unit) => True) (fun k _ => AW mX5_peaksInRow 0 0 4 [some (.ref i), some (.int (nI y)), some (.int (m_I (fun k => if (m_pks sig 48).getD k 0 / 8 = y then 1 else 0) k)), some (.int (nI k))] [] n f _) ?_ ?_ 0 () (by omega) trivial
  · rintro ⟨⟩ -
    refine am_iload_n 4 dX5_peaksInRow_4 rfl ?_
    refine am_aload_n 5 dX5_peaksInRow_5 rfl ?_
    refine am_getfield 6 dX5_peaksInRow_6 fX5_59 (by repeat (first | assumption | exact am_ue | refine am_un (by first | assumption | decide | omega) ?_)) rfl ?_
    refine am_icmp_ge 9 39 dX5_peaksInRow_9 rfl (fun c9 => ?_) (fun c9 => absurd (Int32.le_refl _) c9)
    refine am_iload_n 39 dX5_peaksInRow_39 rfl ?_
    exact am_ireturn 40 dX5_peaksInRow_40 rfl rfl ⟨rfl, rfl, rfl⟩
  · rintro k ⟨⟩ hk - ih
    have ih := ih () trivial
    have hc := (m_pks48 hk).1
    have e1 : m_I (fun k => if (m_pks sig 48).getD k 0 / 8 = y then (1 : Int32) else 0) (k + 1) = m_I (fun k => if (m_pks sig 48).getD k 0 / 8 = y then 1 else 0) k + (if (m_pks sig 48).getD k 0 / 8 = y then 1 else 0) := rfl
    rw [e1] at ih
    refine am_iload_n 4 dX5_peaksInRow_4 rfl ?_
    refine am_aload_n 5 dX5_peaksInRow_5 rfl ?_
    refine am_getfield 6 dX5_peaksInRow_6 fX5_59 (by repeat (first | assumption | exact am_ue | refine am_un (by first | assumption | decide | omega) ?_)) rfl ?_
    refine am_icmp_ge 9 39 dX5_peaksInRow_9 rfl (fun c9 => absurd c9 (nI_ge hk (by omega))) (fun c9 => ?_)
    refine am_iload_n 12 dX5_peaksInRow_12 rfl ?_
    refine am_aload_n 13 dX5_peaksInRow_13 rfl ?_
    refine am_getfield 14 dX5_peaksInRow_14 fX5_18 (by repeat (first | assumption | exact am_ue | refine am_un (by first | assumption | decide | omega) ?_)) rfl ?_
    refine am_iload_n 17 dX5_peaksInRow_17 rfl ?_
    refine am_iaload 18 dX5_peaksInRow_18 rfl (by repeat (first | assumption | exact am_ue | refine am_un (by first | assumption | decide | omega) ?_)) (am_ix (by omega) (by decide)) ?_
    rw [nI_clamp (n := k) (by omega), (hok k hk).1]
    refine am_bipush 19 (v := 8) dX5_peaksInRow_19 (by decide) ?_
    refine am_idiv 21 dX5_peaksInRow_21 (by decide) ?_
    rw [am_div8 (by omega)]
    refine am_iload_n 22 dX5_peaksInRow_22 rfl ?_
    refine am_icmp_ne 23 30 dX5_peaksInRow_23 rfl (fun c23 => ?_) (fun c23 => ?_)
    · rw [if_neg (fun z => c23 (by rw [z]))] at ih
      refine am_iconst 30 (v := 0) dX5_peaksInRow_30 (by decide) ?_
      refine am_iadd 31 dX5_peaksInRow_31 ?_
      refine am_istore_n 32 dX5_peaksInRow_32 (by decide) ?_
      refine am_iinc 33 (v := nI (k + 1)) dX5_peaksInRow_33 rfl (nI_1 (k)) (by decide) ?_
      refine am_goto 36 (tgt := 4) dX5_peaksInRow_36 rfl ?_
      exact ih
    · rw [if_pos (am_eqN y c23 (by omega) (by omega))] at ih
      refine am_iconst 26 (v := 1) dX5_peaksInRow_26 (by decide) ?_
      refine am_goto 27 (tgt := 31) dX5_peaksInRow_27 rfl ?_
      refine am_iadd 31 dX5_peaksInRow_31 ?_
      refine am_istore_n 32 dX5_peaksInRow_32 (by decide) ?_
      refine am_iinc 33 (v := nI (k + 1)) dX5_peaksInRow_33 rfl (nI_1 (k)) (by decide) ?_
      refine am_goto 36 (tgt := 4) dX5_peaksInRow_36 rfl ?_
      exact ih
theorem s_peakAt {c : Nat} (h : m_Look f i sig) (hc : c < 48) : AM mX5_peakAt 0 0 [.ref i, .int (nI c)] n f (fun o n' f' => n = n' ∧ f' = f ∧ ((o = .inl (some (.int (-1))) ∧ c ∉ m_pks sig 48) ∨ ∃ k, k < (m_pks sig 48).length ∧ (m_pks sig 48).getD k 0 = c ∧ o = .inl (some (.int (nI k))))) := by
  have hL := h
  obtain ⟨pc, px, py, chn, ⟨h0, h1, h2, h3, h4, h5, h6⟩, hok⟩ := h
  have hl := m_pks_len (sig := sig) (k := 48)
  show AW mX5_peakAt 0 0 0 [some (.ref i), some (.int (nI c)), none] [] n f _
  refine am_iconst 0 (v := 0) dX5_peakAt_0 (by decide) ?_
  refine am_istore_n 1 dX5_peakAt_1 (by decide) ?_
  refine am_for (m_pks sig 48).length (fun k (_ : Unit) => ∀ x, x < k → (m_pks sig 48).getD x 0 ≠ c) (fun k _ => AW mX5_peakAt 0 0 2 [some (.ref i), some (.int (nI c)), some (.int (nI k))] [] n f _) ?_ ?_ 0 () (by omega) (fun x hx => by omega)
  · rintro ⟨⟩ hall
    have hno : c ∉ m_pks sig 48 := fun hm => by
      obtain ⟨x, hx, e⟩ := List.getElem_of_mem hm
      exact hall x hx (by rw [List.getD_eq_getElem?_getD, List.getElem?_eq_getElem hx]; exact e)
    refine am_iload_n 2 dX5_peakAt_2 rfl ?_
    refine am_aload_n 3 dX5_peakAt_3 rfl ?_
    refine am_getfield 4 dX5_peakAt_4 fX5_59 (by repeat (first | assumption | exact am_ue | refine am_un (by first | assumption | decide | omega) ?_)) rfl ?_
    refine am_icmp_ge 7 28 dX5_peakAt_7 rfl (fun c7 => ?_) (fun c7 => absurd (Int32.le_refl _) c7)
    refine am_iconst 28 (v := (-1)) dX5_peakAt_28 (by decide) ?_
    refine am_ireturn 29 dX5_peakAt_29 rfl rfl ?_
    exact ⟨rfl, rfl, Or.inl ⟨rfl, hno⟩⟩
  · rintro k ⟨⟩ hk hall ih
    have hck := (m_pks48 hk).1
    refine am_iload_n 2 dX5_peakAt_2 rfl ?_
    refine am_aload_n 3 dX5_peakAt_3 rfl ?_
    refine am_getfield 4 dX5_peakAt_4 fX5_59 (by repeat (first | assumption | exact am_ue | refine am_un (by first | assumption | decide | omega) ?_)) rfl ?_
    refine am_icmp_ge 7 28 dX5_peakAt_7 rfl (fun c7 => absurd c7 (nI_ge hk (by omega))) (fun c7 => ?_)
    refine am_aload_n 10 dX5_peakAt_10 rfl ?_
    refine am_getfield 11 dX5_peakAt_11 fX5_18 (by repeat (first | assumption | exact am_ue | refine am_un (by first | assumption | decide | omega) ?_)) rfl ?_
    refine am_iload_n 14 dX5_peakAt_14 rfl ?_
    refine am_iaload 15 dX5_peakAt_15 rfl (by repeat (first | assumption | exact am_ue | refine am_un (by first | assumption | decide | omega) ?_)) (am_ix (by omega) (by decide)) ?_
    rw [nI_clamp (n := k) (by omega), (hok k hk).1]
    refine am_iload_n 16 dX5_peakAt_16 rfl ?_
    refine am_icmp_ne 17 22 dX5_peakAt_17 rfl (fun c17 => ?_) (fun c17 => ?_)
    · refine am_iinc 22 (v := nI (k + 1)) dX5_peakAt_22 rfl (nI_1 (k)) (by decide) ?_
      refine am_goto 25 (tgt := 2) dX5_peakAt_25 rfl ?_
      refine ih () (fun x hx => ?_)
      by_cases e : x = k
      · subst e; exact fun z => c17 (by rw [z])
      · exact hall x (by omega)
    · refine am_iload_n 20 dX5_peakAt_20 rfl ?_
      refine am_ireturn 21 dX5_peakAt_21 rfl rfl ?_
      exact ⟨rfl, rfl, Or.inr ⟨k, hk, am_eqN c c17 (by omega) (by omega), rfl⟩⟩
theorem s_settle (h : m_Pic f i sig reg pc px py chn pk hm) (hS : m_Sh f j w bs ht) (hd : j + 2 < i ∨ i + 6 < j) : AM mX6_settle 0 0 [.ref j, .ref i] n f (am_is none n (va_up f (j + 2) (.inl (0, 48, .inl (m_settle sig reg bs))))) := by
  have hp := h
  obtain ⟨h0, h1, h2, h3, h4, h5, h6⟩ := h
  obtain ⟨g0, g1, g2⟩ := hS
  show AW mX6_settle 0 0 0 [some (.ref j), some (.ref i), none] [] n f _
  refine am_iconst 0 (v := 0) dX6_settle_0 (by decide) ?_
  refine am_istore_n 1 dX6_settle_1 (by decide) ?_
  have hh := am_for 48 (fun k (b' : Nat → Int32) => (∀ x, x < k → b' x = m_settle sig reg bs x) ∧ ∀ x, k ≤ x → b' x = bs x) (fun k b' => AW mX6_settle 0 0 2 [some (.ref j), some (.ref i), some (.int (nI k))] [] n (va_up f (j + 2) (.inl (0, 48, .inl b'))) (am_is none n (va_up f (j + 2) (.inl (0, 48, .inl (m_settle sig reg bs)))))) ?_ ?_ 0 bs (by omega) ⟨fun x hx => by omega, fun x _ => rfl⟩
  · rw [am_self g2] at hh
    exact hh
  · rintro b' ⟨hb1, hb2⟩
    refine am_iload_n 2 dX6_settle_2 rfl ?_
    refine am_bipush 3 (v := 48) dX6_settle_3 (by decide) ?_
    refine am_icmp_ge 5 51 dX6_settle_5 rfl (fun c5 => ?_) (fun c5 => absurd (by decide) c5)
    refine AW.ints (m_settle sig reg bs) am_ue hb1 ?_
    rw [am_uu]
    exact am_return 51 dX6_settle_51 rfl ⟨rfl, rfl, rfl⟩
  · rintro k b' hk ⟨hb1, hb2⟩ ih
    have hp2 : m_Pic (va_up f (j + 2) (.inl (0, 48, .inl b'))) i sig reg pc px py chn pk hm := ⟨am_un (by omega) h0, am_un (by omega) h1, am_un (by omega) h2, am_un (by omega) h3, am_un (by omega) h4, am_un (by omega) h5, am_un (by omega) h6⟩
    have hkb := hb2 k (Nat.le_refl k)
    refine am_iload_n 2 dX6_settle_2 rfl ?_
    refine am_bipush 3 (v := 48) dX6_settle_3 (by decide) ?_
    refine am_icmp_ge 5 51 dX6_settle_5 rfl (fun c5 => absurd c5 (nI_ge hk (by decide))) (fun c5 => ?_)
    refine am_aload_n 8 dX6_settle_8 rfl ?_
    refine am_iload_n 9 dX6_settle_9 rfl ?_
    refine am_V1 10 (mc' := 0) (ms' := 0) (rc := 0) (rs := 0) dX6_settle_10 lX6_35 ⟨by decide, by decide⟩ (by first | assumption | exact am_ue | exact am_un (by omega) g0 | exact am_un (by omega) h0 | exact am_un (by omega) h1 | exact am_un (by omega) h2) (Nat.le_of_ble_eq_true rfl) (Nat.le_of_ble_eq_true rfl) (s_isTouched hp2 hk) ?_
    refine am_is_ct ?_
    refine am_if_eq 13 27 dX6_settle_13 rfl (fun c13 => ?_) (fun c13 => ?_)
    · have hcond : ¬ (20 ≤ sig k ∧ reg k ≤ 14) := fun z => m_tc_0.mp c13 z.1
      refine am_aload_n 27 dX6_settle_27 rfl ?_
      refine am_getfield 28 dX6_settle_28 fX6_15 (by first | assumption | exact am_ue | exact am_un (by omega) g0 | exact am_un (by omega) h0 | exact am_un (by omega) h1 | exact am_un (by omega) h2) rfl ?_
      refine am_iload_n 31 dX6_settle_31 rfl ?_
      refine am_dup2 32 dX6_settle_32 rfl rfl ?_
      refine am_iaload 33 dX6_settle_33 rfl (by first | assumption | exact am_ue | exact am_un (by omega) g0 | exact am_un (by omega) h0 | exact am_un (by omega) h1 | exact am_un (by omega) h2) (am_ix hk (by decide)) ?_
      rw [nI_clamp (n := k) (by omega)]
      refine am_aload_n 34 dX6_settle_34 rfl ?_
      refine am_getfield 35 dX6_settle_35 fX6_44 (by first | assumption | exact am_ue | exact am_un (by omega) g0 | exact am_un (by omega) h0 | exact am_un (by omega) h1 | exact am_un (by omega) h2) rfl ?_
      refine am_iload_n 38 dX6_settle_38 rfl ?_
      refine am_iaload 39 dX6_settle_39 rfl (by first | assumption | exact am_ue | exact am_un (by omega) g0 | exact am_un (by omega) h0 | exact am_un (by omega) h1 | exact am_un (by omega) h2) (am_ix hk (by decide)) ?_
      rw [nI_clamp (n := k) (by omega)]
      refine am_S1 40 (mc' := 0) (ms' := 0) (rc := 0) (rs := 0) dX6_settle_40 lX6_47 ⟨by decide, by decide⟩ (Nat.le_of_ble_eq_true rfl) (Nat.le_of_ble_eq_true rfl) (s_stepFor) ?_
      refine am_is_ct ?_
      refine am_iadd 43 dX6_settle_43 ?_
      refine am_iastore 44 dX6_settle_44 rfl (by first | assumption | exact am_ue | exact am_un (by omega) g0 | exact am_un (by omega) h0 | exact am_un (by omega) h1 | exact am_un (by omega) h2) (am_ix hk (by decide)) ?_
      rw [am_uu, nI_clamp (n := k) (by omega)]
      refine am_iinc 45 (v := nI (k + 1)) dX6_settle_45 rfl (nI_1 (k)) (by decide) ?_
      refine am_goto 48 (tgt := 2) dX6_settle_48 rfl ?_
      refine ih _ ⟨fun x hx => ?_, fun x hx => ?_⟩
      · by_cases e : x = k
        · subst e
          unfold m_settle
          first | (rw [am_up_eq, if_neg hcond, hkb]) | (rw [if_pos hcond]; exact hkb)
        · first | (rw [am_up_ne e]; exact hb1 x (by omega)) | exact hb1 x (by omega)
      · first | (rw [am_up_ne (by omega)]; exact hb2 x (by omega)) | exact hb2 x (by omega)
    · refine am_aload_n 16 dX6_settle_16 rfl ?_
      refine am_getfield 17 dX6_settle_17 fX6_41 (by first | assumption | exact am_ue | exact am_un (by omega) g0 | exact am_un (by omega) h0 | exact am_un (by omega) h1 | exact am_un (by omega) h2) rfl ?_
      refine am_iload_n 20 dX6_settle_20 rfl ?_
      refine am_iaload 21 dX6_settle_21 rfl (by first | assumption | exact am_ue | exact am_un (by omega) g0 | exact am_un (by omega) h0 | exact am_un (by omega) h1 | exact am_un (by omega) h2) (am_ix hk (by decide)) ?_
      rw [nI_clamp (n := k) (by omega)]
      refine am_bipush 22 (v := 14) dX6_settle_22 (by decide) ?_
      refine am_icmp_le 24 45 dX6_settle_24 rfl (fun c24 => ?_) (fun c24 => ?_)
      · have hcond : 20 ≤ sig k ∧ reg k ≤ 14 := ⟨Classical.not_not.mp fun z => c13 (m_tc_0.mpr z), c24⟩
        refine am_iinc 45 (v := nI (k + 1)) dX6_settle_45 rfl (nI_1 (k)) (by decide) ?_
        refine am_goto 48 (tgt := 2) dX6_settle_48 rfl ?_
        refine ih _ ⟨fun x hx => ?_, fun x hx => ?_⟩
        · by_cases e : x = k
          · subst e
            unfold m_settle
            first | (rw [am_up_eq, if_neg hcond, hkb]) | (rw [if_pos hcond]; exact hkb)
          · first | (rw [am_up_ne e]; exact hb1 x (by omega)) | exact hb1 x (by omega)
        · first | (rw [am_up_ne (by omega)]; exact hb2 x (by omega)) | exact hb2 x (by omega)
      · have hcond : ¬ (20 ≤ sig k ∧ reg k ≤ 14) := fun z => c24 z.2
        refine am_aload_n 27 dX6_settle_27 rfl ?_
        refine am_getfield 28 dX6_settle_28 fX6_15 (by first | assumption | exact am_ue | exact am_un (by omega) g0 | exact am_un (by omega) h0 | exact am_un (by omega) h1 | exact am_un (by omega) h2) rfl ?_
        refine am_iload_n 31 dX6_settle_31 rfl ?_
        refine am_dup2 32 dX6_settle_32 rfl rfl ?_
        refine am_iaload 33 dX6_settle_33 rfl (by first | assumption | exact am_ue | exact am_un (by omega) g0 | exact am_un (by omega) h0 | exact am_un (by omega) h1 | exact am_un (by omega) h2) (am_ix hk (by decide)) ?_
        rw [nI_clamp (n := k) (by omega)]
        refine am_aload_n 34 dX6_settle_34 rfl ?_
        refine am_getfield 35 dX6_settle_35 fX6_44 (by first | assumption | exact am_ue | exact am_un (by omega) g0 | exact am_un (by omega) h0 | exact am_un (by omega) h1 | exact am_un (by omega) h2) rfl ?_
        refine am_iload_n 38 dX6_settle_38 rfl ?_
        refine am_iaload 39 dX6_settle_39 rfl (by first | assumption | exact am_ue | exact am_un (by omega) g0 | exact am_un (by omega) h0 | exact am_un (by omega) h1 | exact am_un (by omega) h2) (am_ix hk (by decide)) ?_
        rw [nI_clamp (n := k) (by omega)]
        refine am_S1 40 (mc' := 0) (ms' := 0) (rc := 0) (rs := 0) dX6_settle_40 lX6_47 ⟨by decide, by decide⟩ (Nat.le_of_ble_eq_true rfl) (Nat.le_of_ble_eq_true rfl) (s_stepFor) ?_
        refine am_is_ct ?_
        refine am_iadd 43 dX6_settle_43 ?_
        refine am_iastore 44 dX6_settle_44 rfl (by first | assumption | exact am_ue | exact am_un (by omega) g0 | exact am_un (by omega) h0 | exact am_un (by omega) h1 | exact am_un (by omega) h2) (am_ix hk (by decide)) ?_
        rw [am_uu, nI_clamp (n := k) (by omega)]
        refine am_iinc 45 (v := nI (k + 1)) dX6_settle_45 rfl (nI_1 (k)) (by decide) ?_
        refine am_goto 48 (tgt := 2) dX6_settle_48 rfl ?_
        refine ih _ ⟨fun x hx => ?_, fun x hx => ?_⟩
        · by_cases e : x = k
          · subst e
            unfold m_settle
            first | (rw [am_up_eq, if_neg hcond, hkb]) | (rw [if_pos hcond]; exact hkb)
          · first | (rw [am_up_ne e]; exact hb1 x (by omega)) | exact hb1 x (by omega)
        · first | (rw [am_up_ne (by omega)]; exact hb2 x (by omega)) | exact hb2 x (by omega)
end Picture4
end
section
/-! ===== the class's constructors ===== -/
theorem dX0_init_0 : decode cX0_init 0 = .ok (.aload_n 0, 1) := by decide +kernel
theorem dX0_init_1 : decode cX0_init 1 = .ok (.invokespecial 3, 3) := by decide +kernel
theorem dX0_init_4 : decode cX0_init 4 = .ok (.aload_n 0, 1) := by decide +kernel
theorem dX0_init_5 : decode cX0_init 5 = .ok (.iconst 4, 1) := by decide +kernel
theorem dX0_init_6 : decode cX0_init 6 = .ok (.newarray .int, 2) := by decide +kernel
theorem dX0_init_8 : decode cX0_init 8 = .ok (.putfield 9, 3) := by decide +kernel
theorem dX0_init_11 : decode cX0_init 11 = .ok (.return_, 1) := by decide +kernel
theorem dX0_holds_0 : decode cX0_holds 0 = .ok (.iload_n 1, 1) := by decide +kernel
theorem dX0_holds_1 : decode cX0_holds 1 = .ok (.aload_n 0, 1) := by decide +kernel
theorem dX0_holds_2 : decode cX0_holds 2 = .ok (.getfield 15, 3) := by decide +kernel
theorem dX0_holds_5 : decode cX0_holds 5 = .ok (.if_icmp .lt 31, 3) := by decide +kernel
theorem dX0_holds_8 : decode cX0_holds 8 = .ok (.iload_n 1, 1) := by decide +kernel
theorem dX0_holds_9 : decode cX0_holds 9 = .ok (.aload_n 0, 1) := by decide +kernel
theorem dX0_holds_10 : decode cX0_holds 10 = .ok (.getfield 19, 3) := by decide +kernel
theorem dX0_holds_13 : decode cX0_holds 13 = .ok (.if_icmp .gt 23, 3) := by decide +kernel
theorem dX0_holds_16 : decode cX0_holds 16 = .ok (.iload_n 2, 1) := by decide +kernel
theorem dX0_holds_17 : decode cX0_holds 17 = .ok (.aload_n 0, 1) := by decide +kernel
theorem dX0_holds_18 : decode cX0_holds 18 = .ok (.getfield 22, 3) := by decide +kernel
theorem dX0_holds_21 : decode cX0_holds 21 = .ok (.if_icmp .lt 15, 3) := by decide +kernel
theorem dX0_holds_24 : decode cX0_holds 24 = .ok (.iload_n 2, 1) := by decide +kernel
theorem dX0_holds_25 : decode cX0_holds 25 = .ok (.aload_n 0, 1) := by decide +kernel
theorem dX0_holds_26 : decode cX0_holds 26 = .ok (.getfield 25, 3) := by decide +kernel
theorem dX0_holds_29 : decode cX0_holds 29 = .ok (.if_icmp .gt 7, 3) := by decide +kernel
theorem dX0_holds_32 : decode cX0_holds 32 = .ok (.iconst 1, 1) := by decide +kernel
theorem dX0_holds_33 : decode cX0_holds 33 = .ok (.goto 4, 3) := by decide +kernel
theorem dX0_holds_36 : decode cX0_holds 36 = .ok (.iconst 0, 1) := by decide +kernel
theorem dX0_holds_37 : decode cX0_holds 37 = .ok (.ireturn, 1) := by decide +kernel
theorem dX1_init_0 : decode cX1_init 0 = .ok (.aload_n 0, 1) := by decide +kernel
theorem dX1_init_1 : decode cX1_init 1 = .ok (.invokespecial 3, 3) := by decide +kernel
theorem dX1_init_4 : decode cX1_init 4 = .ok (.aload_n 0, 1) := by decide +kernel
theorem dX1_init_5 : decode cX1_init 5 = .ok (.iconst 4, 1) := by decide +kernel
theorem dX1_init_6 : decode cX1_init 6 = .ok (.anewarray 9, 3) := by decide +kernel
theorem dX1_init_9 : decode cX1_init 9 = .ok (.putfield 11, 3) := by decide +kernel
theorem dX1_init_12 : decode cX1_init 12 = .ok (.iconst 0, 1) := by decide +kernel
theorem dX1_init_13 : decode cX1_init 13 = .ok (.istore_n 1, 1) := by decide +kernel
theorem dX1_init_14 : decode cX1_init 14 = .ok (.iload_n 1, 1) := by decide +kernel
theorem dX1_init_15 : decode cX1_init 15 = .ok (.iconst 4, 1) := by decide +kernel
theorem dX1_init_16 : decode cX1_init 16 = .ok (.if_icmp .ge 22, 3) := by decide +kernel
theorem dX1_init_19 : decode cX1_init 19 = .ok (.aload_n 0, 1) := by decide +kernel
theorem dX1_init_20 : decode cX1_init 20 = .ok (.getfield 11, 3) := by decide +kernel
theorem dX1_init_23 : decode cX1_init 23 = .ok (.iload_n 1, 1) := by decide +kernel
theorem dX1_init_24 : decode cX1_init 24 = .ok (.new 9, 3) := by decide +kernel
theorem dX1_init_27 : decode cX1_init 27 = .ok (.dup, 1) := by decide +kernel
theorem dX1_init_28 : decode cX1_init 28 = .ok (.invokespecial 17, 3) := by decide +kernel
theorem dX1_init_31 : decode cX1_init 31 = .ok (.aastore, 1) := by decide +kernel
theorem dX1_init_32 : decode cX1_init 32 = .ok (.iinc 1 1, 3) := by decide +kernel
theorem dX1_init_35 : decode cX1_init 35 = .ok (.goto (-21), 3) := by decide +kernel
theorem dX1_init_38 : decode cX1_init 38 = .ok (.return_, 1) := by decide +kernel
theorem dX1_tell_0 : decode cX1_tell 0 = .ok (.aload_n 0, 1) := by decide +kernel
theorem dX1_tell_1 : decode cX1_tell 1 = .ok (.getfield 18, 3) := by decide +kernel
theorem dX1_tell_4 : decode cX1_tell 4 = .ok (.iconst 4, 1) := by decide +kernel
theorem dX1_tell_5 : decode cX1_tell 5 = .ok (.if_icmp .lt 5, 3) := by decide +kernel
theorem dX1_tell_8 : decode cX1_tell 8 = .ok (.iconst (-1), 1) := by decide +kernel
theorem dX1_tell_9 : decode cX1_tell 9 = .ok (.ireturn, 1) := by decide +kernel
theorem dX1_tell_10 : decode cX1_tell 10 = .ok (.aload_n 0, 1) := by decide +kernel
theorem dX1_tell_11 : decode cX1_tell 11 = .ok (.getfield 11, 3) := by decide +kernel
theorem dX1_tell_14 : decode cX1_tell 14 = .ok (.aload_n 0, 1) := by decide +kernel
theorem dX1_tell_15 : decode cX1_tell 15 = .ok (.getfield 18, 3) := by decide +kernel
theorem dX1_tell_18 : decode cX1_tell 18 = .ok (.aaload, 1) := by decide +kernel
theorem dX1_tell_19 : decode cX1_tell 19 = .ok (.astore 5, 2) := by decide +kernel
theorem dX1_tell_21 : decode cX1_tell 21 = .ok (.aload 5, 2) := by decide +kernel
theorem dX1_tell_23 : decode cX1_tell 23 = .ok (.iload_n 1, 1) := by decide +kernel
theorem dX1_tell_24 : decode cX1_tell 24 = .ok (.putfield 22, 3) := by decide +kernel
theorem dX1_tell_27 : decode cX1_tell 27 = .ok (.aload 5, 2) := by decide +kernel
theorem dX1_tell_29 : decode cX1_tell 29 = .ok (.iload_n 2, 1) := by decide +kernel
theorem dX1_tell_30 : decode cX1_tell 30 = .ok (.putfield 25, 3) := by decide +kernel
theorem dX1_tell_33 : decode cX1_tell 33 = .ok (.aload 5, 2) := by decide +kernel
theorem dX1_tell_35 : decode cX1_tell 35 = .ok (.iload_n 3, 1) := by decide +kernel
theorem dX1_tell_36 : decode cX1_tell 36 = .ok (.putfield 28, 3) := by decide +kernel
theorem dX1_tell_39 : decode cX1_tell 39 = .ok (.aload 5, 2) := by decide +kernel
theorem dX1_tell_41 : decode cX1_tell 41 = .ok (.iload 4, 2) := by decide +kernel
theorem dX1_tell_43 : decode cX1_tell 43 = .ok (.putfield 31, 3) := by decide +kernel
theorem dX1_tell_46 : decode cX1_tell 46 = .ok (.aload_n 0, 1) := by decide +kernel
theorem dX1_tell_47 : decode cX1_tell 47 = .ok (.dup, 1) := by decide +kernel
theorem dX1_tell_48 : decode cX1_tell 48 = .ok (.getfield 18, 3) := by decide +kernel
theorem dX1_tell_51 : decode cX1_tell 51 = .ok (.iconst 1, 1) := by decide +kernel
theorem dX1_tell_52 : decode cX1_tell 52 = .ok (.iadd, 1) := by decide +kernel
theorem dX1_tell_53 : decode cX1_tell 53 = .ok (.putfield 18, 3) := by decide +kernel
theorem dX1_tell_56 : decode cX1_tell 56 = .ok (.aload_n 0, 1) := by decide +kernel
theorem dX1_tell_57 : decode cX1_tell 57 = .ok (.getfield 18, 3) := by decide +kernel
theorem dX1_tell_60 : decode cX1_tell 60 = .ok (.iconst 1, 1) := by decide +kernel
theorem dX1_tell_61 : decode cX1_tell 61 = .ok (.isub, 1) := by decide +kernel
theorem dX1_tell_62 : decode cX1_tell 62 = .ok (.ireturn, 1) := by decide +kernel
theorem dX1_latestAt_0 : decode cX1_latestAt 0 = .ok (.aload_n 0, 1) := by decide +kernel
theorem dX1_latestAt_1 : decode cX1_latestAt 1 = .ok (.getfield 18, 3) := by decide +kernel
theorem dX1_latestAt_4 : decode cX1_latestAt 4 = .ok (.iconst 1, 1) := by decide +kernel
theorem dX1_latestAt_5 : decode cX1_latestAt 5 = .ok (.isub, 1) := by decide +kernel
theorem dX1_latestAt_6 : decode cX1_latestAt 6 = .ok (.istore_n 2, 1) := by decide +kernel
theorem dX1_latestAt_7 : decode cX1_latestAt 7 = .ok (.iload_n 2, 1) := by decide +kernel
theorem dX1_latestAt_8 : decode cX1_latestAt 8 = .ok (.ifCond .lt 31, 3) := by decide +kernel
theorem dX1_latestAt_11 : decode cX1_latestAt 11 = .ok (.aload_n 0, 1) := by decide +kernel
theorem dX1_latestAt_12 : decode cX1_latestAt 12 = .ok (.getfield 11, 3) := by decide +kernel
theorem dX1_latestAt_15 : decode cX1_latestAt 15 = .ok (.iload_n 2, 1) := by decide +kernel
theorem dX1_latestAt_16 : decode cX1_latestAt 16 = .ok (.aaload, 1) := by decide +kernel
theorem dX1_latestAt_17 : decode cX1_latestAt 17 = .ok (.iload_n 1, 1) := by decide +kernel
theorem dX1_latestAt_18 : decode cX1_latestAt 18 = .ok (.bipush 8, 2) := by decide +kernel
theorem dX1_latestAt_20 : decode cX1_latestAt 20 = .ok (.irem, 1) := by decide +kernel
theorem dX1_latestAt_21 : decode cX1_latestAt 21 = .ok (.iload_n 1, 1) := by decide +kernel
theorem dX1_latestAt_22 : decode cX1_latestAt 22 = .ok (.bipush 8, 2) := by decide +kernel
theorem dX1_latestAt_24 : decode cX1_latestAt 24 = .ok (.idiv, 1) := by decide +kernel
theorem dX1_latestAt_25 : decode cX1_latestAt 25 = .ok (.invokevirtual 34, 3) := by decide +kernel
theorem dX1_latestAt_28 : decode cX1_latestAt 28 = .ok (.ifCond .eq 5, 3) := by decide +kernel
theorem dX1_latestAt_31 : decode cX1_latestAt 31 = .ok (.iload_n 2, 1) := by decide +kernel
theorem dX1_latestAt_32 : decode cX1_latestAt 32 = .ok (.ireturn, 1) := by decide +kernel
theorem dX1_latestAt_33 : decode cX1_latestAt 33 = .ok (.iinc 2 (-1), 3) := by decide +kernel
theorem dX1_latestAt_36 : decode cX1_latestAt 36 = .ok (.goto (-29), 3) := by decide +kernel
theorem dX1_latestAt_39 : decode cX1_latestAt 39 = .ok (.iconst (-1), 1) := by decide +kernel
theorem dX1_latestAt_40 : decode cX1_latestAt 40 = .ok (.ireturn, 1) := by decide +kernel
theorem dX1_countOf_0 : decode cX1_countOf 0 = .ok (.iload_n 1, 1) := by decide +kernel
theorem dX1_countOf_1 : decode cX1_countOf 1 = .ok (.ifCond .lt 34, 3) := by decide +kernel
theorem dX1_countOf_4 : decode cX1_countOf 4 = .ok (.iload_n 1, 1) := by decide +kernel
theorem dX1_countOf_5 : decode cX1_countOf 5 = .ok (.aload_n 0, 1) := by decide +kernel
theorem dX1_countOf_6 : decode cX1_countOf 6 = .ok (.getfield 18, 3) := by decide +kernel
theorem dX1_countOf_9 : decode cX1_countOf 9 = .ok (.if_icmp .ge 26, 3) := by decide +kernel
theorem dX1_countOf_12 : decode cX1_countOf 12 = .ok (.iload_n 2, 1) := by decide +kernel
theorem dX1_countOf_13 : decode cX1_countOf 13 = .ok (.ifCond .lt 22, 3) := by decide +kernel
theorem dX1_countOf_16 : decode cX1_countOf 16 = .ok (.iload_n 2, 1) := by decide +kernel
theorem dX1_countOf_17 : decode cX1_countOf 17 = .ok (.iconst 4, 1) := by decide +kernel
theorem dX1_countOf_18 : decode cX1_countOf 18 = .ok (.if_icmp .ge 17, 3) := by decide +kernel
theorem dX1_countOf_21 : decode cX1_countOf 21 = .ok (.aload_n 0, 1) := by decide +kernel
theorem dX1_countOf_22 : decode cX1_countOf 22 = .ok (.getfield 11, 3) := by decide +kernel
theorem dX1_countOf_25 : decode cX1_countOf 25 = .ok (.iload_n 1, 1) := by decide +kernel
theorem dX1_countOf_26 : decode cX1_countOf 26 = .ok (.aaload, 1) := by decide +kernel
theorem dX1_countOf_27 : decode cX1_countOf 27 = .ok (.getfield 38, 3) := by decide +kernel
theorem dX1_countOf_30 : decode cX1_countOf 30 = .ok (.iload_n 2, 1) := by decide +kernel
theorem dX1_countOf_31 : decode cX1_countOf 31 = .ok (.iaload, 1) := by decide +kernel
theorem dX1_countOf_32 : decode cX1_countOf 32 = .ok (.goto 4, 3) := by decide +kernel
theorem dX1_countOf_35 : decode cX1_countOf 35 = .ok (.iconst 0, 1) := by decide +kernel
theorem dX1_countOf_36 : decode cX1_countOf 36 = .ok (.ireturn, 1) := by decide +kernel
theorem dX1_count_0 : decode cX1_count 0 = .ok (.iload_n 1, 1) := by decide +kernel
theorem dX1_count_1 : decode cX1_count 1 = .ok (.ifCond .lt 35, 3) := by decide +kernel
theorem dX1_count_4 : decode cX1_count 4 = .ok (.iload_n 1, 1) := by decide +kernel
theorem dX1_count_5 : decode cX1_count 5 = .ok (.aload_n 0, 1) := by decide +kernel
theorem dX1_count_6 : decode cX1_count 6 = .ok (.getfield 18, 3) := by decide +kernel
theorem dX1_count_9 : decode cX1_count 9 = .ok (.if_icmp .ge 27, 3) := by decide +kernel
theorem dX1_count_12 : decode cX1_count 12 = .ok (.iload_n 2, 1) := by decide +kernel
theorem dX1_count_13 : decode cX1_count 13 = .ok (.ifCond .lt 23, 3) := by decide +kernel
theorem dX1_count_16 : decode cX1_count 16 = .ok (.iload_n 2, 1) := by decide +kernel
theorem dX1_count_17 : decode cX1_count 17 = .ok (.iconst 4, 1) := by decide +kernel
theorem dX1_count_18 : decode cX1_count 18 = .ok (.if_icmp .ge 18, 3) := by decide +kernel
theorem dX1_count_21 : decode cX1_count 21 = .ok (.aload_n 0, 1) := by decide +kernel
theorem dX1_count_22 : decode cX1_count 22 = .ok (.getfield 11, 3) := by decide +kernel
theorem dX1_count_25 : decode cX1_count 25 = .ok (.iload_n 1, 1) := by decide +kernel
theorem dX1_count_26 : decode cX1_count 26 = .ok (.aaload, 1) := by decide +kernel
theorem dX1_count_27 : decode cX1_count 27 = .ok (.getfield 38, 3) := by decide +kernel
theorem dX1_count_30 : decode cX1_count 30 = .ok (.iload_n 2, 1) := by decide +kernel
theorem dX1_count_31 : decode cX1_count 31 = .ok (.dup2, 1) := by decide +kernel
theorem dX1_count_32 : decode cX1_count 32 = .ok (.iaload, 1) := by decide +kernel
theorem dX1_count_33 : decode cX1_count 33 = .ok (.iload_n 3, 1) := by decide +kernel
theorem dX1_count_34 : decode cX1_count 34 = .ok (.iadd, 1) := by decide +kernel
theorem dX1_count_35 : decode cX1_count 35 = .ok (.iastore, 1) := by decide +kernel
theorem dX1_count_36 : decode cX1_count 36 = .ok (.return_, 1) := by decide +kernel
theorem dX2_init_0 : decode cX2_init 0 = .ok (.aload_n 0, 1) := by decide +kernel
theorem dX2_init_1 : decode cX2_init 1 = .ok (.invokespecial 3, 3) := by decide +kernel
theorem dX2_init_4 : decode cX2_init 4 = .ok (.aload_n 0, 1) := by decide +kernel
theorem dX2_init_5 : decode cX2_init 5 = .ok (.iconst 5, 1) := by decide +kernel
theorem dX2_init_6 : decode cX2_init 6 = .ok (.newarray .float, 2) := by decide +kernel
theorem dX2_init_8 : decode cX2_init 8 = .ok (.putfield 9, 3) := by decide +kernel
theorem dX2_init_11 : decode cX2_init 11 = .ok (.return_, 1) := by decide +kernel
theorem dX2_beginAt_0 : decode cX2_beginAt 0 = .ok (.aload_n 0, 1) := by decide +kernel
theorem dX2_beginAt_1 : decode cX2_beginAt 1 = .ok (.iconst 1, 1) := by decide +kernel
theorem dX2_beginAt_2 : decode cX2_beginAt 2 = .ok (.putfield 15, 3) := by decide +kernel
theorem dX2_beginAt_5 : decode cX2_beginAt 5 = .ok (.aload_n 0, 1) := by decide +kernel
theorem dX2_beginAt_6 : decode cX2_beginAt 6 = .ok (.iconst 0, 1) := by decide +kernel
theorem dX2_beginAt_7 : decode cX2_beginAt 7 = .ok (.putfield 19, 3) := by decide +kernel
theorem dX2_beginAt_10 : decode cX2_beginAt 10 = .ok (.aload_n 0, 1) := by decide +kernel
theorem dX2_beginAt_11 : decode cX2_beginAt 11 = .ok (.iload_n 1, 1) := by decide +kernel
theorem dX2_beginAt_12 : decode cX2_beginAt 12 = .ok (.putfield 22, 3) := by decide +kernel
theorem dX2_beginAt_15 : decode cX2_beginAt 15 = .ok (.aload_n 0, 1) := by decide +kernel
theorem dX2_beginAt_16 : decode cX2_beginAt 16 = .ok (.iload_n 2, 1) := by decide +kernel
theorem dX2_beginAt_17 : decode cX2_beginAt 17 = .ok (.putfield 26, 3) := by decide +kernel
theorem dX2_beginAt_20 : decode cX2_beginAt 20 = .ok (.aload_n 0, 1) := by decide +kernel
theorem dX2_beginAt_21 : decode cX2_beginAt 21 = .ok (.iconst 1, 1) := by decide +kernel
theorem dX2_beginAt_22 : decode cX2_beginAt 22 = .ok (.putfield 29, 3) := by decide +kernel
theorem dX2_beginAt_25 : decode cX2_beginAt 25 = .ok (.aload_n 0, 1) := by decide +kernel
theorem dX2_beginAt_26 : decode cX2_beginAt 26 = .ok (.iconst 0, 1) := by decide +kernel
theorem dX2_beginAt_27 : decode cX2_beginAt 27 = .ok (.putfield 32, 3) := by decide +kernel
theorem dX2_beginAt_30 : decode cX2_beginAt 30 = .ok (.aload_n 0, 1) := by decide +kernel
theorem dX2_beginAt_31 : decode cX2_beginAt 31 = .ok (.iconst 0, 1) := by decide +kernel
theorem dX2_beginAt_32 : decode cX2_beginAt 32 = .ok (.putfield 35, 3) := by decide +kernel
theorem dX2_beginAt_35 : decode cX2_beginAt 35 = .ok (.aload_n 0, 1) := by decide +kernel
theorem dX2_beginAt_36 : decode cX2_beginAt 36 = .ok (.iload_n 3, 1) := by decide +kernel
theorem dX2_beginAt_37 : decode cX2_beginAt 37 = .ok (.putfield 38, 3) := by decide +kernel
theorem dX2_beginAt_40 : decode cX2_beginAt 40 = .ok (.aload_n 0, 1) := by decide +kernel
theorem dX2_beginAt_41 : decode cX2_beginAt 41 = .ok (.iload_n 1, 1) := by decide +kernel
theorem dX2_beginAt_42 : decode cX2_beginAt 42 = .ok (.i2f, 1) := by decide +kernel
theorem dX2_beginAt_43 : decode cX2_beginAt 43 = .ok (.putfield 41, 3) := by decide +kernel
theorem dX2_beginAt_46 : decode cX2_beginAt 46 = .ok (.aload_n 0, 1) := by decide +kernel
theorem dX2_beginAt_47 : decode cX2_beginAt 47 = .ok (.iload_n 2, 1) := by decide +kernel
theorem dX2_beginAt_48 : decode cX2_beginAt 48 = .ok (.i2f, 1) := by decide +kernel
theorem dX2_beginAt_49 : decode cX2_beginAt 49 = .ok (.putfield 45, 3) := by decide +kernel
theorem dX2_beginAt_52 : decode cX2_beginAt 52 = .ok (.aload_n 0, 1) := by decide +kernel
theorem dX2_beginAt_53 : decode cX2_beginAt 53 = .ok (.fconst 0, 1) := by decide +kernel
theorem dX2_beginAt_54 : decode cX2_beginAt 54 = .ok (.putfield 48, 3) := by decide +kernel
theorem dX2_beginAt_57 : decode cX2_beginAt 57 = .ok (.aload_n 0, 1) := by decide +kernel
theorem dX2_beginAt_58 : decode cX2_beginAt 58 = .ok (.fconst 0, 1) := by decide +kernel
theorem dX2_beginAt_59 : decode cX2_beginAt 59 = .ok (.putfield 51, 3) := by decide +kernel
theorem dX2_beginAt_62 : decode cX2_beginAt 62 = .ok (.aload_n 0, 1) := by decide +kernel
theorem dX2_beginAt_63 : decode cX2_beginAt 63 = .ok (.fconst 0, 1) := by decide +kernel
theorem dX2_beginAt_64 : decode cX2_beginAt 64 = .ok (.putfield 54, 3) := by decide +kernel
theorem dX2_beginAt_67 : decode cX2_beginAt 67 = .ok (.aload_n 0, 1) := by decide +kernel
theorem dX2_beginAt_68 : decode cX2_beginAt 68 = .ok (.iload_n 1, 1) := by decide +kernel
theorem dX2_beginAt_69 : decode cX2_beginAt 69 = .ok (.i2f, 1) := by decide +kernel
theorem dX2_beginAt_70 : decode cX2_beginAt 70 = .ok (.putfield 57, 3) := by decide +kernel
theorem dX2_beginAt_73 : decode cX2_beginAt 73 = .ok (.aload_n 0, 1) := by decide +kernel
theorem dX2_beginAt_74 : decode cX2_beginAt 74 = .ok (.iload_n 2, 1) := by decide +kernel
theorem dX2_beginAt_75 : decode cX2_beginAt 75 = .ok (.i2f, 1) := by decide +kernel
theorem dX2_beginAt_76 : decode cX2_beginAt 76 = .ok (.putfield 60, 3) := by decide +kernel
theorem dX2_beginAt_79 : decode cX2_beginAt 79 = .ok (.return_, 1) := by decide +kernel
theorem dX2_moveTo_0 : decode cX2_moveTo 0 = .ok (.aload_n 0, 1) := by decide +kernel
theorem dX2_moveTo_1 : decode cX2_moveTo 1 = .ok (.iconst 1, 1) := by decide +kernel
theorem dX2_moveTo_2 : decode cX2_moveTo 2 = .ok (.putfield 19, 3) := by decide +kernel
theorem dX2_moveTo_5 : decode cX2_moveTo 5 = .ok (.aload_n 0, 1) := by decide +kernel
theorem dX2_moveTo_6 : decode cX2_moveTo 6 = .ok (.iload_n 1, 1) := by decide +kernel
theorem dX2_moveTo_7 : decode cX2_moveTo 7 = .ok (.putfield 22, 3) := by decide +kernel
theorem dX2_moveTo_10 : decode cX2_moveTo 10 = .ok (.aload_n 0, 1) := by decide +kernel
theorem dX2_moveTo_11 : decode cX2_moveTo 11 = .ok (.iload_n 2, 1) := by decide +kernel
theorem dX2_moveTo_12 : decode cX2_moveTo 12 = .ok (.putfield 26, 3) := by decide +kernel
theorem dX2_moveTo_15 : decode cX2_moveTo 15 = .ok (.aload_n 0, 1) := by decide +kernel
theorem dX2_moveTo_16 : decode cX2_moveTo 16 = .ok (.dup, 1) := by decide +kernel
theorem dX2_moveTo_17 : decode cX2_moveTo 17 = .ok (.getfield 29, 3) := by decide +kernel
theorem dX2_moveTo_20 : decode cX2_moveTo 20 = .ok (.iconst 1, 1) := by decide +kernel
theorem dX2_moveTo_21 : decode cX2_moveTo 21 = .ok (.iadd, 1) := by decide +kernel
theorem dX2_moveTo_22 : decode cX2_moveTo 22 = .ok (.putfield 29, 3) := by decide +kernel
theorem dX2_moveTo_25 : decode cX2_moveTo 25 = .ok (.aload_n 0, 1) := by decide +kernel
theorem dX2_moveTo_26 : decode cX2_moveTo 26 = .ok (.iconst 0, 1) := by decide +kernel
theorem dX2_moveTo_27 : decode cX2_moveTo 27 = .ok (.putfield 32, 3) := by decide +kernel
theorem dX2_moveTo_30 : decode cX2_moveTo 30 = .ok (.iload_n 3, 1) := by decide +kernel
theorem dX2_moveTo_31 : decode cX2_moveTo 31 = .ok (.i2f, 1) := by decide +kernel
theorem dX2_moveTo_32 : decode cX2_moveTo 32 = .ok (.ldc 63, 2) := by decide +kernel
theorem dX2_moveTo_34 : decode cX2_moveTo 34 = .ok (.fdiv, 1) := by decide +kernel
theorem dX2_moveTo_35 : decode cX2_moveTo 35 = .ok (.fstore 4, 2) := by decide +kernel
theorem dX2_moveTo_37 : decode cX2_moveTo 37 = .ok (.aload_n 0, 1) := by decide +kernel
theorem dX2_moveTo_38 : decode cX2_moveTo 38 = .ok (.iload_n 1, 1) := by decide +kernel
theorem dX2_moveTo_39 : decode cX2_moveTo 39 = .ok (.i2f, 1) := by decide +kernel
theorem dX2_moveTo_40 : decode cX2_moveTo 40 = .ok (.aload_n 0, 1) := by decide +kernel
theorem dX2_moveTo_41 : decode cX2_moveTo 41 = .ok (.getfield 41, 3) := by decide +kernel
theorem dX2_moveTo_44 : decode cX2_moveTo 44 = .ok (.fsub, 1) := by decide +kernel
theorem dX2_moveTo_45 : decode cX2_moveTo 45 = .ok (.fload 4, 2) := by decide +kernel
theorem dX2_moveTo_47 : decode cX2_moveTo 47 = .ok (.fmul, 1) := by decide +kernel
theorem dX2_moveTo_48 : decode cX2_moveTo 48 = .ok (.putfield 48, 3) := by decide +kernel
theorem dX2_moveTo_51 : decode cX2_moveTo 51 = .ok (.aload_n 0, 1) := by decide +kernel
theorem dX2_moveTo_52 : decode cX2_moveTo 52 = .ok (.iload_n 2, 1) := by decide +kernel
theorem dX2_moveTo_53 : decode cX2_moveTo 53 = .ok (.i2f, 1) := by decide +kernel
theorem dX2_moveTo_54 : decode cX2_moveTo 54 = .ok (.aload_n 0, 1) := by decide +kernel
theorem dX2_moveTo_55 : decode cX2_moveTo 55 = .ok (.getfield 45, 3) := by decide +kernel
theorem dX2_moveTo_58 : decode cX2_moveTo 58 = .ok (.fsub, 1) := by decide +kernel
theorem dX2_moveTo_59 : decode cX2_moveTo 59 = .ok (.fload 4, 2) := by decide +kernel
theorem dX2_moveTo_61 : decode cX2_moveTo 61 = .ok (.fmul, 1) := by decide +kernel
theorem dX2_moveTo_62 : decode cX2_moveTo 62 = .ok (.putfield 51, 3) := by decide +kernel
theorem dX2_moveTo_65 : decode cX2_moveTo 65 = .ok (.aload_n 0, 1) := by decide +kernel
theorem dX2_moveTo_66 : decode cX2_moveTo 66 = .ok (.dup, 1) := by decide +kernel
theorem dX2_moveTo_67 : decode cX2_moveTo 67 = .ok (.getfield 41, 3) := by decide +kernel
theorem dX2_moveTo_70 : decode cX2_moveTo 70 = .ok (.aload_n 0, 1) := by decide +kernel
theorem dX2_moveTo_71 : decode cX2_moveTo 71 = .ok (.getfield 48, 3) := by decide +kernel
theorem dX2_moveTo_74 : decode cX2_moveTo 74 = .ok (.fadd, 1) := by decide +kernel
theorem dX2_moveTo_75 : decode cX2_moveTo 75 = .ok (.putfield 41, 3) := by decide +kernel
theorem dX2_moveTo_78 : decode cX2_moveTo 78 = .ok (.aload_n 0, 1) := by decide +kernel
theorem dX2_moveTo_79 : decode cX2_moveTo 79 = .ok (.dup, 1) := by decide +kernel
theorem dX2_moveTo_80 : decode cX2_moveTo 80 = .ok (.getfield 45, 3) := by decide +kernel
theorem dX2_moveTo_83 : decode cX2_moveTo 83 = .ok (.aload_n 0, 1) := by decide +kernel
theorem dX2_moveTo_84 : decode cX2_moveTo 84 = .ok (.getfield 51, 3) := by decide +kernel
theorem dX2_moveTo_87 : decode cX2_moveTo 87 = .ok (.fadd, 1) := by decide +kernel
theorem dX2_moveTo_88 : decode cX2_moveTo 88 = .ok (.putfield 45, 3) := by decide +kernel
theorem dX2_moveTo_91 : decode cX2_moveTo 91 = .ok (.aload_n 0, 1) := by decide +kernel
theorem dX2_moveTo_92 : decode cX2_moveTo 92 = .ok (.getfield 41, 3) := by decide +kernel
theorem dX2_moveTo_95 : decode cX2_moveTo 95 = .ok (.aload_n 0, 1) := by decide +kernel
theorem dX2_moveTo_96 : decode cX2_moveTo 96 = .ok (.getfield 57, 3) := by decide +kernel
theorem dX2_moveTo_99 : decode cX2_moveTo 99 = .ok (.fsub, 1) := by decide +kernel
theorem dX2_moveTo_100 : decode cX2_moveTo 100 = .ok (.invokestatic 64, 3) := by decide +kernel
theorem dX2_moveTo_103 : decode cX2_moveTo 103 = .ok (.aload_n 0, 1) := by decide +kernel
theorem dX2_moveTo_104 : decode cX2_moveTo 104 = .ok (.getfield 45, 3) := by decide +kernel
theorem dX2_moveTo_107 : decode cX2_moveTo 107 = .ok (.aload_n 0, 1) := by decide +kernel
theorem dX2_moveTo_108 : decode cX2_moveTo 108 = .ok (.getfield 60, 3) := by decide +kernel
theorem dX2_moveTo_111 : decode cX2_moveTo 111 = .ok (.fsub, 1) := by decide +kernel
theorem dX2_moveTo_112 : decode cX2_moveTo 112 = .ok (.invokestatic 64, 3) := by decide +kernel
theorem dX2_moveTo_115 : decode cX2_moveTo 115 = .ok (.fadd, 1) := by decide +kernel
theorem dX2_moveTo_116 : decode cX2_moveTo 116 = .ok (.fstore 5, 2) := by decide +kernel
theorem dX2_moveTo_118 : decode cX2_moveTo 118 = .ok (.aload_n 0, 1) := by decide +kernel
theorem dX2_moveTo_119 : decode cX2_moveTo 119 = .ok (.fload 5, 2) := by decide +kernel
theorem dX2_moveTo_121 : decode cX2_moveTo 121 = .ok (.aload_n 0, 1) := by decide +kernel
theorem dX2_moveTo_122 : decode cX2_moveTo 122 = .ok (.getfield 54, 3) := by decide +kernel
theorem dX2_moveTo_125 : decode cX2_moveTo 125 = .ok (.fcmp .l, 1) := by decide +kernel
theorem dX2_moveTo_126 : decode cX2_moveTo 126 = .ok (.ifCond .le 8, 3) := by decide +kernel
theorem dX2_moveTo_129 : decode cX2_moveTo 129 = .ok (.fload 5, 2) := by decide +kernel
theorem dX2_moveTo_131 : decode cX2_moveTo 131 = .ok (.goto 7, 3) := by decide +kernel
theorem dX2_moveTo_134 : decode cX2_moveTo 134 = .ok (.aload_n 0, 1) := by decide +kernel
theorem dX2_moveTo_135 : decode cX2_moveTo 135 = .ok (.getfield 54, 3) := by decide +kernel
theorem dX2_moveTo_138 : decode cX2_moveTo 138 = .ok (.putfield 54, 3) := by decide +kernel
theorem dX2_moveTo_141 : decode cX2_moveTo 141 = .ok (.return_, 1) := by decide +kernel
theorem dX2_miss_0 : decode cX2_miss 0 = .ok (.aload_n 0, 1) := by decide +kernel
theorem dX2_miss_1 : decode cX2_miss 1 = .ok (.iconst 0, 1) := by decide +kernel
theorem dX2_miss_2 : decode cX2_miss 2 = .ok (.putfield 19, 3) := by decide +kernel
theorem dX2_miss_5 : decode cX2_miss 5 = .ok (.aload_n 0, 1) := by decide +kernel
theorem dX2_miss_6 : decode cX2_miss 6 = .ok (.dup, 1) := by decide +kernel
theorem dX2_miss_7 : decode cX2_miss 7 = .ok (.getfield 32, 3) := by decide +kernel
theorem dX2_miss_10 : decode cX2_miss 10 = .ok (.iconst 1, 1) := by decide +kernel
theorem dX2_miss_11 : decode cX2_miss 11 = .ok (.iadd, 1) := by decide +kernel
theorem dX2_miss_12 : decode cX2_miss 12 = .ok (.putfield 32, 3) := by decide +kernel
theorem dX2_miss_15 : decode cX2_miss 15 = .ok (.aload_n 0, 1) := by decide +kernel
theorem dX2_miss_16 : decode cX2_miss 16 = .ok (.fconst 0, 1) := by decide +kernel
theorem dX2_miss_17 : decode cX2_miss 17 = .ok (.putfield 48, 3) := by decide +kernel
theorem dX2_miss_20 : decode cX2_miss 20 = .ok (.aload_n 0, 1) := by decide +kernel
theorem dX2_miss_21 : decode cX2_miss 21 = .ok (.fconst 0, 1) := by decide +kernel
theorem dX2_miss_22 : decode cX2_miss 22 = .ok (.putfield 51, 3) := by decide +kernel
theorem dX2_miss_25 : decode cX2_miss 25 = .ok (.return_, 1) := by decide +kernel
theorem dX2_distanceTo_0 : decode cX2_distanceTo 0 = .ok (.aload_n 0, 1) := by decide +kernel
theorem dX2_distanceTo_1 : decode cX2_distanceTo 1 = .ok (.getfield 41, 3) := by decide +kernel
theorem dX2_distanceTo_4 : decode cX2_distanceTo 4 = .ok (.aload_n 1, 1) := by decide +kernel
theorem dX2_distanceTo_5 : decode cX2_distanceTo 5 = .ok (.getfield 41, 3) := by decide +kernel
theorem dX2_distanceTo_8 : decode cX2_distanceTo 8 = .ok (.fsub, 1) := by decide +kernel
theorem dX2_distanceTo_9 : decode cX2_distanceTo 9 = .ok (.invokestatic 64, 3) := by decide +kernel
theorem dX2_distanceTo_12 : decode cX2_distanceTo 12 = .ok (.aload_n 0, 1) := by decide +kernel
theorem dX2_distanceTo_13 : decode cX2_distanceTo 13 = .ok (.getfield 45, 3) := by decide +kernel
theorem dX2_distanceTo_16 : decode cX2_distanceTo 16 = .ok (.aload_n 1, 1) := by decide +kernel
theorem dX2_distanceTo_17 : decode cX2_distanceTo 17 = .ok (.getfield 45, 3) := by decide +kernel
theorem dX2_distanceTo_20 : decode cX2_distanceTo 20 = .ok (.fsub, 1) := by decide +kernel
theorem dX2_distanceTo_21 : decode cX2_distanceTo 21 = .ok (.invokestatic 64, 3) := by decide +kernel
theorem dX2_distanceTo_24 : decode cX2_distanceTo 24 = .ok (.fadd, 1) := by decide +kernel
theorem dX2_distanceTo_25 : decode cX2_distanceTo 25 = .ok (.freturn, 1) := by decide +kernel
theorem dX2_guessAt_0 : decode cX2_guessAt 0 = .ok (.iload_n 2, 1) := by decide +kernel
theorem dX2_guessAt_1 : decode cX2_guessAt 1 = .ok (.ifCond .eq 18, 3) := by decide +kernel
theorem dX2_guessAt_4 : decode cX2_guessAt 4 = .ok (.aload_n 0, 1) := by decide +kernel
theorem dX2_guessAt_5 : decode cX2_guessAt 5 = .ok (.getfield 45, 3) := by decide +kernel
theorem dX2_guessAt_8 : decode cX2_guessAt 8 = .ok (.aload_n 0, 1) := by decide +kernel
theorem dX2_guessAt_9 : decode cX2_guessAt 9 = .ok (.getfield 51, 3) := by decide +kernel
theorem dX2_guessAt_12 : decode cX2_guessAt 12 = .ok (.iload_n 1, 1) := by decide +kernel
theorem dX2_guessAt_13 : decode cX2_guessAt 13 = .ok (.i2f, 1) := by decide +kernel
theorem dX2_guessAt_14 : decode cX2_guessAt 14 = .ok (.fmul, 1) := by decide +kernel
theorem dX2_guessAt_15 : decode cX2_guessAt 15 = .ok (.fadd, 1) := by decide +kernel
theorem dX2_guessAt_16 : decode cX2_guessAt 16 = .ok (.goto 15, 3) := by decide +kernel
theorem dX2_guessAt_19 : decode cX2_guessAt 19 = .ok (.aload_n 0, 1) := by decide +kernel
theorem dX2_guessAt_20 : decode cX2_guessAt 20 = .ok (.getfield 41, 3) := by decide +kernel
theorem dX2_guessAt_23 : decode cX2_guessAt 23 = .ok (.aload_n 0, 1) := by decide +kernel
theorem dX2_guessAt_24 : decode cX2_guessAt 24 = .ok (.getfield 48, 3) := by decide +kernel
theorem dX2_guessAt_27 : decode cX2_guessAt 27 = .ok (.iload_n 1, 1) := by decide +kernel
theorem dX2_guessAt_28 : decode cX2_guessAt 28 = .ok (.i2f, 1) := by decide +kernel
theorem dX2_guessAt_29 : decode cX2_guessAt 29 = .ok (.fmul, 1) := by decide +kernel
theorem dX2_guessAt_30 : decode cX2_guessAt 30 = .ok (.fadd, 1) := by decide +kernel
theorem dX2_guessAt_31 : decode cX2_guessAt 31 = .ok (.fstore_n 3, 1) := by decide +kernel
theorem dX2_guessAt_32 : decode cX2_guessAt 32 = .ok (.iload_n 2, 1) := by decide +kernel
theorem dX2_guessAt_33 : decode cX2_guessAt 33 = .ok (.ifCond .eq 8, 3) := by decide +kernel
theorem dX2_guessAt_36 : decode cX2_guessAt 36 = .ok (.ldc 68, 2) := by decide +kernel
theorem dX2_guessAt_38 : decode cX2_guessAt 38 = .ok (.goto 5, 3) := by decide +kernel
theorem dX2_guessAt_41 : decode cX2_guessAt 41 = .ok (.ldc 69, 2) := by decide +kernel
theorem dX2_guessAt_43 : decode cX2_guessAt 43 = .ok (.fstore 4, 2) := by decide +kernel
theorem dX2_guessAt_45 : decode cX2_guessAt 45 = .ok (.fload_n 3, 1) := by decide +kernel
theorem dX2_guessAt_46 : decode cX2_guessAt 46 = .ok (.fconst 0, 1) := by decide +kernel
theorem dX2_guessAt_47 : decode cX2_guessAt 47 = .ok (.fcmp .g, 1) := by decide +kernel
theorem dX2_guessAt_48 : decode cX2_guessAt 48 = .ok (.ifCond .ge 5, 3) := by decide +kernel
theorem dX2_guessAt_51 : decode cX2_guessAt 51 = .ok (.fconst 0, 1) := by decide +kernel
theorem dX2_guessAt_52 : decode cX2_guessAt 52 = .ok (.freturn, 1) := by decide +kernel
theorem dX2_guessAt_53 : decode cX2_guessAt 53 = .ok (.fload_n 3, 1) := by decide +kernel
theorem dX2_guessAt_54 : decode cX2_guessAt 54 = .ok (.fload 4, 2) := by decide +kernel
theorem dX2_guessAt_56 : decode cX2_guessAt 56 = .ok (.fcmp .l, 1) := by decide +kernel
theorem dX2_guessAt_57 : decode cX2_guessAt 57 = .ok (.ifCond .le 8, 3) := by decide +kernel
theorem dX2_guessAt_60 : decode cX2_guessAt 60 = .ok (.fload 4, 2) := by decide +kernel
theorem dX2_guessAt_62 : decode cX2_guessAt 62 = .ok (.goto 4, 3) := by decide +kernel
theorem dX2_guessAt_65 : decode cX2_guessAt 65 = .ok (.fload_n 3, 1) := by decide +kernel
theorem dX2_guessAt_66 : decode cX2_guessAt 66 = .ok (.freturn, 1) := by decide +kernel
theorem dX2_canClaim_0 : decode cX2_canClaim 0 = .ok (.aload_n 0, 1) := by decide +kernel
theorem dX2_canClaim_1 : decode cX2_canClaim 1 = .ok (.getfield 15, 3) := by decide +kernel
theorem dX2_canClaim_4 : decode cX2_canClaim 4 = .ok (.ifCond .eq 21, 3) := by decide +kernel
theorem dX2_canClaim_7 : decode cX2_canClaim 7 = .ok (.aload_n 0, 1) := by decide +kernel
theorem dX2_canClaim_8 : decode cX2_canClaim 8 = .ok (.getfield 19, 3) := by decide +kernel
theorem dX2_canClaim_11 : decode cX2_canClaim 11 = .ok (.ifCond .eq 14, 3) := by decide +kernel
theorem dX2_canClaim_14 : decode cX2_canClaim 14 = .ok (.aload_n 0, 1) := by decide +kernel
theorem dX2_canClaim_15 : decode cX2_canClaim 15 = .ok (.getfield 35, 3) := by decide +kernel
theorem dX2_canClaim_18 : decode cX2_canClaim 18 = .ok (.ifCond .ne 7, 3) := by decide +kernel
theorem dX2_canClaim_21 : decode cX2_canClaim 21 = .ok (.iconst 1, 1) := by decide +kernel
theorem dX2_canClaim_22 : decode cX2_canClaim 22 = .ok (.goto 4, 3) := by decide +kernel
theorem dX2_canClaim_25 : decode cX2_canClaim 25 = .ok (.iconst 0, 1) := by decide +kernel
theorem dX2_canClaim_26 : decode cX2_canClaim 26 = .ok (.ireturn, 1) := by decide +kernel
theorem dX3_init_0 : decode cX3_init 0 = .ok (.aload_n 0, 1) := by decide +kernel
theorem dX3_init_1 : decode cX3_init 1 = .ok (.invokespecial 3, 3) := by decide +kernel
theorem dX3_init_4 : decode cX3_init 4 = .ok (.aload_n 0, 1) := by decide +kernel
theorem dX3_init_5 : decode cX3_init 5 = .ok (.iconst 5, 1) := by decide +kernel
theorem dX3_init_6 : decode cX3_init 6 = .ok (.anewarray 9, 3) := by decide +kernel
theorem dX3_init_9 : decode cX3_init 9 = .ok (.putfield 11, 3) := by decide +kernel
theorem dX3_init_12 : decode cX3_init 12 = .ok (.aload_n 0, 1) := by decide +kernel
theorem dX3_init_13 : decode cX3_init 13 = .ok (.aload_n 1, 1) := by decide +kernel
theorem dX3_init_14 : decode cX3_init 14 = .ok (.putfield 17, 3) := by decide +kernel
theorem dX3_init_17 : decode cX3_init 17 = .ok (.iconst 0, 1) := by decide +kernel
theorem dX3_init_18 : decode cX3_init 18 = .ok (.istore_n 2, 1) := by decide +kernel
theorem dX3_init_19 : decode cX3_init 19 = .ok (.iload_n 2, 1) := by decide +kernel
theorem dX3_init_20 : decode cX3_init 20 = .ok (.iconst 5, 1) := by decide +kernel
theorem dX3_init_21 : decode cX3_init 21 = .ok (.if_icmp .ge 22, 3) := by decide +kernel
theorem dX3_init_24 : decode cX3_init 24 = .ok (.aload_n 0, 1) := by decide +kernel
theorem dX3_init_25 : decode cX3_init 25 = .ok (.getfield 11, 3) := by decide +kernel
theorem dX3_init_28 : decode cX3_init 28 = .ok (.iload_n 2, 1) := by decide +kernel
theorem dX3_init_29 : decode cX3_init 29 = .ok (.new 9, 3) := by decide +kernel
theorem dX3_init_32 : decode cX3_init 32 = .ok (.dup, 1) := by decide +kernel
theorem dX3_init_33 : decode cX3_init 33 = .ok (.invokespecial 21, 3) := by decide +kernel
theorem dX3_init_36 : decode cX3_init 36 = .ok (.aastore, 1) := by decide +kernel
theorem dX3_init_37 : decode cX3_init 37 = .ok (.iinc 2 1, 3) := by decide +kernel
theorem dX3_init_40 : decode cX3_init 40 = .ok (.goto (-21), 3) := by decide +kernel
theorem dX3_init_43 : decode cX3_init 43 = .ok (.return_, 1) := by decide +kernel
theorem dX3_has_0 : decode cX3_has 0 = .ok (.iload_n 1, 1) := by decide +kernel
theorem dX3_has_1 : decode cX3_has 1 = .ok (.ifCond .lt 24, 3) := by decide +kernel
theorem dX3_has_4 : decode cX3_has 4 = .ok (.iload_n 1, 1) := by decide +kernel
theorem dX3_has_5 : decode cX3_has 5 = .ok (.iconst 5, 1) := by decide +kernel
theorem dX3_has_6 : decode cX3_has 6 = .ok (.if_icmp .ge 19, 3) := by decide +kernel
theorem dX3_has_9 : decode cX3_has 9 = .ok (.aload_n 0, 1) := by decide +kernel
theorem dX3_has_10 : decode cX3_has 10 = .ok (.getfield 11, 3) := by decide +kernel
theorem dX3_has_13 : decode cX3_has 13 = .ok (.iload_n 1, 1) := by decide +kernel
theorem dX3_has_14 : decode cX3_has 14 = .ok (.aaload, 1) := by decide +kernel
theorem dX3_has_15 : decode cX3_has 15 = .ok (.getfield 22, 3) := by decide +kernel
theorem dX3_has_18 : decode cX3_has 18 = .ok (.ifCond .eq 7, 3) := by decide +kernel
theorem dX3_has_21 : decode cX3_has 21 = .ok (.iconst 1, 1) := by decide +kernel
theorem dX3_has_22 : decode cX3_has 22 = .ok (.goto 4, 3) := by decide +kernel
theorem dX3_has_25 : decode cX3_has 25 = .ok (.iconst 0, 1) := by decide +kernel
theorem dX3_has_26 : decode cX3_has 26 = .ok (.ireturn, 1) := by decide +kernel
theorem dX3_countContacts_0 : decode cX3_countContacts 0 = .ok (.iconst 0, 1) := by decide +kernel
theorem dX3_countContacts_1 : decode cX3_countContacts 1 = .ok (.istore_n 1, 1) := by decide +kernel
theorem dX3_countContacts_2 : decode cX3_countContacts 2 = .ok (.iconst 0, 1) := by decide +kernel
theorem dX3_countContacts_3 : decode cX3_countContacts 3 = .ok (.istore_n 2, 1) := by decide +kernel
theorem dX3_countContacts_4 : decode cX3_countContacts 4 = .ok (.iload_n 2, 1) := by decide +kernel
theorem dX3_countContacts_5 : decode cX3_countContacts 5 = .ok (.iconst 5, 1) := by decide +kernel
theorem dX3_countContacts_6 : decode cX3_countContacts 6 = .ok (.if_icmp .ge 29, 3) := by decide +kernel
theorem dX3_countContacts_9 : decode cX3_countContacts 9 = .ok (.iload_n 1, 1) := by decide +kernel
theorem dX3_countContacts_10 : decode cX3_countContacts 10 = .ok (.aload_n 0, 1) := by decide +kernel
theorem dX3_countContacts_11 : decode cX3_countContacts 11 = .ok (.getfield 11, 3) := by decide +kernel
theorem dX3_countContacts_14 : decode cX3_countContacts 14 = .ok (.iload_n 2, 1) := by decide +kernel
theorem dX3_countContacts_15 : decode cX3_countContacts 15 = .ok (.aaload, 1) := by decide +kernel
theorem dX3_countContacts_16 : decode cX3_countContacts 16 = .ok (.getfield 22, 3) := by decide +kernel
theorem dX3_countContacts_19 : decode cX3_countContacts 19 = .ok (.ifCond .eq 7, 3) := by decide +kernel
theorem dX3_countContacts_22 : decode cX3_countContacts 22 = .ok (.iconst 1, 1) := by decide +kernel
theorem dX3_countContacts_23 : decode cX3_countContacts 23 = .ok (.goto 4, 3) := by decide +kernel
theorem dX3_countContacts_26 : decode cX3_countContacts 26 = .ok (.iconst 0, 1) := by decide +kernel
theorem dX3_countContacts_27 : decode cX3_countContacts 27 = .ok (.iadd, 1) := by decide +kernel
theorem dX3_countContacts_28 : decode cX3_countContacts 28 = .ok (.istore_n 1, 1) := by decide +kernel
theorem dX3_countContacts_29 : decode cX3_countContacts 29 = .ok (.iinc 2 1, 3) := by decide +kernel
theorem dX3_countContacts_32 : decode cX3_countContacts 32 = .ok (.goto (-28), 3) := by decide +kernel
theorem dX3_countContacts_35 : decode cX3_countContacts 35 = .ok (.iload_n 1, 1) := by decide +kernel
theorem dX3_countContacts_36 : decode cX3_countContacts 36 = .ok (.ireturn, 1) := by decide +kernel
theorem dX3_contactsIn_0 : decode cX3_contactsIn 0 = .ok (.iconst 0, 1) := by decide +kernel
theorem dX3_contactsIn_1 : decode cX3_contactsIn 1 = .ok (.istore_n 2, 1) := by decide +kernel
theorem dX3_contactsIn_2 : decode cX3_contactsIn 2 = .ok (.iconst 0, 1) := by decide +kernel
theorem dX3_contactsIn_3 : decode cX3_contactsIn 3 = .ok (.istore_n 3, 1) := by decide +kernel
theorem dX3_contactsIn_4 : decode cX3_contactsIn 4 = .ok (.iload_n 3, 1) := by decide +kernel
theorem dX3_contactsIn_5 : decode cX3_contactsIn 5 = .ok (.iconst 5, 1) := by decide +kernel
theorem dX3_contactsIn_6 : decode cX3_contactsIn 6 = .ok (.if_icmp .ge 42, 3) := by decide +kernel
theorem dX3_contactsIn_9 : decode cX3_contactsIn 9 = .ok (.iload_n 2, 1) := by decide +kernel
theorem dX3_contactsIn_10 : decode cX3_contactsIn 10 = .ok (.aload_n 0, 1) := by decide +kernel
theorem dX3_contactsIn_11 : decode cX3_contactsIn 11 = .ok (.getfield 11, 3) := by decide +kernel
theorem dX3_contactsIn_14 : decode cX3_contactsIn 14 = .ok (.iload_n 3, 1) := by decide +kernel
theorem dX3_contactsIn_15 : decode cX3_contactsIn 15 = .ok (.aaload, 1) := by decide +kernel
theorem dX3_contactsIn_16 : decode cX3_contactsIn 16 = .ok (.getfield 22, 3) := by decide +kernel
theorem dX3_contactsIn_19 : decode cX3_contactsIn 19 = .ok (.ifCond .eq 20, 3) := by decide +kernel
theorem dX3_contactsIn_22 : decode cX3_contactsIn 22 = .ok (.aload_n 0, 1) := by decide +kernel
theorem dX3_contactsIn_23 : decode cX3_contactsIn 23 = .ok (.getfield 11, 3) := by decide +kernel
theorem dX3_contactsIn_26 : decode cX3_contactsIn 26 = .ok (.iload_n 3, 1) := by decide +kernel
theorem dX3_contactsIn_27 : decode cX3_contactsIn 27 = .ok (.aaload, 1) := by decide +kernel
theorem dX3_contactsIn_28 : decode cX3_contactsIn 28 = .ok (.getfield 26, 3) := by decide +kernel
theorem dX3_contactsIn_31 : decode cX3_contactsIn 31 = .ok (.iload_n 1, 1) := by decide +kernel
theorem dX3_contactsIn_32 : decode cX3_contactsIn 32 = .ok (.if_icmp .ne 7, 3) := by decide +kernel
theorem dX3_contactsIn_35 : decode cX3_contactsIn 35 = .ok (.iconst 1, 1) := by decide +kernel
theorem dX3_contactsIn_36 : decode cX3_contactsIn 36 = .ok (.goto 4, 3) := by decide +kernel
theorem dX3_contactsIn_39 : decode cX3_contactsIn 39 = .ok (.iconst 0, 1) := by decide +kernel
theorem dX3_contactsIn_40 : decode cX3_contactsIn 40 = .ok (.iadd, 1) := by decide +kernel
theorem dX3_contactsIn_41 : decode cX3_contactsIn 41 = .ok (.istore_n 2, 1) := by decide +kernel
theorem dX3_contactsIn_42 : decode cX3_contactsIn 42 = .ok (.iinc 3 1, 3) := by decide +kernel
theorem dX3_contactsIn_45 : decode cX3_contactsIn 45 = .ok (.goto (-41), 3) := by decide +kernel
theorem dX3_contactsIn_48 : decode cX3_contactsIn 48 = .ok (.iload_n 2, 1) := by decide +kernel
theorem dX3_contactsIn_49 : decode cX3_contactsIn 49 = .ok (.ireturn, 1) := by decide +kernel
theorem dX3_take_0 : decode cX3_take 0 = .ok (.aload_n 0, 1) := by decide +kernel
theorem dX3_take_1 : decode cX3_take 1 = .ok (.aload_n 1, 1) := by decide +kernel
theorem dX3_take_2 : decode cX3_take 2 = .ok (.aload_n 2, 1) := by decide +kernel
theorem dX3_take_3 : decode cX3_take 3 = .ok (.iload_n 3, 1) := by decide +kernel
theorem dX3_take_4 : decode cX3_take 4 = .ok (.invokevirtual 30, 3) := by decide +kernel
theorem dX3_take_7 : decode cX3_take 7 = .ok (.aload_n 0, 1) := by decide +kernel
theorem dX3_take_8 : decode cX3_take 8 = .ok (.aload_n 2, 1) := by decide +kernel
theorem dX3_take_9 : decode cX3_take 9 = .ok (.invokevirtual 34, 3) := by decide +kernel
theorem dX3_take_12 : decode cX3_take 12 = .ok (.aload_n 0, 1) := by decide +kernel
theorem dX3_take_13 : decode cX3_take 13 = .ok (.aload_n 1, 1) := by decide +kernel
theorem dX3_take_14 : decode cX3_take 14 = .ok (.aload_n 2, 1) := by decide +kernel
theorem dX3_take_15 : decode cX3_take 15 = .ok (.invokevirtual 38, 3) := by decide +kernel
theorem dX3_take_18 : decode cX3_take 18 = .ok (.aload_n 0, 1) := by decide +kernel
theorem dX3_take_19 : decode cX3_take 19 = .ok (.invokevirtual 42, 3) := by decide +kernel
theorem dX3_take_22 : decode cX3_take 22 = .ok (.aload_n 0, 1) := by decide +kernel
theorem dX3_take_23 : decode cX3_take 23 = .ok (.invokevirtual 45, 3) := by decide +kernel
theorem dX3_take_26 : decode cX3_take 26 = .ok (.return_, 1) := by decide +kernel
theorem dX3_cancelAll_0 : decode cX3_cancelAll 0 = .ok (.iconst 0, 1) := by decide +kernel
theorem dX3_cancelAll_1 : decode cX3_cancelAll 1 = .ok (.istore_n 1, 1) := by decide +kernel
theorem dX3_cancelAll_2 : decode cX3_cancelAll 2 = .ok (.iload_n 1, 1) := by decide +kernel
theorem dX3_cancelAll_3 : decode cX3_cancelAll 3 = .ok (.iconst 5, 1) := by decide +kernel
theorem dX3_cancelAll_4 : decode cX3_cancelAll 4 = .ok (.if_icmp .ge 31, 3) := by decide +kernel
theorem dX3_cancelAll_7 : decode cX3_cancelAll 7 = .ok (.aload_n 0, 1) := by decide +kernel
theorem dX3_cancelAll_8 : decode cX3_cancelAll 8 = .ok (.getfield 11, 3) := by decide +kernel
theorem dX3_cancelAll_11 : decode cX3_cancelAll 11 = .ok (.iload_n 1, 1) := by decide +kernel
theorem dX3_cancelAll_12 : decode cX3_cancelAll 12 = .ok (.aaload, 1) := by decide +kernel
theorem dX3_cancelAll_13 : decode cX3_cancelAll 13 = .ok (.getfield 22, 3) := by decide +kernel
theorem dX3_cancelAll_16 : decode cX3_cancelAll 16 = .ok (.ifCond .eq 13, 3) := by decide +kernel
theorem dX3_cancelAll_19 : decode cX3_cancelAll 19 = .ok (.aload_n 0, 1) := by decide +kernel
theorem dX3_cancelAll_20 : decode cX3_cancelAll 20 = .ok (.aload_n 0, 1) := by decide +kernel
theorem dX3_cancelAll_21 : decode cX3_cancelAll 21 = .ok (.getfield 11, 3) := by decide +kernel
theorem dX3_cancelAll_24 : decode cX3_cancelAll 24 = .ok (.iload_n 1, 1) := by decide +kernel
theorem dX3_cancelAll_25 : decode cX3_cancelAll 25 = .ok (.aaload, 1) := by decide +kernel
theorem dX3_cancelAll_26 : decode cX3_cancelAll 26 = .ok (.invokevirtual 48, 3) := by decide +kernel
theorem dX3_cancelAll_29 : decode cX3_cancelAll 29 = .ok (.iinc 1 1, 3) := by decide +kernel
theorem dX3_cancelAll_32 : decode cX3_cancelAll 32 = .ok (.goto (-30), 3) := by decide +kernel
theorem dX3_cancelAll_35 : decode cX3_cancelAll 35 = .ok (.return_, 1) := by decide +kernel
theorem dX3_cancel_0 : decode cX3_cancel 0 = .ok (.aload_n 1, 1) := by decide +kernel
theorem dX3_cancel_1 : decode cX3_cancel 1 = .ok (.iconst 0, 1) := by decide +kernel
theorem dX3_cancel_2 : decode cX3_cancel 2 = .ok (.putfield 22, 3) := by decide +kernel
theorem dX3_cancel_5 : decode cX3_cancel 5 = .ok (.aload_n 0, 1) := by decide +kernel
theorem dX3_cancel_6 : decode cX3_cancel 6 = .ok (.dup, 1) := by decide +kernel
theorem dX3_cancel_7 : decode cX3_cancel 7 = .ok (.getfield 52, 3) := by decide +kernel
theorem dX3_cancel_10 : decode cX3_cancel 10 = .ok (.iconst 1, 1) := by decide +kernel
theorem dX3_cancel_11 : decode cX3_cancel 11 = .ok (.iadd, 1) := by decide +kernel
theorem dX3_cancel_12 : decode cX3_cancel 12 = .ok (.putfield 52, 3) := by decide +kernel
theorem dX3_cancel_15 : decode cX3_cancel 15 = .ok (.aload_n 1, 1) := by decide +kernel
theorem dX3_cancel_16 : decode cX3_cancel 16 = .ok (.getfield 55, 3) := by decide +kernel
theorem dX3_cancel_19 : decode cX3_cancel 19 = .ok (.ifCond .eq 19, 3) := by decide +kernel
theorem dX3_cancel_22 : decode cX3_cancel 22 = .ok (.aload_n 0, 1) := by decide +kernel
theorem dX3_cancel_23 : decode cX3_cancel 23 = .ok (.getfield 17, 3) := by decide +kernel
theorem dX3_cancel_26 : decode cX3_cancel 26 = .ok (.aload_n 1, 1) := by decide +kernel
theorem dX3_cancel_27 : decode cX3_cancel 27 = .ok (.getfield 26, 3) := by decide +kernel
theorem dX3_cancel_30 : decode cX3_cancel 30 = .ok (.aload_n 1, 1) := by decide +kernel
theorem dX3_cancel_31 : decode cX3_cancel 31 = .ok (.getfield 55, 3) := by decide +kernel
theorem dX3_cancel_34 : decode cX3_cancel 34 = .ok (.iconst (-1), 1) := by decide +kernel
theorem dX3_cancel_35 : decode cX3_cancel 35 = .ok (.invokevirtual 58, 3) := by decide +kernel
theorem dX3_cancel_38 : decode cX3_cancel 38 = .ok (.return_, 1) := by decide +kernel
theorem dX3_followMatched_0 : decode cX3_followMatched 0 = .ok (.iconst 0, 1) := by decide +kernel
theorem dX3_followMatched_1 : decode cX3_followMatched 1 = .ok (.istore 4, 2) := by decide +kernel
theorem dX3_followMatched_3 : decode cX3_followMatched 3 = .ok (.iload 4, 2) := by decide +kernel
theorem dX3_followMatched_5 : decode cX3_followMatched 5 = .ok (.iconst 5, 1) := by decide +kernel
theorem dX3_followMatched_6 : decode cX3_followMatched 6 = .ok (.if_icmp .ge 95, 3) := by decide +kernel
theorem dX3_followMatched_9 : decode cX3_followMatched 9 = .ok (.aload_n 2, 1) := by decide +kernel
theorem dX3_followMatched_10 : decode cX3_followMatched 10 = .ok (.iload 4, 2) := by decide +kernel
theorem dX3_followMatched_12 : decode cX3_followMatched 12 = .ok (.invokevirtual 64, 3) := by decide +kernel
theorem dX3_followMatched_15 : decode cX3_followMatched 15 = .ok (.istore 5, 2) := by decide +kernel
theorem dX3_followMatched_17 : decode cX3_followMatched 17 = .ok (.iload 5, 2) := by decide +kernel
theorem dX3_followMatched_19 : decode cX3_followMatched 19 = .ok (.ifCond .lt 76, 3) := by decide +kernel
theorem dX3_followMatched_22 : decode cX3_followMatched 22 = .ok (.iload 5, 2) := by decide +kernel
theorem dX3_followMatched_24 : decode cX3_followMatched 24 = .ok (.aload_n 1, 1) := by decide +kernel
theorem dX3_followMatched_25 : decode cX3_followMatched 25 = .ok (.getfield 70, 3) := by decide +kernel
theorem dX3_followMatched_28 : decode cX3_followMatched 28 = .ok (.if_icmp .ge 67, 3) := by decide +kernel
theorem dX3_followMatched_31 : decode cX3_followMatched 31 = .ok (.aload_n 0, 1) := by decide +kernel
theorem dX3_followMatched_32 : decode cX3_followMatched 32 = .ok (.getfield 11, 3) := by decide +kernel
theorem dX3_followMatched_35 : decode cX3_followMatched 35 = .ok (.iload 4, 2) := by decide +kernel
theorem dX3_followMatched_37 : decode cX3_followMatched 37 = .ok (.aaload, 1) := by decide +kernel
theorem dX3_followMatched_38 : decode cX3_followMatched 38 = .ok (.getfield 22, 3) := by decide +kernel
theorem dX3_followMatched_41 : decode cX3_followMatched 41 = .ok (.ifCond .ne 6, 3) := by decide +kernel
theorem dX3_followMatched_44 : decode cX3_followMatched 44 = .ok (.goto 51, 3) := by decide +kernel
theorem dX3_followMatched_47 : decode cX3_followMatched 47 = .ok (.aload_n 1, 1) := by decide +kernel
theorem dX3_followMatched_48 : decode cX3_followMatched 48 = .ok (.iload 5, 2) := by decide +kernel
theorem dX3_followMatched_50 : decode cX3_followMatched 50 = .ok (.invokevirtual 75, 3) := by decide +kernel
theorem dX3_followMatched_53 : decode cX3_followMatched 53 = .ok (.ifCond .eq 17, 3) := by decide +kernel
theorem dX3_followMatched_56 : decode cX3_followMatched 56 = .ok (.aload_n 0, 1) := by decide +kernel
theorem dX3_followMatched_57 : decode cX3_followMatched 57 = .ok (.aload_n 0, 1) := by decide +kernel
theorem dX3_followMatched_58 : decode cX3_followMatched 58 = .ok (.getfield 11, 3) := by decide +kernel
theorem dX3_followMatched_61 : decode cX3_followMatched 61 = .ok (.iload 4, 2) := by decide +kernel
theorem dX3_followMatched_63 : decode cX3_followMatched 63 = .ok (.aaload, 1) := by decide +kernel
theorem dX3_followMatched_64 : decode cX3_followMatched 64 = .ok (.invokevirtual 48, 3) := by decide +kernel
theorem dX3_followMatched_67 : decode cX3_followMatched 67 = .ok (.goto 28, 3) := by decide +kernel
theorem dX3_followMatched_70 : decode cX3_followMatched 70 = .ok (.aload_n 0, 1) := by decide +kernel
theorem dX3_followMatched_71 : decode cX3_followMatched 71 = .ok (.getfield 11, 3) := by decide +kernel
theorem dX3_followMatched_74 : decode cX3_followMatched 74 = .ok (.iload 4, 2) := by decide +kernel
theorem dX3_followMatched_76 : decode cX3_followMatched 76 = .ok (.aaload, 1) := by decide +kernel
theorem dX3_followMatched_77 : decode cX3_followMatched 77 = .ok (.aload_n 1, 1) := by decide +kernel
theorem dX3_followMatched_78 : decode cX3_followMatched 78 = .ok (.getfield 79, 3) := by decide +kernel
theorem dX3_followMatched_81 : decode cX3_followMatched 81 = .ok (.iload 5, 2) := by decide +kernel
theorem dX3_followMatched_83 : decode cX3_followMatched 83 = .ok (.iaload, 1) := by decide +kernel
theorem dX3_followMatched_84 : decode cX3_followMatched 84 = .ok (.aload_n 1, 1) := by decide +kernel
theorem dX3_followMatched_85 : decode cX3_followMatched 85 = .ok (.getfield 83, 3) := by decide +kernel
theorem dX3_followMatched_88 : decode cX3_followMatched 88 = .ok (.iload 5, 2) := by decide +kernel
theorem dX3_followMatched_90 : decode cX3_followMatched 90 = .ok (.iaload, 1) := by decide +kernel
theorem dX3_followMatched_91 : decode cX3_followMatched 91 = .ok (.iload_n 3, 1) := by decide +kernel
theorem dX3_followMatched_92 : decode cX3_followMatched 92 = .ok (.invokevirtual 86, 3) := by decide +kernel
theorem dX3_followMatched_95 : decode cX3_followMatched 95 = .ok (.iinc 4 1, 3) := by decide +kernel
theorem dX3_followMatched_98 : decode cX3_followMatched 98 = .ok (.goto (-95), 3) := by decide +kernel
theorem dX3_followMatched_101 : decode cX3_followMatched 101 = .ok (.return_, 1) := by decide +kernel
theorem dX3_missUnmatched_0 : decode cX3_missUnmatched 0 = .ok (.iconst 0, 1) := by decide +kernel
theorem dX3_missUnmatched_1 : decode cX3_missUnmatched 1 = .ok (.istore_n 2, 1) := by decide +kernel
theorem dX3_missUnmatched_2 : decode cX3_missUnmatched 2 = .ok (.iload_n 2, 1) := by decide +kernel
theorem dX3_missUnmatched_3 : decode cX3_missUnmatched 3 = .ok (.iconst 5, 1) := by decide +kernel
theorem dX3_missUnmatched_4 : decode cX3_missUnmatched 4 = .ok (.if_icmp .ge 49, 3) := by decide +kernel
theorem dX3_missUnmatched_7 : decode cX3_missUnmatched 7 = .ok (.aload_n 0, 1) := by decide +kernel
theorem dX3_missUnmatched_8 : decode cX3_missUnmatched 8 = .ok (.getfield 11, 3) := by decide +kernel
theorem dX3_missUnmatched_11 : decode cX3_missUnmatched 11 = .ok (.iload_n 2, 1) := by decide +kernel
theorem dX3_missUnmatched_12 : decode cX3_missUnmatched 12 = .ok (.aaload, 1) := by decide +kernel
theorem dX3_missUnmatched_13 : decode cX3_missUnmatched 13 = .ok (.astore_n 3, 1) := by decide +kernel
theorem dX3_missUnmatched_14 : decode cX3_missUnmatched 14 = .ok (.aload_n 3, 1) := by decide +kernel
theorem dX3_missUnmatched_15 : decode cX3_missUnmatched 15 = .ok (.getfield 22, 3) := by decide +kernel
theorem dX3_missUnmatched_18 : decode cX3_missUnmatched 18 = .ok (.ifCond .eq 29, 3) := by decide +kernel
theorem dX3_missUnmatched_21 : decode cX3_missUnmatched 21 = .ok (.aload_n 1, 1) := by decide +kernel
theorem dX3_missUnmatched_22 : decode cX3_missUnmatched 22 = .ok (.iload_n 2, 1) := by decide +kernel
theorem dX3_missUnmatched_23 : decode cX3_missUnmatched 23 = .ok (.invokevirtual 64, 3) := by decide +kernel
theorem dX3_missUnmatched_26 : decode cX3_missUnmatched 26 = .ok (.iconst (-1), 1) := by decide +kernel
theorem dX3_missUnmatched_27 : decode cX3_missUnmatched 27 = .ok (.if_icmp .ne 20, 3) := by decide +kernel
theorem dX3_missUnmatched_30 : decode cX3_missUnmatched 30 = .ok (.aload_n 3, 1) := by decide +kernel
theorem dX3_missUnmatched_31 : decode cX3_missUnmatched 31 = .ok (.invokevirtual 89, 3) := by decide +kernel
theorem dX3_missUnmatched_34 : decode cX3_missUnmatched 34 = .ok (.aload_n 3, 1) := by decide +kernel
theorem dX3_missUnmatched_35 : decode cX3_missUnmatched 35 = .ok (.getfield 92, 3) := by decide +kernel
theorem dX3_missUnmatched_38 : decode cX3_missUnmatched 38 = .ok (.iconst 2, 1) := by decide +kernel
theorem dX3_missUnmatched_39 : decode cX3_missUnmatched 39 = .ok (.if_icmp .lt 8, 3) := by decide +kernel
theorem dX3_missUnmatched_42 : decode cX3_missUnmatched 42 = .ok (.aload_n 0, 1) := by decide +kernel
theorem dX3_missUnmatched_43 : decode cX3_missUnmatched 43 = .ok (.aload_n 3, 1) := by decide +kernel
theorem dX3_missUnmatched_44 : decode cX3_missUnmatched 44 = .ok (.invokevirtual 95, 3) := by decide +kernel
theorem dX3_missUnmatched_47 : decode cX3_missUnmatched 47 = .ok (.iinc 2 1, 3) := by decide +kernel
theorem dX3_missUnmatched_50 : decode cX3_missUnmatched 50 = .ok (.goto (-48), 3) := by decide +kernel
theorem dX3_missUnmatched_53 : decode cX3_missUnmatched 53 = .ok (.return_, 1) := by decide +kernel
theorem dX3_lift_0 : decode cX3_lift 0 = .ok (.aload_n 1, 1) := by decide +kernel
theorem dX3_lift_1 : decode cX3_lift 1 = .ok (.iconst 0, 1) := by decide +kernel
theorem dX3_lift_2 : decode cX3_lift 2 = .ok (.putfield 22, 3) := by decide +kernel
theorem dX3_lift_5 : decode cX3_lift 5 = .ok (.aload_n 0, 1) := by decide +kernel
theorem dX3_lift_6 : decode cX3_lift 6 = .ok (.dup, 1) := by decide +kernel
theorem dX3_lift_7 : decode cX3_lift 7 = .ok (.getfield 98, 3) := by decide +kernel
theorem dX3_lift_10 : decode cX3_lift 10 = .ok (.iconst 1, 1) := by decide +kernel
theorem dX3_lift_11 : decode cX3_lift 11 = .ok (.iadd, 1) := by decide +kernel
theorem dX3_lift_12 : decode cX3_lift 12 = .ok (.putfield 98, 3) := by decide +kernel
theorem dX3_lift_15 : decode cX3_lift 15 = .ok (.aload_n 1, 1) := by decide +kernel
theorem dX3_lift_16 : decode cX3_lift 16 = .ok (.getfield 55, 3) := by decide +kernel
theorem dX3_lift_19 : decode cX3_lift 19 = .ok (.ifCond .ne 24, 3) := by decide +kernel
theorem dX3_lift_22 : decode cX3_lift 22 = .ok (.aload_n 1, 1) := by decide +kernel
theorem dX3_lift_23 : decode cX3_lift 23 = .ok (.getfield 101, 3) := by decide +kernel
theorem dX3_lift_26 : decode cX3_lift 26 = .ok (.iconst 4, 1) := by decide +kernel
theorem dX3_lift_27 : decode cX3_lift 27 = .ok (.if_icmp .gt 16, 3) := by decide +kernel
theorem dX3_lift_30 : decode cX3_lift 30 = .ok (.aload_n 0, 1) := by decide +kernel
theorem dX3_lift_31 : decode cX3_lift 31 = .ok (.getfield 17, 3) := by decide +kernel
theorem dX3_lift_34 : decode cX3_lift 34 = .ok (.aload_n 1, 1) := by decide +kernel
theorem dX3_lift_35 : decode cX3_lift 35 = .ok (.getfield 26, 3) := by decide +kernel
theorem dX3_lift_38 : decode cX3_lift 38 = .ok (.iconst 0, 1) := by decide +kernel
theorem dX3_lift_39 : decode cX3_lift 39 = .ok (.iconst 1, 1) := by decide +kernel
theorem dX3_lift_40 : decode cX3_lift 40 = .ok (.invokevirtual 58, 3) := by decide +kernel
theorem dX3_lift_43 : decode cX3_lift 43 = .ok (.return_, 1) := by decide +kernel
theorem dX3_beginUnmatched_0 : decode cX3_beginUnmatched 0 = .ok (.iconst 0, 1) := by decide +kernel
theorem dX3_beginUnmatched_1 : decode cX3_beginUnmatched 1 = .ok (.istore_n 3, 1) := by decide +kernel
theorem dX3_beginUnmatched_2 : decode cX3_beginUnmatched 2 = .ok (.iload_n 3, 1) := by decide +kernel
theorem dX3_beginUnmatched_3 : decode cX3_beginUnmatched 3 = .ok (.aload_n 1, 1) := by decide +kernel
theorem dX3_beginUnmatched_4 : decode cX3_beginUnmatched 4 = .ok (.getfield 70, 3) := by decide +kernel
theorem dX3_beginUnmatched_7 : decode cX3_beginUnmatched 7 = .ok (.if_icmp .ge 92, 3) := by decide +kernel
theorem dX3_beginUnmatched_10 : decode cX3_beginUnmatched 10 = .ok (.aload_n 0, 1) := by decide +kernel
theorem dX3_beginUnmatched_11 : decode cX3_beginUnmatched 11 = .ok (.invokevirtual 104, 3) := by decide +kernel
theorem dX3_beginUnmatched_14 : decode cX3_beginUnmatched 14 = .ok (.istore 4, 2) := by decide +kernel
theorem dX3_beginUnmatched_16 : decode cX3_beginUnmatched 16 = .ok (.iload 4, 2) := by decide +kernel
theorem dX3_beginUnmatched_18 : decode cX3_beginUnmatched 18 = .ok (.iconst (-1), 1) := by decide +kernel
theorem dX3_beginUnmatched_19 : decode cX3_beginUnmatched 19 = .ok (.if_icmp .eq 74, 3) := by decide +kernel
theorem dX3_beginUnmatched_22 : decode cX3_beginUnmatched 22 = .ok (.aload_n 1, 1) := by decide +kernel
theorem dX3_beginUnmatched_23 : decode cX3_beginUnmatched 23 = .ok (.iload_n 3, 1) := by decide +kernel
theorem dX3_beginUnmatched_24 : decode cX3_beginUnmatched 24 = .ok (.invokevirtual 75, 3) := by decide +kernel
theorem dX3_beginUnmatched_27 : decode cX3_beginUnmatched 27 = .ok (.ifCond .ne 66, 3) := by decide +kernel
theorem dX3_beginUnmatched_30 : decode cX3_beginUnmatched 30 = .ok (.aload_n 2, 1) := by decide +kernel
theorem dX3_beginUnmatched_31 : decode cX3_beginUnmatched 31 = .ok (.iload_n 3, 1) := by decide +kernel
theorem dX3_beginUnmatched_32 : decode cX3_beginUnmatched 32 = .ok (.invokestatic 108, 3) := by decide +kernel
theorem dX3_beginUnmatched_35 : decode cX3_beginUnmatched 35 = .ok (.ifCond .ne 58, 3) := by decide +kernel
theorem dX3_beginUnmatched_38 : decode cX3_beginUnmatched 38 = .ok (.aload_n 0, 1) := by decide +kernel
theorem dX3_beginUnmatched_39 : decode cX3_beginUnmatched 39 = .ok (.getfield 17, 3) := by decide +kernel
theorem dX3_beginUnmatched_42 : decode cX3_beginUnmatched 42 = .ok (.aload_n 1, 1) := by decide +kernel
theorem dX3_beginUnmatched_43 : decode cX3_beginUnmatched 43 = .ok (.getfield 112, 3) := by decide +kernel
theorem dX3_beginUnmatched_46 : decode cX3_beginUnmatched 46 = .ok (.iload_n 3, 1) := by decide +kernel
theorem dX3_beginUnmatched_47 : decode cX3_beginUnmatched 47 = .ok (.iaload, 1) := by decide +kernel
theorem dX3_beginUnmatched_48 : decode cX3_beginUnmatched 48 = .ok (.invokevirtual 115, 3) := by decide +kernel
theorem dX3_beginUnmatched_51 : decode cX3_beginUnmatched 51 = .ok (.istore 5, 2) := by decide +kernel
theorem dX3_beginUnmatched_53 : decode cX3_beginUnmatched 53 = .ok (.aload_n 0, 1) := by decide +kernel
theorem dX3_beginUnmatched_54 : decode cX3_beginUnmatched 54 = .ok (.getfield 11, 3) := by decide +kernel
theorem dX3_beginUnmatched_57 : decode cX3_beginUnmatched 57 = .ok (.iload 4, 2) := by decide +kernel
theorem dX3_beginUnmatched_59 : decode cX3_beginUnmatched 59 = .ok (.aaload, 1) := by decide +kernel
theorem dX3_beginUnmatched_60 : decode cX3_beginUnmatched 60 = .ok (.aload_n 1, 1) := by decide +kernel
theorem dX3_beginUnmatched_61 : decode cX3_beginUnmatched 61 = .ok (.getfield 79, 3) := by decide +kernel
theorem dX3_beginUnmatched_64 : decode cX3_beginUnmatched 64 = .ok (.iload_n 3, 1) := by decide +kernel
theorem dX3_beginUnmatched_65 : decode cX3_beginUnmatched 65 = .ok (.iaload, 1) := by decide +kernel
theorem dX3_beginUnmatched_66 : decode cX3_beginUnmatched 66 = .ok (.aload_n 1, 1) := by decide +kernel
theorem dX3_beginUnmatched_67 : decode cX3_beginUnmatched 67 = .ok (.getfield 83, 3) := by decide +kernel
theorem dX3_beginUnmatched_70 : decode cX3_beginUnmatched 70 = .ok (.iload_n 3, 1) := by decide +kernel
theorem dX3_beginUnmatched_71 : decode cX3_beginUnmatched 71 = .ok (.iaload, 1) := by decide +kernel
theorem dX3_beginUnmatched_72 : decode cX3_beginUnmatched 72 = .ok (.iload 5, 2) := by decide +kernel
theorem dX3_beginUnmatched_74 : decode cX3_beginUnmatched 74 = .ok (.invokevirtual 118, 3) := by decide +kernel
theorem dX3_beginUnmatched_77 : decode cX3_beginUnmatched 77 = .ok (.aload_n 0, 1) := by decide +kernel
theorem dX3_beginUnmatched_78 : decode cX3_beginUnmatched 78 = .ok (.dup, 1) := by decide +kernel
theorem dX3_beginUnmatched_79 : decode cX3_beginUnmatched 79 = .ok (.getfield 121, 3) := by decide +kernel
theorem dX3_beginUnmatched_82 : decode cX3_beginUnmatched 82 = .ok (.iconst 1, 1) := by decide +kernel
theorem dX3_beginUnmatched_83 : decode cX3_beginUnmatched 83 = .ok (.iadd, 1) := by decide +kernel
theorem dX3_beginUnmatched_84 : decode cX3_beginUnmatched 84 = .ok (.putfield 121, 3) := by decide +kernel
theorem dX3_beginUnmatched_87 : decode cX3_beginUnmatched 87 = .ok (.aload_n 0, 1) := by decide +kernel
theorem dX3_beginUnmatched_88 : decode cX3_beginUnmatched 88 = .ok (.iload 4, 2) := by decide +kernel
theorem dX3_beginUnmatched_90 : decode cX3_beginUnmatched 90 = .ok (.invokevirtual 124, 3) := by decide +kernel
theorem dX3_beginUnmatched_93 : decode cX3_beginUnmatched 93 = .ok (.iinc 3 1, 3) := by decide +kernel
theorem dX3_beginUnmatched_96 : decode cX3_beginUnmatched 96 = .ok (.goto (-94), 3) := by decide +kernel
theorem dX3_beginUnmatched_99 : decode cX3_beginUnmatched 99 = .ok (.return_, 1) := by decide +kernel
theorem dX3_freeName_0 : decode cX3_freeName 0 = .ok (.iconst 0, 1) := by decide +kernel
theorem dX3_freeName_1 : decode cX3_freeName 1 = .ok (.istore_n 1, 1) := by decide +kernel
theorem dX3_freeName_2 : decode cX3_freeName 2 = .ok (.iload_n 1, 1) := by decide +kernel
theorem dX3_freeName_3 : decode cX3_freeName 3 = .ok (.iconst 5, 1) := by decide +kernel
theorem dX3_freeName_4 : decode cX3_freeName 4 = .ok (.if_icmp .ge 23, 3) := by decide +kernel
theorem dX3_freeName_7 : decode cX3_freeName 7 = .ok (.aload_n 0, 1) := by decide +kernel
theorem dX3_freeName_8 : decode cX3_freeName 8 = .ok (.getfield 11, 3) := by decide +kernel
theorem dX3_freeName_11 : decode cX3_freeName 11 = .ok (.iload_n 1, 1) := by decide +kernel
theorem dX3_freeName_12 : decode cX3_freeName 12 = .ok (.aaload, 1) := by decide +kernel
theorem dX3_freeName_13 : decode cX3_freeName 13 = .ok (.getfield 22, 3) := by decide +kernel
theorem dX3_freeName_16 : decode cX3_freeName 16 = .ok (.ifCond .ne 5, 3) := by decide +kernel
theorem dX3_freeName_19 : decode cX3_freeName 19 = .ok (.iload_n 1, 1) := by decide +kernel
theorem dX3_freeName_20 : decode cX3_freeName 20 = .ok (.ireturn, 1) := by decide +kernel
theorem dX3_freeName_21 : decode cX3_freeName 21 = .ok (.iinc 1 1, 3) := by decide +kernel
theorem dX3_freeName_24 : decode cX3_freeName 24 = .ok (.goto (-22), 3) := by decide +kernel
theorem dX3_freeName_27 : decode cX3_freeName 27 = .ok (.iconst (-1), 1) := by decide +kernel
theorem dX3_freeName_28 : decode cX3_freeName 28 = .ok (.ireturn, 1) := by decide +kernel
theorem dX3_isMatchedBy_0 : decode cX3_isMatchedBy 0 = .ok (.iconst 0, 1) := by decide +kernel
theorem dX3_isMatchedBy_1 : decode cX3_isMatchedBy 1 = .ok (.istore_n 2, 1) := by decide +kernel
theorem dX3_isMatchedBy_2 : decode cX3_isMatchedBy 2 = .ok (.iload_n 2, 1) := by decide +kernel
theorem dX3_isMatchedBy_3 : decode cX3_isMatchedBy 3 = .ok (.iconst 5, 1) := by decide +kernel
theorem dX3_isMatchedBy_4 : decode cX3_isMatchedBy 4 = .ok (.if_icmp .ge 20, 3) := by decide +kernel
theorem dX3_isMatchedBy_7 : decode cX3_isMatchedBy 7 = .ok (.aload_n 0, 1) := by decide +kernel
theorem dX3_isMatchedBy_8 : decode cX3_isMatchedBy 8 = .ok (.iload_n 2, 1) := by decide +kernel
theorem dX3_isMatchedBy_9 : decode cX3_isMatchedBy 9 = .ok (.invokevirtual 64, 3) := by decide +kernel
theorem dX3_isMatchedBy_12 : decode cX3_isMatchedBy 12 = .ok (.iload_n 1, 1) := by decide +kernel
theorem dX3_isMatchedBy_13 : decode cX3_isMatchedBy 13 = .ok (.if_icmp .ne 5, 3) := by decide +kernel
theorem dX3_isMatchedBy_16 : decode cX3_isMatchedBy 16 = .ok (.iconst 1, 1) := by decide +kernel
theorem dX3_isMatchedBy_17 : decode cX3_isMatchedBy 17 = .ok (.ireturn, 1) := by decide +kernel
theorem dX3_isMatchedBy_18 : decode cX3_isMatchedBy 18 = .ok (.iinc 2 1, 3) := by decide +kernel
theorem dX3_isMatchedBy_21 : decode cX3_isMatchedBy 21 = .ok (.goto (-19), 3) := by decide +kernel
theorem dX3_isMatchedBy_24 : decode cX3_isMatchedBy 24 = .ok (.iconst 0, 1) := by decide +kernel
theorem dX3_isMatchedBy_25 : decode cX3_isMatchedBy 25 = .ok (.ireturn, 1) := by decide +kernel
theorem dX3_rememberApart_0 : decode cX3_rememberApart 0 = .ok (.iconst 0, 1) := by decide +kernel
theorem dX3_rememberApart_1 : decode cX3_rememberApart 1 = .ok (.istore_n 2, 1) := by decide +kernel
theorem dX3_rememberApart_2 : decode cX3_rememberApart 2 = .ok (.iload_n 2, 1) := by decide +kernel
theorem dX3_rememberApart_3 : decode cX3_rememberApart 3 = .ok (.iconst 5, 1) := by decide +kernel
theorem dX3_rememberApart_4 : decode cX3_rememberApart 4 = .ok (.if_icmp .ge 61, 3) := by decide +kernel
theorem dX3_rememberApart_7 : decode cX3_rememberApart 7 = .ok (.aload_n 0, 1) := by decide +kernel
theorem dX3_rememberApart_8 : decode cX3_rememberApart 8 = .ok (.getfield 11, 3) := by decide +kernel
theorem dX3_rememberApart_11 : decode cX3_rememberApart 11 = .ok (.iload_n 2, 1) := by decide +kernel
theorem dX3_rememberApart_12 : decode cX3_rememberApart 12 = .ok (.aaload, 1) := by decide +kernel
theorem dX3_rememberApart_13 : decode cX3_rememberApart 13 = .ok (.getfield 22, 3) := by decide +kernel
theorem dX3_rememberApart_16 : decode cX3_rememberApart 16 = .ok (.ifCond .eq 43, 3) := by decide +kernel
theorem dX3_rememberApart_19 : decode cX3_rememberApart 19 = .ok (.aload_n 0, 1) := by decide +kernel
theorem dX3_rememberApart_20 : decode cX3_rememberApart 20 = .ok (.getfield 11, 3) := by decide +kernel
theorem dX3_rememberApart_23 : decode cX3_rememberApart 23 = .ok (.iload_n 1, 1) := by decide +kernel
theorem dX3_rememberApart_24 : decode cX3_rememberApart 24 = .ok (.aaload, 1) := by decide +kernel
theorem dX3_rememberApart_25 : decode cX3_rememberApart 25 = .ok (.aload_n 0, 1) := by decide +kernel
theorem dX3_rememberApart_26 : decode cX3_rememberApart 26 = .ok (.getfield 11, 3) := by decide +kernel
theorem dX3_rememberApart_29 : decode cX3_rememberApart 29 = .ok (.iload_n 2, 1) := by decide +kernel
theorem dX3_rememberApart_30 : decode cX3_rememberApart 30 = .ok (.aaload, 1) := by decide +kernel
theorem dX3_rememberApart_31 : decode cX3_rememberApart 31 = .ok (.invokevirtual 128, 3) := by decide +kernel
theorem dX3_rememberApart_34 : decode cX3_rememberApart 34 = .ok (.fstore_n 3, 1) := by decide +kernel
theorem dX3_rememberApart_35 : decode cX3_rememberApart 35 = .ok (.aload_n 0, 1) := by decide +kernel
theorem dX3_rememberApart_36 : decode cX3_rememberApart 36 = .ok (.getfield 11, 3) := by decide +kernel
theorem dX3_rememberApart_39 : decode cX3_rememberApart 39 = .ok (.iload_n 1, 1) := by decide +kernel
theorem dX3_rememberApart_40 : decode cX3_rememberApart 40 = .ok (.aaload, 1) := by decide +kernel
theorem dX3_rememberApart_41 : decode cX3_rememberApart 41 = .ok (.getfield 132, 3) := by decide +kernel
theorem dX3_rememberApart_44 : decode cX3_rememberApart 44 = .ok (.iload_n 2, 1) := by decide +kernel
theorem dX3_rememberApart_45 : decode cX3_rememberApart 45 = .ok (.fload_n 3, 1) := by decide +kernel
theorem dX3_rememberApart_46 : decode cX3_rememberApart 46 = .ok (.fastore, 1) := by decide +kernel
theorem dX3_rememberApart_47 : decode cX3_rememberApart 47 = .ok (.aload_n 0, 1) := by decide +kernel
theorem dX3_rememberApart_48 : decode cX3_rememberApart 48 = .ok (.getfield 11, 3) := by decide +kernel
theorem dX3_rememberApart_51 : decode cX3_rememberApart 51 = .ok (.iload_n 2, 1) := by decide +kernel
theorem dX3_rememberApart_52 : decode cX3_rememberApart 52 = .ok (.aaload, 1) := by decide +kernel
theorem dX3_rememberApart_53 : decode cX3_rememberApart 53 = .ok (.getfield 132, 3) := by decide +kernel
theorem dX3_rememberApart_56 : decode cX3_rememberApart 56 = .ok (.iload_n 1, 1) := by decide +kernel
theorem dX3_rememberApart_57 : decode cX3_rememberApart 57 = .ok (.fload_n 3, 1) := by decide +kernel
theorem dX3_rememberApart_58 : decode cX3_rememberApart 58 = .ok (.fastore, 1) := by decide +kernel
theorem dX3_rememberApart_59 : decode cX3_rememberApart 59 = .ok (.iinc 2 1, 3) := by decide +kernel
theorem dX3_rememberApart_62 : decode cX3_rememberApart 62 = .ok (.goto (-60), 3) := by decide +kernel
theorem dX3_rememberApart_65 : decode cX3_rememberApart 65 = .ok (.return_, 1) := by decide +kernel
theorem dX3_claimPinches_0 : decode cX3_claimPinches 0 = .ok (.iconst 0, 1) := by decide +kernel
theorem dX3_claimPinches_1 : decode cX3_claimPinches 1 = .ok (.istore_n 1, 1) := by decide +kernel
theorem dX3_claimPinches_2 : decode cX3_claimPinches 2 = .ok (.iload_n 1, 1) := by decide +kernel
theorem dX3_claimPinches_3 : decode cX3_claimPinches 3 = .ok (.iconst 5, 1) := by decide +kernel
theorem dX3_claimPinches_4 : decode cX3_claimPinches 4 = .ok (.if_icmp .ge 79, 3) := by decide +kernel
theorem dX3_claimPinches_7 : decode cX3_claimPinches 7 = .ok (.iload_n 1, 1) := by decide +kernel
theorem dX3_claimPinches_8 : decode cX3_claimPinches 8 = .ok (.iconst 1, 1) := by decide +kernel
theorem dX3_claimPinches_9 : decode cX3_claimPinches 9 = .ok (.iadd, 1) := by decide +kernel
theorem dX3_claimPinches_10 : decode cX3_claimPinches 10 = .ok (.istore_n 2, 1) := by decide +kernel
theorem dX3_claimPinches_11 : decode cX3_claimPinches 11 = .ok (.iload_n 2, 1) := by decide +kernel
theorem dX3_claimPinches_12 : decode cX3_claimPinches 12 = .ok (.iconst 5, 1) := by decide +kernel
theorem dX3_claimPinches_13 : decode cX3_claimPinches 13 = .ok (.if_icmp .ge 64, 3) := by decide +kernel
theorem dX3_claimPinches_16 : decode cX3_claimPinches 16 = .ok (.aload_n 0, 1) := by decide +kernel
theorem dX3_claimPinches_17 : decode cX3_claimPinches 17 = .ok (.getfield 11, 3) := by decide +kernel
theorem dX3_claimPinches_20 : decode cX3_claimPinches 20 = .ok (.iload_n 1, 1) := by decide +kernel
theorem dX3_claimPinches_21 : decode cX3_claimPinches 21 = .ok (.aaload, 1) := by decide +kernel
theorem dX3_claimPinches_22 : decode cX3_claimPinches 22 = .ok (.invokevirtual 136, 3) := by decide +kernel
theorem dX3_claimPinches_25 : decode cX3_claimPinches 25 = .ok (.ifCond .eq 46, 3) := by decide +kernel
theorem dX3_claimPinches_28 : decode cX3_claimPinches 28 = .ok (.aload_n 0, 1) := by decide +kernel
theorem dX3_claimPinches_29 : decode cX3_claimPinches 29 = .ok (.getfield 11, 3) := by decide +kernel
theorem dX3_claimPinches_32 : decode cX3_claimPinches 32 = .ok (.iload_n 2, 1) := by decide +kernel
theorem dX3_claimPinches_33 : decode cX3_claimPinches 33 = .ok (.aaload, 1) := by decide +kernel
theorem dX3_claimPinches_34 : decode cX3_claimPinches 34 = .ok (.invokevirtual 136, 3) := by decide +kernel
theorem dX3_claimPinches_37 : decode cX3_claimPinches 37 = .ok (.ifCond .eq 34, 3) := by decide +kernel
theorem dX3_claimPinches_40 : decode cX3_claimPinches 40 = .ok (.aload_n 0, 1) := by decide +kernel
theorem dX3_claimPinches_41 : decode cX3_claimPinches 41 = .ok (.iload_n 1, 1) := by decide +kernel
theorem dX3_claimPinches_42 : decode cX3_claimPinches 42 = .ok (.iload_n 2, 1) := by decide +kernel
theorem dX3_claimPinches_43 : decode cX3_claimPinches 43 = .ok (.invokevirtual 140, 3) := by decide +kernel
theorem dX3_claimPinches_46 : decode cX3_claimPinches 46 = .ok (.ifCond .eq 25, 3) := by decide +kernel
theorem dX3_claimPinches_49 : decode cX3_claimPinches 49 = .ok (.aload_n 0, 1) := by decide +kernel
theorem dX3_claimPinches_50 : decode cX3_claimPinches 50 = .ok (.aload_n 0, 1) := by decide +kernel
theorem dX3_claimPinches_51 : decode cX3_claimPinches 51 = .ok (.getfield 11, 3) := by decide +kernel
theorem dX3_claimPinches_54 : decode cX3_claimPinches 54 = .ok (.iload_n 1, 1) := by decide +kernel
theorem dX3_claimPinches_55 : decode cX3_claimPinches 55 = .ok (.aaload, 1) := by decide +kernel
theorem dX3_claimPinches_56 : decode cX3_claimPinches 56 = .ok (.iconst 1, 1) := by decide +kernel
theorem dX3_claimPinches_57 : decode cX3_claimPinches 57 = .ok (.invokevirtual 144, 3) := by decide +kernel
theorem dX3_claimPinches_60 : decode cX3_claimPinches 60 = .ok (.aload_n 0, 1) := by decide +kernel
theorem dX3_claimPinches_61 : decode cX3_claimPinches 61 = .ok (.aload_n 0, 1) := by decide +kernel
theorem dX3_claimPinches_62 : decode cX3_claimPinches 62 = .ok (.getfield 11, 3) := by decide +kernel
theorem dX3_claimPinches_65 : decode cX3_claimPinches 65 = .ok (.iload_n 2, 1) := by decide +kernel
theorem dX3_claimPinches_66 : decode cX3_claimPinches 66 = .ok (.aaload, 1) := by decide +kernel
theorem dX3_claimPinches_67 : decode cX3_claimPinches 67 = .ok (.iconst 1, 1) := by decide +kernel
theorem dX3_claimPinches_68 : decode cX3_claimPinches 68 = .ok (.invokevirtual 144, 3) := by decide +kernel
theorem dX3_claimPinches_71 : decode cX3_claimPinches 71 = .ok (.iinc 2 1, 3) := by decide +kernel
theorem dX3_claimPinches_74 : decode cX3_claimPinches 74 = .ok (.goto (-63), 3) := by decide +kernel
theorem dX3_claimPinches_77 : decode cX3_claimPinches 77 = .ok (.iinc 1 1, 3) := by decide +kernel
theorem dX3_claimPinches_80 : decode cX3_claimPinches 80 = .ok (.goto (-78), 3) := by decide +kernel
theorem dX3_claimPinches_83 : decode cX3_claimPinches 83 = .ok (.return_, 1) := by decide +kernel
theorem dX3_isPinch_0 : decode cX3_isPinch 0 = .ok (.aload_n 0, 1) := by decide +kernel
theorem dX3_isPinch_1 : decode cX3_isPinch 1 = .ok (.getfield 11, 3) := by decide +kernel
theorem dX3_isPinch_4 : decode cX3_isPinch 4 = .ok (.iload_n 1, 1) := by decide +kernel
theorem dX3_isPinch_5 : decode cX3_isPinch 5 = .ok (.aaload, 1) := by decide +kernel
theorem dX3_isPinch_6 : decode cX3_isPinch 6 = .ok (.aload_n 0, 1) := by decide +kernel
theorem dX3_isPinch_7 : decode cX3_isPinch 7 = .ok (.getfield 11, 3) := by decide +kernel
theorem dX3_isPinch_10 : decode cX3_isPinch 10 = .ok (.iload_n 2, 1) := by decide +kernel
theorem dX3_isPinch_11 : decode cX3_isPinch 11 = .ok (.aaload, 1) := by decide +kernel
theorem dX3_isPinch_12 : decode cX3_isPinch 12 = .ok (.invokevirtual 128, 3) := by decide +kernel
theorem dX3_isPinch_15 : decode cX3_isPinch 15 = .ok (.fstore_n 3, 1) := by decide +kernel
theorem dX3_isPinch_16 : decode cX3_isPinch 16 = .ok (.fload_n 3, 1) := by decide +kernel
theorem dX3_isPinch_17 : decode cX3_isPinch 17 = .ok (.aload_n 0, 1) := by decide +kernel
theorem dX3_isPinch_18 : decode cX3_isPinch 18 = .ok (.getfield 11, 3) := by decide +kernel
theorem dX3_isPinch_21 : decode cX3_isPinch 21 = .ok (.iload_n 1, 1) := by decide +kernel
theorem dX3_isPinch_22 : decode cX3_isPinch 22 = .ok (.aaload, 1) := by decide +kernel
theorem dX3_isPinch_23 : decode cX3_isPinch 23 = .ok (.getfield 132, 3) := by decide +kernel
theorem dX3_isPinch_26 : decode cX3_isPinch 26 = .ok (.iload_n 2, 1) := by decide +kernel
theorem dX3_isPinch_27 : decode cX3_isPinch 27 = .ok (.faload, 1) := by decide +kernel
theorem dX3_isPinch_28 : decode cX3_isPinch 28 = .ok (.fsub, 1) := by decide +kernel
theorem dX3_isPinch_29 : decode cX3_isPinch 29 = .ok (.invokestatic 147, 3) := by decide +kernel
theorem dX3_isPinch_32 : decode cX3_isPinch 32 = .ok (.ldc 151, 2) := by decide +kernel
theorem dX3_isPinch_34 : decode cX3_isPinch 34 = .ok (.fcmp .l, 1) := by decide +kernel
theorem dX3_isPinch_35 : decode cX3_isPinch 35 = .ok (.ifCond .le 7, 3) := by decide +kernel
theorem dX3_isPinch_38 : decode cX3_isPinch 38 = .ok (.iconst 1, 1) := by decide +kernel
theorem dX3_isPinch_39 : decode cX3_isPinch 39 = .ok (.goto 4, 3) := by decide +kernel
theorem dX3_isPinch_42 : decode cX3_isPinch 42 = .ok (.iconst 0, 1) := by decide +kernel
theorem dX3_isPinch_43 : decode cX3_isPinch 43 = .ok (.ireturn, 1) := by decide +kernel
theorem dX3_claimAlone_0 : decode cX3_claimAlone 0 = .ok (.iconst 0, 1) := by decide +kernel
theorem dX3_claimAlone_1 : decode cX3_claimAlone 1 = .ok (.istore_n 1, 1) := by decide +kernel
theorem dX3_claimAlone_2 : decode cX3_claimAlone 2 = .ok (.iload_n 1, 1) := by decide +kernel
theorem dX3_claimAlone_3 : decode cX3_claimAlone 3 = .ok (.iconst 5, 1) := by decide +kernel
theorem dX3_claimAlone_4 : decode cX3_claimAlone 4 = .ok (.if_icmp .ge 64, 3) := by decide +kernel
theorem dX3_claimAlone_7 : decode cX3_claimAlone 7 = .ok (.aload_n 0, 1) := by decide +kernel
theorem dX3_claimAlone_8 : decode cX3_claimAlone 8 = .ok (.getfield 11, 3) := by decide +kernel
theorem dX3_claimAlone_11 : decode cX3_claimAlone 11 = .ok (.iload_n 1, 1) := by decide +kernel
theorem dX3_claimAlone_12 : decode cX3_claimAlone 12 = .ok (.aaload, 1) := by decide +kernel
theorem dX3_claimAlone_13 : decode cX3_claimAlone 13 = .ok (.astore_n 2, 1) := by decide +kernel
theorem dX3_claimAlone_14 : decode cX3_claimAlone 14 = .ok (.aload_n 2, 1) := by decide +kernel
theorem dX3_claimAlone_15 : decode cX3_claimAlone 15 = .ok (.invokevirtual 136, 3) := by decide +kernel
theorem dX3_claimAlone_18 : decode cX3_claimAlone 18 = .ok (.ifCond .eq 22, 3) := by decide +kernel
theorem dX3_claimAlone_21 : decode cX3_claimAlone 21 = .ok (.aload_n 2, 1) := by decide +kernel
theorem dX3_claimAlone_22 : decode cX3_claimAlone 22 = .ok (.getfield 152, 3) := by decide +kernel
theorem dX3_claimAlone_25 : decode cX3_claimAlone 25 = .ok (.ldc 156, 2) := by decide +kernel
theorem dX3_claimAlone_27 : decode cX3_claimAlone 27 = .ok (.fcmp .l, 1) := by decide +kernel
theorem dX3_claimAlone_28 : decode cX3_claimAlone 28 = .ok (.ifCond .le 12, 3) := by decide +kernel
theorem dX3_claimAlone_31 : decode cX3_claimAlone 31 = .ok (.aload_n 0, 1) := by decide +kernel
theorem dX3_claimAlone_32 : decode cX3_claimAlone 32 = .ok (.aload_n 2, 1) := by decide +kernel
theorem dX3_claimAlone_33 : decode cX3_claimAlone 33 = .ok (.iconst 2, 1) := by decide +kernel
theorem dX3_claimAlone_34 : decode cX3_claimAlone 34 = .ok (.invokevirtual 144, 3) := by decide +kernel
theorem dX3_claimAlone_37 : decode cX3_claimAlone 37 = .ok (.goto 25, 3) := by decide +kernel
theorem dX3_claimAlone_40 : decode cX3_claimAlone 40 = .ok (.aload_n 2, 1) := by decide +kernel
theorem dX3_claimAlone_41 : decode cX3_claimAlone 41 = .ok (.invokevirtual 136, 3) := by decide +kernel
theorem dX3_claimAlone_44 : decode cX3_claimAlone 44 = .ok (.ifCond .eq 18, 3) := by decide +kernel
theorem dX3_claimAlone_47 : decode cX3_claimAlone 47 = .ok (.aload_n 2, 1) := by decide +kernel
theorem dX3_claimAlone_48 : decode cX3_claimAlone 48 = .ok (.getfield 101, 3) := by decide +kernel
theorem dX3_claimAlone_51 : decode cX3_claimAlone 51 = .ok (.bipush 8, 2) := by decide +kernel
theorem dX3_claimAlone_53 : decode cX3_claimAlone 53 = .ok (.if_icmp .lt 9, 3) := by decide +kernel
theorem dX3_claimAlone_56 : decode cX3_claimAlone 56 = .ok (.aload_n 0, 1) := by decide +kernel
theorem dX3_claimAlone_57 : decode cX3_claimAlone 57 = .ok (.aload_n 2, 1) := by decide +kernel
theorem dX3_claimAlone_58 : decode cX3_claimAlone 58 = .ok (.iconst 3, 1) := by decide +kernel
theorem dX3_claimAlone_59 : decode cX3_claimAlone 59 = .ok (.invokevirtual 144, 3) := by decide +kernel
theorem dX3_claimAlone_62 : decode cX3_claimAlone 62 = .ok (.iinc 1 1, 3) := by decide +kernel
theorem dX3_claimAlone_65 : decode cX3_claimAlone 65 = .ok (.goto (-63), 3) := by decide +kernel
theorem dX3_claimAlone_68 : decode cX3_claimAlone 68 = .ok (.return_, 1) := by decide +kernel
theorem dX3_claim_0 : decode cX3_claim 0 = .ok (.aload_n 1, 1) := by decide +kernel
theorem dX3_claim_1 : decode cX3_claim 1 = .ok (.iload_n 2, 1) := by decide +kernel
theorem dX3_claim_2 : decode cX3_claim 2 = .ok (.putfield 55, 3) := by decide +kernel
theorem dX3_claim_5 : decode cX3_claim 5 = .ok (.aload_n 0, 1) := by decide +kernel
theorem dX3_claim_6 : decode cX3_claim 6 = .ok (.getfield 17, 3) := by decide +kernel
theorem dX3_claim_9 : decode cX3_claim 9 = .ok (.aload_n 1, 1) := by decide +kernel
theorem dX3_claim_10 : decode cX3_claim 10 = .ok (.getfield 26, 3) := by decide +kernel
theorem dX3_claim_13 : decode cX3_claim 13 = .ok (.iload_n 2, 1) := by decide +kernel
theorem dX3_claim_14 : decode cX3_claim 14 = .ok (.iconst 1, 1) := by decide +kernel
theorem dX3_claim_15 : decode cX3_claim 15 = .ok (.invokevirtual 58, 3) := by decide +kernel
theorem dX3_claim_18 : decode cX3_claim 18 = .ok (.return_, 1) := by decide +kernel
theorem dX4_init_0 : decode cX4_init 0 = .ok (.aload_n 0, 1) := by decide +kernel
theorem dX4_init_1 : decode cX4_init 1 = .ok (.invokespecial 3, 3) := by decide +kernel
theorem dX4_init_4 : decode cX4_init 4 = .ok (.aload_n 0, 1) := by decide +kernel
theorem dX4_init_5 : decode cX4_init 5 = .ok (.bipush 32, 2) := by decide +kernel
theorem dX4_init_7 : decode cX4_init 7 = .ok (.newarray .long, 2) := by decide +kernel
theorem dX4_init_9 : decode cX4_init 9 = .ok (.putfield 11, 3) := by decide +kernel
theorem dX4_init_12 : decode cX4_init 12 = .ok (.aload_n 0, 1) := by decide +kernel
theorem dX4_init_13 : decode cX4_init 13 = .ok (.iconst 5, 1) := by decide +kernel
theorem dX4_init_14 : decode cX4_init 14 = .ok (.newarray .long, 2) := by decide +kernel
theorem dX4_init_16 : decode cX4_init 16 = .ok (.putfield 15, 3) := by decide +kernel
theorem dX4_init_19 : decode cX4_init 19 = .ok (.return_, 1) := by decide +kernel
theorem dX4_pair_0 : decode cX4_pair 0 = .ok (.aload_n 0, 1) := by decide +kernel
theorem dX4_pair_1 : decode cX4_pair 1 = .ok (.getfield 11, 3) := by decide +kernel
theorem dX4_pair_4 : decode cX4_pair 4 = .ok (.iconst 0, 1) := by decide +kernel
theorem dX4_pair_5 : decode cX4_pair 5 = .ok (.lconst 0, 1) := by decide +kernel
theorem dX4_pair_6 : decode cX4_pair 6 = .ok (.lastore, 1) := by decide +kernel
theorem dX4_pair_7 : decode cX4_pair 7 = .ok (.iconst 1, 1) := by decide +kernel
theorem dX4_pair_8 : decode cX4_pair 8 = .ok (.istore_n 3, 1) := by decide +kernel
theorem dX4_pair_9 : decode cX4_pair 9 = .ok (.iload_n 3, 1) := by decide +kernel
theorem dX4_pair_10 : decode cX4_pair 10 = .ok (.bipush 32, 2) := by decide +kernel
theorem dX4_pair_12 : decode cX4_pair 12 = .ok (.if_icmp .ge 18, 3) := by decide +kernel
theorem dX4_pair_15 : decode cX4_pair 15 = .ok (.aload_n 0, 1) := by decide +kernel
theorem dX4_pair_16 : decode cX4_pair 16 = .ok (.getfield 11, 3) := by decide +kernel
theorem dX4_pair_19 : decode cX4_pair 19 = .ok (.iload_n 3, 1) := by decide +kernel
theorem dX4_pair_20 : decode cX4_pair 20 = .ok (.ldc2_w 18, 3) := by decide +kernel
theorem dX4_pair_23 : decode cX4_pair 23 = .ok (.lastore, 1) := by decide +kernel
theorem dX4_pair_24 : decode cX4_pair 24 = .ok (.iinc 3 1, 3) := by decide +kernel
theorem dX4_pair_27 : decode cX4_pair 27 = .ok (.goto (-18), 3) := by decide +kernel
theorem dX4_pair_30 : decode cX4_pair 30 = .ok (.iconst 0, 1) := by decide +kernel
theorem dX4_pair_31 : decode cX4_pair 31 = .ok (.istore_n 3, 1) := by decide +kernel
theorem dX4_pair_32 : decode cX4_pair 32 = .ok (.iload_n 3, 1) := by decide +kernel
theorem dX4_pair_33 : decode cX4_pair 33 = .ok (.aload_n 1, 1) := by decide +kernel
theorem dX4_pair_34 : decode cX4_pair 34 = .ok (.getfield 20, 3) := by decide +kernel
theorem dX4_pair_37 : decode cX4_pair 37 = .ok (.if_icmp .ge 46, 3) := by decide +kernel
theorem dX4_pair_40 : decode cX4_pair 40 = .ok (.iconst 0, 1) := by decide +kernel
theorem dX4_pair_41 : decode cX4_pair 41 = .ok (.istore 4, 2) := by decide +kernel
theorem dX4_pair_43 : decode cX4_pair 43 = .ok (.iload 4, 2) := by decide +kernel
theorem dX4_pair_45 : decode cX4_pair 45 = .ok (.iconst 5, 1) := by decide +kernel
theorem dX4_pair_46 : decode cX4_pair 46 = .ok (.if_icmp .ge 27, 3) := by decide +kernel
theorem dX4_pair_49 : decode cX4_pair 49 = .ok (.aload_n 0, 1) := by decide +kernel
theorem dX4_pair_50 : decode cX4_pair 50 = .ok (.getfield 15, 3) := by decide +kernel
theorem dX4_pair_53 : decode cX4_pair 53 = .ok (.iload 4, 2) := by decide +kernel
theorem dX4_pair_55 : decode cX4_pair 55 = .ok (.aload_n 2, 1) := by decide +kernel
theorem dX4_pair_56 : decode cX4_pair 56 = .ok (.iload 4, 2) := by decide +kernel
theorem dX4_pair_58 : decode cX4_pair 58 = .ok (.aaload, 1) := by decide +kernel
theorem dX4_pair_59 : decode cX4_pair 59 = .ok (.iload 4, 2) := by decide +kernel
theorem dX4_pair_61 : decode cX4_pair 61 = .ok (.aload_n 1, 1) := by decide +kernel
theorem dX4_pair_62 : decode cX4_pair 62 = .ok (.iload_n 3, 1) := by decide +kernel
theorem dX4_pair_63 : decode cX4_pair 63 = .ok (.invokestatic 26, 3) := by decide +kernel
theorem dX4_pair_66 : decode cX4_pair 66 = .ok (.lastore, 1) := by decide +kernel
theorem dX4_pair_67 : decode cX4_pair 67 = .ok (.iinc 4 1, 3) := by decide +kernel
theorem dX4_pair_70 : decode cX4_pair 70 = .ok (.goto (-27), 3) := by decide +kernel
theorem dX4_pair_73 : decode cX4_pair 73 = .ok (.aload_n 0, 1) := by decide +kernel
theorem dX4_pair_74 : decode cX4_pair 74 = .ok (.invokevirtual 30, 3) := by decide +kernel
theorem dX4_pair_77 : decode cX4_pair 77 = .ok (.iinc 3 1, 3) := by decide +kernel
theorem dX4_pair_80 : decode cX4_pair 80 = .ok (.goto (-48), 3) := by decide +kernel
theorem dX4_pair_83 : decode cX4_pair 83 = .ok (.aload_n 0, 1) := by decide +kernel
theorem dX4_pair_84 : decode cX4_pair 84 = .ok (.ldc2_w 18, 3) := by decide +kernel
theorem dX4_pair_87 : decode cX4_pair 87 = .ok (.putfield 33, 3) := by decide +kernel
theorem dX4_pair_90 : decode cX4_pair 90 = .ok (.iconst 0, 1) := by decide +kernel
theorem dX4_pair_91 : decode cX4_pair 91 = .ok (.istore_n 3, 1) := by decide +kernel
theorem dX4_pair_92 : decode cX4_pair 92 = .ok (.iload_n 3, 1) := by decide +kernel
theorem dX4_pair_93 : decode cX4_pair 93 = .ok (.bipush 32, 2) := by decide +kernel
theorem dX4_pair_95 : decode cX4_pair 95 = .ok (.if_icmp .ge 31, 3) := by decide +kernel
theorem dX4_pair_98 : decode cX4_pair 98 = .ok (.aload_n 0, 1) := by decide +kernel
theorem dX4_pair_99 : decode cX4_pair 99 = .ok (.aload_n 0, 1) := by decide +kernel
theorem dX4_pair_100 : decode cX4_pair 100 = .ok (.getfield 33, 3) := by decide +kernel
theorem dX4_pair_103 : decode cX4_pair 103 = .ok (.aload_n 0, 1) := by decide +kernel
theorem dX4_pair_104 : decode cX4_pair 104 = .ok (.getfield 11, 3) := by decide +kernel
theorem dX4_pair_107 : decode cX4_pair 107 = .ok (.iload_n 3, 1) := by decide +kernel
theorem dX4_pair_108 : decode cX4_pair 108 = .ok (.laload, 1) := by decide +kernel
theorem dX4_pair_109 : decode cX4_pair 109 = .ok (.iload_n 3, 1) := by decide +kernel
theorem dX4_pair_110 : decode cX4_pair 110 = .ok (.invokestatic 37, 3) := by decide +kernel
theorem dX4_pair_113 : decode cX4_pair 113 = .ok (.ladd, 1) := by decide +kernel
theorem dX4_pair_114 : decode cX4_pair 114 = .ok (.invokestatic 41, 3) := by decide +kernel
theorem dX4_pair_117 : decode cX4_pair 117 = .ok (.putfield 33, 3) := by decide +kernel
theorem dX4_pair_120 : decode cX4_pair 120 = .ok (.iinc 3 1, 3) := by decide +kernel
theorem dX4_pair_123 : decode cX4_pair 123 = .ok (.goto (-31), 3) := by decide +kernel
theorem dX4_pair_126 : decode cX4_pair 126 = .ok (.return_, 1) := by decide +kernel
theorem dX4_peakOf_0 : decode cX4_peakOf 0 = .ok (.aload_n 0, 1) := by decide +kernel
theorem dX4_peakOf_1 : decode cX4_peakOf 1 = .ok (.getfield 33, 3) := by decide +kernel
theorem dX4_peakOf_4 : decode cX4_peakOf 4 = .ok (.iload_n 1, 1) := by decide +kernel
theorem dX4_peakOf_5 : decode cX4_peakOf 5 = .ok (.invokestatic 47, 3) := by decide +kernel
theorem dX4_peakOf_8 : decode cX4_peakOf 8 = .ok (.lshr, 1) := by decide +kernel
theorem dX4_peakOf_9 : decode cX4_peakOf 9 = .ok (.l2i, 1) := by decide +kernel
theorem dX4_peakOf_10 : decode cX4_peakOf 10 = .ok (.bipush 63, 2) := by decide +kernel
theorem dX4_peakOf_12 : decode cX4_peakOf 12 = .ok (.iand, 1) := by decide +kernel
theorem dX4_peakOf_13 : decode cX4_peakOf 13 = .ok (.istore_n 2, 1) := by decide +kernel
theorem dX4_peakOf_14 : decode cX4_peakOf 14 = .ok (.iload_n 2, 1) := by decide +kernel
theorem dX4_peakOf_15 : decode cX4_peakOf 15 = .ok (.bipush 63, 2) := by decide +kernel
theorem dX4_peakOf_17 : decode cX4_peakOf 17 = .ok (.if_icmp .ne 7, 3) := by decide +kernel
theorem dX4_peakOf_20 : decode cX4_peakOf 20 = .ok (.iconst (-1), 1) := by decide +kernel
theorem dX4_peakOf_21 : decode cX4_peakOf 21 = .ok (.goto 4, 3) := by decide +kernel
theorem dX4_peakOf_24 : decode cX4_peakOf 24 = .ok (.iload_n 2, 1) := by decide +kernel
theorem dX4_peakOf_25 : decode cX4_peakOf 25 = .ok (.ireturn, 1) := by decide +kernel
theorem dX4_digitOf_0 : decode cX4_digitOf 0 = .ok (.bipush 6, 2) := by decide +kernel
theorem dX4_digitOf_2 : decode cX4_digitOf 2 = .ok (.iconst 4, 1) := by decide +kernel
theorem dX4_digitOf_3 : decode cX4_digitOf 3 = .ok (.iload_n 0, 1) := by decide +kernel
theorem dX4_digitOf_4 : decode cX4_digitOf 4 = .ok (.isub, 1) := by decide +kernel
theorem dX4_digitOf_5 : decode cX4_digitOf 5 = .ok (.imul, 1) := by decide +kernel
theorem dX4_digitOf_6 : decode cX4_digitOf 6 = .ok (.ireturn, 1) := by decide +kernel
theorem dX4_weightOf_0 : decode cX4_weightOf 0 = .ok (.aload_n 2, 1) := by decide +kernel
theorem dX4_weightOf_1 : decode cX4_weightOf 1 = .ok (.getfield 51, 3) := by decide +kernel
theorem dX4_weightOf_4 : decode cX4_weightOf 4 = .ok (.iload_n 3, 1) := by decide +kernel
theorem dX4_weightOf_5 : decode cX4_weightOf 5 = .ok (.iaload, 1) := by decide +kernel
theorem dX4_weightOf_6 : decode cX4_weightOf 6 = .ok (.aload_n 0, 1) := by decide +kernel
theorem dX4_weightOf_7 : decode cX4_weightOf 7 = .ok (.getfield 55, 3) := by decide +kernel
theorem dX4_weightOf_10 : decode cX4_weightOf 10 = .ok (.isub, 1) := by decide +kernel
theorem dX4_weightOf_11 : decode cX4_weightOf 11 = .ok (.i2l, 1) := by decide +kernel
theorem dX4_weightOf_12 : decode cX4_weightOf 12 = .ok (.lstore 4, 2) := by decide +kernel
theorem dX4_weightOf_14 : decode cX4_weightOf 14 = .ok (.aload_n 2, 1) := by decide +kernel
theorem dX4_weightOf_15 : decode cX4_weightOf 15 = .ok (.getfield 60, 3) := by decide +kernel
theorem dX4_weightOf_18 : decode cX4_weightOf 18 = .ok (.iload_n 3, 1) := by decide +kernel
theorem dX4_weightOf_19 : decode cX4_weightOf 19 = .ok (.iaload, 1) := by decide +kernel
theorem dX4_weightOf_20 : decode cX4_weightOf 20 = .ok (.aload_n 0, 1) := by decide +kernel
theorem dX4_weightOf_21 : decode cX4_weightOf 21 = .ok (.getfield 63, 3) := by decide +kernel
theorem dX4_weightOf_24 : decode cX4_weightOf 24 = .ok (.isub, 1) := by decide +kernel
theorem dX4_weightOf_25 : decode cX4_weightOf 25 = .ok (.i2l, 1) := by decide +kernel
theorem dX4_weightOf_26 : decode cX4_weightOf 26 = .ok (.lstore 6, 2) := by decide +kernel
theorem dX4_weightOf_28 : decode cX4_weightOf 28 = .ok (.lload 4, 2) := by decide +kernel
theorem dX4_weightOf_30 : decode cX4_weightOf 30 = .ok (.lload 4, 2) := by decide +kernel
theorem dX4_weightOf_32 : decode cX4_weightOf 32 = .ok (.lmul, 1) := by decide +kernel
theorem dX4_weightOf_33 : decode cX4_weightOf 33 = .ok (.lload 6, 2) := by decide +kernel
theorem dX4_weightOf_35 : decode cX4_weightOf 35 = .ok (.lload 6, 2) := by decide +kernel
theorem dX4_weightOf_37 : decode cX4_weightOf 37 = .ok (.lmul, 1) := by decide +kernel
theorem dX4_weightOf_38 : decode cX4_weightOf 38 = .ok (.ladd, 1) := by decide +kernel
theorem dX4_weightOf_39 : decode cX4_weightOf 39 = .ok (.lstore 8, 2) := by decide +kernel
theorem dX4_weightOf_41 : decode cX4_weightOf 41 = .ok (.aload_n 0, 1) := by decide +kernel
theorem dX4_weightOf_42 : decode cX4_weightOf 42 = .ok (.getfield 66, 3) := by decide +kernel
theorem dX4_weightOf_45 : decode cX4_weightOf 45 = .ok (.ifCond .eq 12, 3) := by decide +kernel
theorem dX4_weightOf_48 : decode cX4_weightOf 48 = .ok (.lload 8, 2) := by decide +kernel
theorem dX4_weightOf_50 : decode cX4_weightOf 50 = .ok (.ldc2_w 70, 3) := by decide +kernel
theorem dX4_weightOf_53 : decode cX4_weightOf 53 = .ok (.lcmp, 1) := by decide +kernel
theorem dX4_weightOf_54 : decode cX4_weightOf 54 = .ok (.ifCond .le 7, 3) := by decide +kernel
theorem dX4_weightOf_57 : decode cX4_weightOf 57 = .ok (.ldc2_w 18, 3) := by decide +kernel
theorem dX4_weightOf_60 : decode cX4_weightOf 60 = .ok (.lreturn, 1) := by decide +kernel
theorem dX4_weightOf_61 : decode cX4_weightOf 61 = .ok (.lload 8, 2) := by decide +kernel
theorem dX4_weightOf_63 : decode cX4_weightOf 63 = .ok (.bipush 30, 2) := by decide +kernel
theorem dX4_weightOf_65 : decode cX4_weightOf 65 = .ok (.lshl, 1) := by decide +kernel
theorem dX4_weightOf_66 : decode cX4_weightOf 66 = .ok (.iload_n 3, 1) := by decide +kernel
theorem dX4_weightOf_67 : decode cX4_weightOf 67 = .ok (.i2l, 1) := by decide +kernel
theorem dX4_weightOf_68 : decode cX4_weightOf 68 = .ok (.iload_n 1, 1) := by decide +kernel
theorem dX4_weightOf_69 : decode cX4_weightOf 69 = .ok (.invokestatic 47, 3) := by decide +kernel
theorem dX4_weightOf_72 : decode cX4_weightOf 72 = .ok (.lshl, 1) := by decide +kernel
theorem dX4_weightOf_73 : decode cX4_weightOf 73 = .ok (.ladd, 1) := by decide +kernel
theorem dX4_weightOf_74 : decode cX4_weightOf 74 = .ok (.lreturn, 1) := by decide +kernel
theorem dX4_offerPeak_0 : decode cX4_offerPeak 0 = .ok (.bipush 31, 2) := by decide +kernel
theorem dX4_offerPeak_2 : decode cX4_offerPeak 2 = .ok (.istore_n 1, 1) := by decide +kernel
theorem dX4_offerPeak_3 : decode cX4_offerPeak 3 = .ok (.iload_n 1, 1) := by decide +kernel
theorem dX4_offerPeak_4 : decode cX4_offerPeak 4 = .ok (.ifCond .le 89, 3) := by decide +kernel
theorem dX4_offerPeak_7 : decode cX4_offerPeak 7 = .ok (.iconst 0, 1) := by decide +kernel
theorem dX4_offerPeak_8 : decode cX4_offerPeak 8 = .ok (.istore_n 2, 1) := by decide +kernel
theorem dX4_offerPeak_9 : decode cX4_offerPeak 9 = .ok (.iload_n 2, 1) := by decide +kernel
theorem dX4_offerPeak_10 : decode cX4_offerPeak 10 = .ok (.iconst 5, 1) := by decide +kernel
theorem dX4_offerPeak_11 : decode cX4_offerPeak 11 = .ok (.if_icmp .ge 76, 3) := by decide +kernel
theorem dX4_offerPeak_14 : decode cX4_offerPeak 14 = .ok (.iload_n 1, 1) := by decide +kernel
theorem dX4_offerPeak_15 : decode cX4_offerPeak 15 = .ok (.iconst 1, 1) := by decide +kernel
theorem dX4_offerPeak_16 : decode cX4_offerPeak 16 = .ok (.iload_n 2, 1) := by decide +kernel
theorem dX4_offerPeak_17 : decode cX4_offerPeak 17 = .ok (.ishl, 1) := by decide +kernel
theorem dX4_offerPeak_18 : decode cX4_offerPeak 18 = .ok (.iconst (-1), 1) := by decide +kernel
theorem dX4_offerPeak_19 : decode cX4_offerPeak 19 = .ok (.ixor, 1) := by decide +kernel
theorem dX4_offerPeak_20 : decode cX4_offerPeak 20 = .ok (.iand, 1) := by decide +kernel
theorem dX4_offerPeak_21 : decode cX4_offerPeak 21 = .ok (.istore_n 3, 1) := by decide +kernel
theorem dX4_offerPeak_22 : decode cX4_offerPeak 22 = .ok (.iload_n 3, 1) := by decide +kernel
theorem dX4_offerPeak_23 : decode cX4_offerPeak 23 = .ok (.iload_n 1, 1) := by decide +kernel
theorem dX4_offerPeak_24 : decode cX4_offerPeak 24 = .ok (.if_icmp .eq 57, 3) := by decide +kernel
theorem dX4_offerPeak_27 : decode cX4_offerPeak 27 = .ok (.aload_n 0, 1) := by decide +kernel
theorem dX4_offerPeak_28 : decode cX4_offerPeak 28 = .ok (.getfield 15, 3) := by decide +kernel
theorem dX4_offerPeak_31 : decode cX4_offerPeak 31 = .ok (.iload_n 2, 1) := by decide +kernel
theorem dX4_offerPeak_32 : decode cX4_offerPeak 32 = .ok (.laload, 1) := by decide +kernel
theorem dX4_offerPeak_33 : decode cX4_offerPeak 33 = .ok (.ldc2_w 18, 3) := by decide +kernel
theorem dX4_offerPeak_36 : decode cX4_offerPeak 36 = .ok (.lcmp, 1) := by decide +kernel
theorem dX4_offerPeak_37 : decode cX4_offerPeak 37 = .ok (.ifCond .ge 44, 3) := by decide +kernel
theorem dX4_offerPeak_40 : decode cX4_offerPeak 40 = .ok (.aload_n 0, 1) := by decide +kernel
theorem dX4_offerPeak_41 : decode cX4_offerPeak 41 = .ok (.getfield 11, 3) := by decide +kernel
theorem dX4_offerPeak_44 : decode cX4_offerPeak 44 = .ok (.iload_n 3, 1) := by decide +kernel
theorem dX4_offerPeak_45 : decode cX4_offerPeak 45 = .ok (.laload, 1) := by decide +kernel
theorem dX4_offerPeak_46 : decode cX4_offerPeak 46 = .ok (.ldc2_w 18, 3) := by decide +kernel
theorem dX4_offerPeak_49 : decode cX4_offerPeak 49 = .ok (.lcmp, 1) := by decide +kernel
theorem dX4_offerPeak_50 : decode cX4_offerPeak 50 = .ok (.ifCond .ge 31, 3) := by decide +kernel
theorem dX4_offerPeak_53 : decode cX4_offerPeak 53 = .ok (.aload_n 0, 1) := by decide +kernel
theorem dX4_offerPeak_54 : decode cX4_offerPeak 54 = .ok (.getfield 11, 3) := by decide +kernel
theorem dX4_offerPeak_57 : decode cX4_offerPeak 57 = .ok (.iload_n 1, 1) := by decide +kernel
theorem dX4_offerPeak_58 : decode cX4_offerPeak 58 = .ok (.aload_n 0, 1) := by decide +kernel
theorem dX4_offerPeak_59 : decode cX4_offerPeak 59 = .ok (.getfield 11, 3) := by decide +kernel
theorem dX4_offerPeak_62 : decode cX4_offerPeak 62 = .ok (.iload_n 1, 1) := by decide +kernel
theorem dX4_offerPeak_63 : decode cX4_offerPeak 63 = .ok (.laload, 1) := by decide +kernel
theorem dX4_offerPeak_64 : decode cX4_offerPeak 64 = .ok (.aload_n 0, 1) := by decide +kernel
theorem dX4_offerPeak_65 : decode cX4_offerPeak 65 = .ok (.getfield 11, 3) := by decide +kernel
theorem dX4_offerPeak_68 : decode cX4_offerPeak 68 = .ok (.iload_n 3, 1) := by decide +kernel
theorem dX4_offerPeak_69 : decode cX4_offerPeak 69 = .ok (.laload, 1) := by decide +kernel
theorem dX4_offerPeak_70 : decode cX4_offerPeak 70 = .ok (.aload_n 0, 1) := by decide +kernel
theorem dX4_offerPeak_71 : decode cX4_offerPeak 71 = .ok (.getfield 15, 3) := by decide +kernel
theorem dX4_offerPeak_74 : decode cX4_offerPeak 74 = .ok (.iload_n 2, 1) := by decide +kernel
theorem dX4_offerPeak_75 : decode cX4_offerPeak 75 = .ok (.laload, 1) := by decide +kernel
theorem dX4_offerPeak_76 : decode cX4_offerPeak 76 = .ok (.ladd, 1) := by decide +kernel
theorem dX4_offerPeak_77 : decode cX4_offerPeak 77 = .ok (.invokestatic 41, 3) := by decide +kernel
theorem dX4_offerPeak_80 : decode cX4_offerPeak 80 = .ok (.lastore, 1) := by decide +kernel
theorem dX4_offerPeak_81 : decode cX4_offerPeak 81 = .ok (.iinc 2 1, 3) := by decide +kernel
theorem dX4_offerPeak_84 : decode cX4_offerPeak 84 = .ok (.goto (-75), 3) := by decide +kernel
theorem dX4_offerPeak_87 : decode cX4_offerPeak 87 = .ok (.iinc 1 (-1), 3) := by decide +kernel
theorem dX4_offerPeak_90 : decode cX4_offerPeak 90 = .ok (.goto (-87), 3) := by decide +kernel
theorem dX4_offerPeak_93 : decode cX4_offerPeak 93 = .ok (.return_, 1) := by decide +kernel
theorem dX4_weightOfRest_0 : decode cX4_weightOfRest 0 = .ok (.lconst 0, 1) := by decide +kernel
theorem dX4_weightOfRest_1 : decode cX4_weightOfRest 1 = .ok (.lstore_n 1, 1) := by decide +kernel
theorem dX4_weightOfRest_2 : decode cX4_weightOfRest 2 = .ok (.iconst 0, 1) := by decide +kernel
theorem dX4_weightOfRest_3 : decode cX4_weightOfRest 3 = .ok (.istore_n 3, 1) := by decide +kernel
theorem dX4_weightOfRest_4 : decode cX4_weightOfRest 4 = .ok (.iload_n 3, 1) := by decide +kernel
theorem dX4_weightOfRest_5 : decode cX4_weightOfRest 5 = .ok (.iconst 5, 1) := by decide +kernel
theorem dX4_weightOfRest_6 : decode cX4_weightOfRest 6 = .ok (.if_icmp .ge 32, 3) := by decide +kernel
theorem dX4_weightOfRest_9 : decode cX4_weightOfRest 9 = .ok (.iload_n 0, 1) := by decide +kernel
theorem dX4_weightOfRest_10 : decode cX4_weightOfRest 10 = .ok (.iconst 1, 1) := by decide +kernel
theorem dX4_weightOfRest_11 : decode cX4_weightOfRest 11 = .ok (.iload_n 3, 1) := by decide +kernel
theorem dX4_weightOfRest_12 : decode cX4_weightOfRest 12 = .ok (.ishl, 1) := by decide +kernel
theorem dX4_weightOfRest_13 : decode cX4_weightOfRest 13 = .ok (.iand, 1) := by decide +kernel
theorem dX4_weightOfRest_14 : decode cX4_weightOfRest 14 = .ok (.ifCond .ne 18, 3) := by decide +kernel
theorem dX4_weightOfRest_17 : decode cX4_weightOfRest 17 = .ok (.lload_n 1, 1) := by decide +kernel
theorem dX4_weightOfRest_18 : decode cX4_weightOfRest 18 = .ok (.ldc2_w 72, 3) := by decide +kernel
theorem dX4_weightOfRest_21 : decode cX4_weightOfRest 21 = .ok (.ldc2_w 74, 3) := by decide +kernel
theorem dX4_weightOfRest_24 : decode cX4_weightOfRest 24 = .ok (.iload_n 3, 1) := by decide +kernel
theorem dX4_weightOfRest_25 : decode cX4_weightOfRest 25 = .ok (.invokestatic 47, 3) := by decide +kernel
theorem dX4_weightOfRest_28 : decode cX4_weightOfRest 28 = .ok (.lshl, 1) := by decide +kernel
theorem dX4_weightOfRest_29 : decode cX4_weightOfRest 29 = .ok (.ladd, 1) := by decide +kernel
theorem dX4_weightOfRest_30 : decode cX4_weightOfRest 30 = .ok (.ladd, 1) := by decide +kernel
theorem dX4_weightOfRest_31 : decode cX4_weightOfRest 31 = .ok (.lstore_n 1, 1) := by decide +kernel
theorem dX4_weightOfRest_32 : decode cX4_weightOfRest 32 = .ok (.iinc 3 1, 3) := by decide +kernel
theorem dX4_weightOfRest_35 : decode cX4_weightOfRest 35 = .ok (.goto (-31), 3) := by decide +kernel
theorem dX4_weightOfRest_38 : decode cX4_weightOfRest 38 = .ok (.lload_n 1, 1) := by decide +kernel
theorem dX4_weightOfRest_39 : decode cX4_weightOfRest 39 = .ok (.lreturn, 1) := by decide +kernel
theorem dX7_init_0 : decode cX7_init 0 = .ok (.aload_n 0, 1) := by decide +kernel
theorem dX7_init_1 : decode cX7_init 1 = .ok (.invokespecial 1, 3) := by decide +kernel
theorem dX7_init_4 : decode cX7_init 4 = .ok (.aload_n 0, 1) := by decide +kernel
theorem dX7_init_5 : decode cX7_init 5 = .ok (.new 7, 3) := by decide +kernel
theorem dX7_init_8 : decode cX7_init 8 = .ok (.dup, 1) := by decide +kernel
theorem dX7_init_9 : decode cX7_init 9 = .ok (.invokespecial 9, 3) := by decide +kernel
theorem dX7_init_12 : decode cX7_init 12 = .ok (.putfield 10, 3) := by decide +kernel
theorem dX7_init_15 : decode cX7_init 15 = .ok (.aload_n 0, 1) := by decide +kernel
theorem dX7_init_16 : decode cX7_init 16 = .ok (.new 16, 3) := by decide +kernel
theorem dX7_init_19 : decode cX7_init 19 = .ok (.dup, 1) := by decide +kernel
theorem dX7_init_20 : decode cX7_init 20 = .ok (.invokespecial 18, 3) := by decide +kernel
theorem dX7_init_23 : decode cX7_init 23 = .ok (.putfield 19, 3) := by decide +kernel
theorem dX7_init_26 : decode cX7_init 26 = .ok (.aload_n 0, 1) := by decide +kernel
theorem dX7_init_27 : decode cX7_init 27 = .ok (.new 7, 3) := by decide +kernel
theorem dX7_init_30 : decode cX7_init 30 = .ok (.dup, 1) := by decide +kernel
theorem dX7_init_31 : decode cX7_init 31 = .ok (.invokespecial 9, 3) := by decide +kernel
theorem dX7_init_34 : decode cX7_init 34 = .ok (.putfield 23, 3) := by decide +kernel
theorem dX7_init_37 : decode cX7_init 37 = .ok (.aload_n 0, 1) := by decide +kernel
theorem dX7_init_38 : decode cX7_init 38 = .ok (.new 16, 3) := by decide +kernel
theorem dX7_init_41 : decode cX7_init 41 = .ok (.dup, 1) := by decide +kernel
theorem dX7_init_42 : decode cX7_init 42 = .ok (.invokespecial 18, 3) := by decide +kernel
theorem dX7_init_45 : decode cX7_init 45 = .ok (.putfield 26, 3) := by decide +kernel
theorem dX7_init_48 : decode cX7_init 48 = .ok (.aload_n 0, 1) := by decide +kernel
theorem dX7_init_49 : decode cX7_init 49 = .ok (.new 29, 3) := by decide +kernel
theorem dX7_init_52 : decode cX7_init 52 = .ok (.dup, 1) := by decide +kernel
theorem dX7_init_53 : decode cX7_init 53 = .ok (.invokespecial 31, 3) := by decide +kernel
theorem dX7_init_56 : decode cX7_init 56 = .ok (.putfield 32, 3) := by decide +kernel
theorem dX7_init_59 : decode cX7_init 59 = .ok (.aload_n 0, 1) := by decide +kernel
theorem dX7_init_60 : decode cX7_init 60 = .ok (.new 36, 3) := by decide +kernel
theorem dX7_init_63 : decode cX7_init 63 = .ok (.dup, 1) := by decide +kernel
theorem dX7_init_64 : decode cX7_init 64 = .ok (.invokespecial 38, 3) := by decide +kernel
theorem dX7_init_67 : decode cX7_init 67 = .ok (.putfield 39, 3) := by decide +kernel
theorem dX7_init_70 : decode cX7_init 70 = .ok (.aload_n 0, 1) := by decide +kernel
theorem dX7_init_71 : decode cX7_init 71 = .ok (.new 43, 3) := by decide +kernel
theorem dX7_init_74 : decode cX7_init 74 = .ok (.dup, 1) := by decide +kernel
theorem dX7_init_75 : decode cX7_init 75 = .ok (.aload_n 0, 1) := by decide +kernel
theorem dX7_init_76 : decode cX7_init 76 = .ok (.getfield 39, 3) := by decide +kernel
theorem dX7_init_79 : decode cX7_init 79 = .ok (.invokespecial 45, 3) := by decide +kernel
theorem dX7_init_82 : decode cX7_init 82 = .ok (.putfield 48, 3) := by decide +kernel
theorem dX7_init_85 : decode cX7_init 85 = .ok (.aload_n 0, 1) := by decide +kernel
theorem dX7_init_86 : decode cX7_init 86 = .ok (.iconst 4, 1) := by decide +kernel
theorem dX7_init_87 : decode cX7_init 87 = .ok (.putfield 52, 3) := by decide +kernel
theorem dX7_init_90 : decode cX7_init 90 = .ok (.aload_n 0, 1) := by decide +kernel
theorem dX7_init_91 : decode cX7_init 91 = .ok (.bipush 12, 2) := by decide +kernel
theorem dX7_init_93 : decode cX7_init 93 = .ok (.putfield 56, 3) := by decide +kernel
theorem dX7_init_96 : decode cX7_init 96 = .ok (.return_, 1) := by decide +kernel
theorem dX7_area_0 : decode cX7_area 0 = .ok (.iload_n 1, 1) := by decide +kernel
theorem dX7_area_1 : decode cX7_area 1 = .ok (.ifCond .lt 31, 3) := by decide +kernel
theorem dX7_area_4 : decode cX7_area 4 = .ok (.iload_n 2, 1) := by decide +kernel
theorem dX7_area_5 : decode cX7_area 5 = .ok (.iload_n 1, 1) := by decide +kernel
theorem dX7_area_6 : decode cX7_area 6 = .ok (.if_icmp .lt 26, 3) := by decide +kernel
theorem dX7_area_9 : decode cX7_area 9 = .ok (.iload_n 2, 1) := by decide +kernel
theorem dX7_area_10 : decode cX7_area 10 = .ok (.bipush 8, 2) := by decide +kernel
theorem dX7_area_12 : decode cX7_area 12 = .ok (.if_icmp .ge 20, 3) := by decide +kernel
theorem dX7_area_15 : decode cX7_area 15 = .ok (.iload_n 3, 1) := by decide +kernel
theorem dX7_area_16 : decode cX7_area 16 = .ok (.ifCond .lt 16, 3) := by decide +kernel
theorem dX7_area_19 : decode cX7_area 19 = .ok (.iload 4, 2) := by decide +kernel
theorem dX7_area_21 : decode cX7_area 21 = .ok (.iload_n 3, 1) := by decide +kernel
theorem dX7_area_22 : decode cX7_area 22 = .ok (.if_icmp .lt 10, 3) := by decide +kernel
theorem dX7_area_25 : decode cX7_area 25 = .ok (.iload 4, 2) := by decide +kernel
theorem dX7_area_27 : decode cX7_area 27 = .ok (.bipush 6, 2) := by decide +kernel
theorem dX7_area_29 : decode cX7_area 29 = .ok (.if_icmp .lt 13, 3) := by decide +kernel
theorem dX7_area_32 : decode cX7_area 32 = .ok (.new 59, 3) := by decide +kernel
theorem dX7_area_35 : decode cX7_area 35 = .ok (.dup, 1) := by decide +kernel
theorem dX7_area_36 : decode cX7_area 36 = .ok (.ldc 61, 2) := by decide +kernel
theorem dX7_area_38 : decode cX7_area 38 = .ok (.invokespecial 63, 3) := by decide +kernel
theorem dX7_area_41 : decode cX7_area 41 = .ok (.athrow, 1) := by decide +kernel
theorem dX7_area_42 : decode cX7_area 42 = .ok (.aload_n 0, 1) := by decide +kernel
theorem dX7_area_43 : decode cX7_area 43 = .ok (.getfield 39, 3) := by decide +kernel
theorem dX7_area_46 : decode cX7_area 46 = .ok (.getfield 66, 3) := by decide +kernel
theorem dX7_area_49 : decode cX7_area 49 = .ok (.iconst 4, 1) := by decide +kernel
theorem dX7_area_50 : decode cX7_area 50 = .ok (.if_icmp .lt 13, 3) := by decide +kernel
theorem dX7_area_53 : decode cX7_area 53 = .ok (.new 69, 3) := by decide +kernel
theorem dX7_area_56 : decode cX7_area 56 = .ok (.dup, 1) := by decide +kernel
theorem dX7_area_57 : decode cX7_area 57 = .ok (.ldc 71, 2) := by decide +kernel
theorem dX7_area_59 : decode cX7_area 59 = .ok (.invokespecial 73, 3) := by decide +kernel
theorem dX7_area_62 : decode cX7_area 62 = .ok (.athrow, 1) := by decide +kernel
theorem dX7_area_63 : decode cX7_area 63 = .ok (.aload_n 0, 1) := by decide +kernel
theorem dX7_area_64 : decode cX7_area 64 = .ok (.getfield 39, 3) := by decide +kernel
theorem dX7_area_67 : decode cX7_area 67 = .ok (.iload_n 1, 1) := by decide +kernel
theorem dX7_area_68 : decode cX7_area 68 = .ok (.iload_n 2, 1) := by decide +kernel
theorem dX7_area_69 : decode cX7_area 69 = .ok (.iload_n 3, 1) := by decide +kernel
theorem dX7_area_70 : decode cX7_area 70 = .ok (.iload 4, 2) := by decide +kernel
theorem dX7_area_72 : decode cX7_area 72 = .ok (.invokevirtual 74, 3) := by decide +kernel
theorem dX7_area_75 : decode cX7_area 75 = .ok (.ireturn, 1) := by decide +kernel
theorem dX7_dial_0 : decode cX7_dial 0 = .ok (.iload_n 1, 1) := by decide +kernel
theorem dX7_dial_1 : decode cX7_dial 1 = .ok (.iconst 1, 1) := by decide +kernel
theorem dX7_dial_2 : decode cX7_dial 2 = .ok (.if_icmp .lt 8, 3) := by decide +kernel
theorem dX7_dial_5 : decode cX7_dial 5 = .ok (.iload_n 1, 1) := by decide +kernel
theorem dX7_dial_6 : decode cX7_dial 6 = .ok (.iconst 4, 1) := by decide +kernel
theorem dX7_dial_7 : decode cX7_dial 7 = .ok (.if_icmp .le 13, 3) := by decide +kernel
theorem dX7_dial_10 : decode cX7_dial 10 = .ok (.new 59, 3) := by decide +kernel
theorem dX7_dial_13 : decode cX7_dial 13 = .ok (.dup, 1) := by decide +kernel
theorem dX7_dial_14 : decode cX7_dial 14 = .ok (.ldc 78, 2) := by decide +kernel
theorem dX7_dial_16 : decode cX7_dial 16 = .ok (.invokespecial 63, 3) := by decide +kernel
theorem dX7_dial_19 : decode cX7_dial 19 = .ok (.athrow, 1) := by decide +kernel
theorem dX7_dial_20 : decode cX7_dial 20 = .ok (.aload_n 0, 1) := by decide +kernel
theorem dX7_dial_21 : decode cX7_dial 21 = .ok (.getfield 52, 3) := by decide +kernel
theorem dX7_dial_24 : decode cX7_dial 24 = .ok (.istore_n 2, 1) := by decide +kernel
theorem dX7_dial_25 : decode cX7_dial 25 = .ok (.aload_n 0, 1) := by decide +kernel
theorem dX7_dial_26 : decode cX7_dial 26 = .ok (.iload_n 1, 1) := by decide +kernel
theorem dX7_dial_27 : decode cX7_dial 27 = .ok (.putfield 52, 3) := by decide +kernel
theorem dX7_dial_30 : decode cX7_dial 30 = .ok (.iload_n 2, 1) := by decide +kernel
theorem dX7_dial_31 : decode cX7_dial 31 = .ok (.ireturn, 1) := by decide +kernel
theorem dX7_limit_0 : decode cX7_limit 0 = .ok (.iload_n 1, 1) := by decide +kernel
theorem dX7_limit_1 : decode cX7_limit 1 = .ok (.iconst 1, 1) := by decide +kernel
theorem dX7_limit_2 : decode cX7_limit 2 = .ok (.if_icmp .lt 9, 3) := by decide +kernel
theorem dX7_limit_5 : decode cX7_limit 5 = .ok (.iload_n 1, 1) := by decide +kernel
theorem dX7_limit_6 : decode cX7_limit 6 = .ok (.bipush 30, 2) := by decide +kernel
theorem dX7_limit_8 : decode cX7_limit 8 = .ok (.if_icmp .le 13, 3) := by decide +kernel
theorem dX7_limit_11 : decode cX7_limit 11 = .ok (.new 59, 3) := by decide +kernel
theorem dX7_limit_14 : decode cX7_limit 14 = .ok (.dup, 1) := by decide +kernel
theorem dX7_limit_15 : decode cX7_limit 15 = .ok (.ldc 80, 2) := by decide +kernel
theorem dX7_limit_17 : decode cX7_limit 17 = .ok (.invokespecial 63, 3) := by decide +kernel
theorem dX7_limit_20 : decode cX7_limit 20 = .ok (.athrow, 1) := by decide +kernel
theorem dX7_limit_21 : decode cX7_limit 21 = .ok (.aload_n 0, 1) := by decide +kernel
theorem dX7_limit_22 : decode cX7_limit 22 = .ok (.getfield 56, 3) := by decide +kernel
theorem dX7_limit_25 : decode cX7_limit 25 = .ok (.istore_n 2, 1) := by decide +kernel
theorem dX7_limit_26 : decode cX7_limit 26 = .ok (.aload_n 0, 1) := by decide +kernel
theorem dX7_limit_27 : decode cX7_limit 27 = .ok (.iload_n 1, 1) := by decide +kernel
theorem dX7_limit_28 : decode cX7_limit 28 = .ok (.putfield 56, 3) := by decide +kernel
theorem dX7_limit_31 : decode cX7_limit 31 = .ok (.iload_n 2, 1) := by decide +kernel
theorem dX7_limit_32 : decode cX7_limit 32 = .ok (.ireturn, 1) := by decide +kernel
theorem dX7_heat_0 : decode cX7_heat 0 = .ok (.iload_n 1, 1) := by decide +kernel
theorem dX7_heat_1 : decode cX7_heat 1 = .ok (.bipush (-30), 2) := by decide +kernel
theorem dX7_heat_3 : decode cX7_heat 3 = .ok (.if_icmp .lt 9, 3) := by decide +kernel
theorem dX7_heat_6 : decode cX7_heat 6 = .ok (.iload_n 1, 1) := by decide +kernel
theorem dX7_heat_7 : decode cX7_heat 7 = .ok (.bipush 30, 2) := by decide +kernel
theorem dX7_heat_9 : decode cX7_heat 9 = .ok (.if_icmp .le 13, 3) := by decide +kernel
theorem dX7_heat_12 : decode cX7_heat 12 = .ok (.new 59, 3) := by decide +kernel
theorem dX7_heat_15 : decode cX7_heat 15 = .ok (.dup, 1) := by decide +kernel
theorem dX7_heat_16 : decode cX7_heat 16 = .ok (.ldc 82, 2) := by decide +kernel
theorem dX7_heat_18 : decode cX7_heat 18 = .ok (.invokespecial 63, 3) := by decide +kernel
theorem dX7_heat_21 : decode cX7_heat 21 = .ok (.athrow, 1) := by decide +kernel
theorem dX7_heat_22 : decode cX7_heat 22 = .ok (.aload_n 0, 1) := by decide +kernel
theorem dX7_heat_23 : decode cX7_heat 23 = .ok (.getfield 10, 3) := by decide +kernel
theorem dX7_heat_26 : decode cX7_heat 26 = .ok (.getfield 84, 3) := by decide +kernel
theorem dX7_heat_29 : decode cX7_heat 29 = .ok (.istore_n 2, 1) := by decide +kernel
theorem dX7_heat_30 : decode cX7_heat 30 = .ok (.aload_n 0, 1) := by decide +kernel
theorem dX7_heat_31 : decode cX7_heat 31 = .ok (.getfield 10, 3) := by decide +kernel
theorem dX7_heat_34 : decode cX7_heat 34 = .ok (.iload_n 1, 1) := by decide +kernel
theorem dX7_heat_35 : decode cX7_heat 35 = .ok (.putfield 84, 3) := by decide +kernel
theorem dX7_heat_38 : decode cX7_heat 38 = .ok (.aload_n 0, 1) := by decide +kernel
theorem dX7_heat_39 : decode cX7_heat 39 = .ok (.getfield 19, 3) := by decide +kernel
theorem dX7_heat_42 : decode cX7_heat 42 = .ok (.aload_n 0, 1) := by decide +kernel
theorem dX7_heat_43 : decode cX7_heat 43 = .ok (.getfield 10, 3) := by decide +kernel
theorem dX7_heat_46 : decode cX7_heat 46 = .ok (.invokevirtual 87, 3) := by decide +kernel
theorem dX7_heat_49 : decode cX7_heat 49 = .ok (.iload_n 2, 1) := by decide +kernel
theorem dX7_heat_50 : decode cX7_heat 50 = .ok (.ireturn, 1) := by decide +kernel
theorem dX7_press_0 : decode cX7_press 0 = .ok (.iload_n 1, 1) := by decide +kernel
theorem dX7_press_1 : decode cX7_press 1 = .ok (.iload_n 2, 1) := by decide +kernel
theorem dX7_press_2 : decode cX7_press 2 = .ok (.invokestatic 91, 3) := by decide +kernel
theorem dX7_press_5 : decode cX7_press 5 = .ok (.iload_n 3, 1) := by decide +kernel
theorem dX7_press_6 : decode cX7_press 6 = .ok (.invokestatic 95, 3) := by decide +kernel
theorem dX7_press_9 : decode cX7_press 9 = .ok (.aload_n 0, 1) := by decide +kernel
theorem dX7_press_10 : decode cX7_press 10 = .ok (.getfield 10, 3) := by decide +kernel
theorem dX7_press_13 : decode cX7_press 13 = .ok (.iload_n 1, 1) := by decide +kernel
theorem dX7_press_14 : decode cX7_press 14 = .ok (.iload_n 2, 1) := by decide +kernel
theorem dX7_press_15 : decode cX7_press 15 = .ok (.iload_n 3, 1) := by decide +kernel
theorem dX7_press_16 : decode cX7_press 16 = .ok (.invokevirtual 99, 3) := by decide +kernel
theorem dX7_press_19 : decode cX7_press 19 = .ok (.aload_n 0, 1) := by decide +kernel
theorem dX7_press_20 : decode cX7_press 20 = .ok (.getfield 19, 3) := by decide +kernel
theorem dX7_press_23 : decode cX7_press 23 = .ok (.aload_n 0, 1) := by decide +kernel
theorem dX7_press_24 : decode cX7_press 24 = .ok (.getfield 10, 3) := by decide +kernel
theorem dX7_press_27 : decode cX7_press 27 = .ok (.invokevirtual 87, 3) := by decide +kernel
theorem dX7_press_30 : decode cX7_press 30 = .ok (.aload_n 0, 1) := by decide +kernel
theorem dX7_press_31 : decode cX7_press 31 = .ok (.getfield 19, 3) := by decide +kernel
theorem dX7_press_34 : decode cX7_press 34 = .ok (.getfield 103, 3) := by decide +kernel
theorem dX7_press_37 : decode cX7_press 37 = .ok (.iload_n 2, 1) := by decide +kernel
theorem dX7_press_38 : decode cX7_press 38 = .ok (.bipush 8, 2) := by decide +kernel
theorem dX7_press_40 : decode cX7_press 40 = .ok (.imul, 1) := by decide +kernel
theorem dX7_press_41 : decode cX7_press 41 = .ok (.iload_n 1, 1) := by decide +kernel
theorem dX7_press_42 : decode cX7_press 42 = .ok (.iadd, 1) := by decide +kernel
theorem dX7_press_43 : decode cX7_press 43 = .ok (.iaload, 1) := by decide +kernel
theorem dX7_press_44 : decode cX7_press 44 = .ok (.ireturn, 1) := by decide +kernel
theorem dX7_noise_0 : decode cX7_noise 0 = .ok (.iload_n 1, 1) := by decide +kernel
theorem dX7_noise_1 : decode cX7_noise 1 = .ok (.invokestatic 107, 3) := by decide +kernel
theorem dX7_noise_4 : decode cX7_noise 4 = .ok (.iload_n 2, 1) := by decide +kernel
theorem dX7_noise_5 : decode cX7_noise 5 = .ok (.bipush (-40), 2) := by decide +kernel
theorem dX7_noise_7 : decode cX7_noise 7 = .ok (.if_icmp .lt 9, 3) := by decide +kernel
theorem dX7_noise_10 : decode cX7_noise 10 = .ok (.iload_n 2, 1) := by decide +kernel
theorem dX7_noise_11 : decode cX7_noise 11 = .ok (.bipush 40, 2) := by decide +kernel
theorem dX7_noise_13 : decode cX7_noise 13 = .ok (.if_icmp .le 13, 3) := by decide +kernel
theorem dX7_noise_16 : decode cX7_noise 16 = .ok (.new 59, 3) := by decide +kernel
theorem dX7_noise_19 : decode cX7_noise 19 = .ok (.dup, 1) := by decide +kernel
theorem dX7_noise_20 : decode cX7_noise 20 = .ok (.ldc 110, 2) := by decide +kernel
theorem dX7_noise_22 : decode cX7_noise 22 = .ok (.invokespecial 63, 3) := by decide +kernel
theorem dX7_noise_25 : decode cX7_noise 25 = .ok (.athrow, 1) := by decide +kernel
theorem dX7_noise_26 : decode cX7_noise 26 = .ok (.aload_n 0, 1) := by decide +kernel
theorem dX7_noise_27 : decode cX7_noise 27 = .ok (.getfield 10, 3) := by decide +kernel
theorem dX7_noise_30 : decode cX7_noise 30 = .ok (.iload_n 1, 1) := by decide +kernel
theorem dX7_noise_31 : decode cX7_noise 31 = .ok (.iload_n 2, 1) := by decide +kernel
theorem dX7_noise_32 : decode cX7_noise 32 = .ok (.invokevirtual 112, 3) := by decide +kernel
theorem dX7_noise_35 : decode cX7_noise 35 = .ok (.aload_n 0, 1) := by decide +kernel
theorem dX7_noise_36 : decode cX7_noise 36 = .ok (.getfield 19, 3) := by decide +kernel
theorem dX7_noise_39 : decode cX7_noise 39 = .ok (.aload_n 0, 1) := by decide +kernel
theorem dX7_noise_40 : decode cX7_noise 40 = .ok (.getfield 10, 3) := by decide +kernel
theorem dX7_noise_43 : decode cX7_noise 43 = .ok (.invokevirtual 87, 3) := by decide +kernel
theorem dX7_noise_46 : decode cX7_noise 46 = .ok (.aload_n 0, 1) := by decide +kernel
theorem dX7_noise_47 : decode cX7_noise 47 = .ok (.getfield 19, 3) := by decide +kernel
theorem dX7_noise_50 : decode cX7_noise 50 = .ok (.getfield 115, 3) := by decide +kernel
theorem dX7_noise_53 : decode cX7_noise 53 = .ok (.ireturn, 1) := by decide +kernel
theorem dX7_frame_0 : decode cX7_frame 0 = .ok (.aload_n 0, 1) := by decide +kernel
theorem dX7_frame_1 : decode cX7_frame 1 = .ok (.getfield 19, 3) := by decide +kernel
theorem dX7_frame_4 : decode cX7_frame 4 = .ok (.getfield 115, 3) := by decide +kernel
theorem dX7_frame_7 : decode cX7_frame 7 = .ok (.aload_n 0, 1) := by decide +kernel
theorem dX7_frame_8 : decode cX7_frame 8 = .ok (.getfield 56, 3) := by decide +kernel
theorem dX7_frame_11 : decode cX7_frame 11 = .ok (.if_icmp .le 7, 3) := by decide +kernel
theorem dX7_frame_14 : decode cX7_frame 14 = .ok (.iconst 1, 1) := by decide +kernel
theorem dX7_frame_15 : decode cX7_frame 15 = .ok (.goto 4, 3) := by decide +kernel
theorem dX7_frame_18 : decode cX7_frame 18 = .ok (.iconst 0, 1) := by decide +kernel
theorem dX7_frame_19 : decode cX7_frame 19 = .ok (.istore_n 1, 1) := by decide +kernel
theorem dX7_frame_20 : decode cX7_frame 20 = .ok (.iload_n 1, 1) := by decide +kernel
theorem dX7_frame_21 : decode cX7_frame 21 = .ok (.ifCond .eq 16, 3) := by decide +kernel
theorem dX7_frame_24 : decode cX7_frame 24 = .ok (.aload_n 0, 1) := by decide +kernel
theorem dX7_frame_25 : decode cX7_frame 25 = .ok (.dup, 1) := by decide +kernel
theorem dX7_frame_26 : decode cX7_frame 26 = .ok (.getfield 118, 3) := by decide +kernel
theorem dX7_frame_29 : decode cX7_frame 29 = .ok (.iconst 1, 1) := by decide +kernel
theorem dX7_frame_30 : decode cX7_frame 30 = .ok (.iadd, 1) := by decide +kernel
theorem dX7_frame_31 : decode cX7_frame 31 = .ok (.putfield 118, 3) := by decide +kernel
theorem dX7_frame_34 : decode cX7_frame 34 = .ok (.goto 50, 3) := by decide +kernel
theorem dX7_frame_37 : decode cX7_frame 37 = .ok (.aload_n 0, 1) := by decide +kernel
theorem dX7_frame_38 : decode cX7_frame 38 = .ok (.dup, 1) := by decide +kernel
theorem dX7_frame_39 : decode cX7_frame 39 = .ok (.getfield 121, 3) := by decide +kernel
theorem dX7_frame_42 : decode cX7_frame 42 = .ok (.iconst 1, 1) := by decide +kernel
theorem dX7_frame_43 : decode cX7_frame 43 = .ok (.iadd, 1) := by decide +kernel
theorem dX7_frame_44 : decode cX7_frame 44 = .ok (.putfield 121, 3) := by decide +kernel
theorem dX7_frame_47 : decode cX7_frame 47 = .ok (.aload_n 0, 1) := by decide +kernel
theorem dX7_frame_48 : decode cX7_frame 48 = .ok (.getfield 32, 3) := by decide +kernel
theorem dX7_frame_51 : decode cX7_frame 51 = .ok (.aload_n 0, 1) := by decide +kernel
theorem dX7_frame_52 : decode cX7_frame 52 = .ok (.getfield 19, 3) := by decide +kernel
theorem dX7_frame_55 : decode cX7_frame 55 = .ok (.aload_n 0, 1) := by decide +kernel
theorem dX7_frame_56 : decode cX7_frame 56 = .ok (.getfield 48, 3) := by decide +kernel
theorem dX7_frame_59 : decode cX7_frame 59 = .ok (.getfield 124, 3) := by decide +kernel
theorem dX7_frame_62 : decode cX7_frame 62 = .ok (.invokevirtual 128, 3) := by decide +kernel
theorem dX7_frame_65 : decode cX7_frame 65 = .ok (.aload_n 0, 1) := by decide +kernel
theorem dX7_frame_66 : decode cX7_frame 66 = .ok (.getfield 48, 3) := by decide +kernel
theorem dX7_frame_69 : decode cX7_frame 69 = .ok (.aload_n 0, 1) := by decide +kernel
theorem dX7_frame_70 : decode cX7_frame 70 = .ok (.getfield 19, 3) := by decide +kernel
theorem dX7_frame_73 : decode cX7_frame 73 = .ok (.aload_n 0, 1) := by decide +kernel
theorem dX7_frame_74 : decode cX7_frame 74 = .ok (.getfield 32, 3) := by decide +kernel
theorem dX7_frame_77 : decode cX7_frame 77 = .ok (.aload_n 0, 1) := by decide +kernel
theorem dX7_frame_78 : decode cX7_frame 78 = .ok (.getfield 52, 3) := by decide +kernel
theorem dX7_frame_81 : decode cX7_frame 81 = .ok (.invokevirtual 132, 3) := by decide +kernel
theorem dX7_frame_84 : decode cX7_frame 84 = .ok (.aload_n 0, 1) := by decide +kernel
theorem dX7_frame_85 : decode cX7_frame 85 = .ok (.getfield 10, 3) := by decide +kernel
theorem dX7_frame_88 : decode cX7_frame 88 = .ok (.aload_n 0, 1) := by decide +kernel
theorem dX7_frame_89 : decode cX7_frame 89 = .ok (.getfield 19, 3) := by decide +kernel
theorem dX7_frame_92 : decode cX7_frame 92 = .ok (.invokevirtual 136, 3) := by decide +kernel
theorem dX7_frame_95 : decode cX7_frame 95 = .ok (.aload_n 0, 1) := by decide +kernel
theorem dX7_frame_96 : decode cX7_frame 96 = .ok (.getfield 10, 3) := by decide +kernel
theorem dX7_frame_99 : decode cX7_frame 99 = .ok (.invokevirtual 140, 3) := by decide +kernel
theorem dX7_frame_102 : decode cX7_frame 102 = .ok (.aload_n 0, 1) := by decide +kernel
theorem dX7_frame_103 : decode cX7_frame 103 = .ok (.getfield 19, 3) := by decide +kernel
theorem dX7_frame_106 : decode cX7_frame 106 = .ok (.aload_n 0, 1) := by decide +kernel
theorem dX7_frame_107 : decode cX7_frame 107 = .ok (.getfield 10, 3) := by decide +kernel
theorem dX7_frame_110 : decode cX7_frame 110 = .ok (.invokevirtual 87, 3) := by decide +kernel
theorem dX7_frame_113 : decode cX7_frame 113 = .ok (.iload_n 1, 1) := by decide +kernel
theorem dX7_frame_114 : decode cX7_frame 114 = .ok (.ifCond .eq 8, 3) := by decide +kernel
theorem dX7_frame_117 : decode cX7_frame 117 = .ok (.bipush (-2), 2) := by decide +kernel
theorem dX7_frame_119 : decode cX7_frame 119 = .ok (.goto 10, 3) := by decide +kernel
theorem dX7_frame_122 : decode cX7_frame 122 = .ok (.aload_n 0, 1) := by decide +kernel
theorem dX7_frame_123 : decode cX7_frame 123 = .ok (.getfield 48, 3) := by decide +kernel
theorem dX7_frame_126 : decode cX7_frame 126 = .ok (.invokevirtual 143, 3) := by decide +kernel
theorem dX7_frame_129 : decode cX7_frame 129 = .ok (.ireturn, 1) := by decide +kernel
theorem dX7_wipe_0 : decode cX7_wipe 0 = .ok (.aload_n 0, 1) := by decide +kernel
theorem dX7_wipe_1 : decode cX7_wipe 1 = .ok (.getfield 48, 3) := by decide +kernel
theorem dX7_wipe_4 : decode cX7_wipe 4 = .ok (.invokevirtual 143, 3) := by decide +kernel
theorem dX7_wipe_7 : decode cX7_wipe 7 = .ok (.istore_n 1, 1) := by decide +kernel
theorem dX7_wipe_8 : decode cX7_wipe 8 = .ok (.aload_n 0, 1) := by decide +kernel
theorem dX7_wipe_9 : decode cX7_wipe 9 = .ok (.getfield 48, 3) := by decide +kernel
theorem dX7_wipe_12 : decode cX7_wipe 12 = .ok (.invokevirtual 147, 3) := by decide +kernel
theorem dX7_wipe_15 : decode cX7_wipe 15 = .ok (.aload_n 0, 1) := by decide +kernel
theorem dX7_wipe_16 : decode cX7_wipe 16 = .ok (.getfield 10, 3) := by decide +kernel
theorem dX7_wipe_19 : decode cX7_wipe 19 = .ok (.invokevirtual 150, 3) := by decide +kernel
theorem dX7_wipe_22 : decode cX7_wipe 22 = .ok (.aload_n 0, 1) := by decide +kernel
theorem dX7_wipe_23 : decode cX7_wipe 23 = .ok (.getfield 10, 3) := by decide +kernel
theorem dX7_wipe_26 : decode cX7_wipe 26 = .ok (.invokevirtual 140, 3) := by decide +kernel
theorem dX7_wipe_29 : decode cX7_wipe 29 = .ok (.aload_n 0, 1) := by decide +kernel
theorem dX7_wipe_30 : decode cX7_wipe 30 = .ok (.getfield 19, 3) := by decide +kernel
theorem dX7_wipe_33 : decode cX7_wipe 33 = .ok (.aload_n 0, 1) := by decide +kernel
theorem dX7_wipe_34 : decode cX7_wipe 34 = .ok (.getfield 10, 3) := by decide +kernel
theorem dX7_wipe_37 : decode cX7_wipe 37 = .ok (.invokevirtual 87, 3) := by decide +kernel
theorem dX7_wipe_40 : decode cX7_wipe 40 = .ok (.iload_n 1, 1) := by decide +kernel
theorem dX7_wipe_41 : decode cX7_wipe 41 = .ok (.ireturn, 1) := by decide +kernel
theorem dX7_ofCell_0 : decode cX7_ofCell 0 = .ok (.iload_n 1, 1) := by decide +kernel
theorem dX7_ofCell_1 : decode cX7_ofCell 1 = .ok (.iload_n 2, 1) := by decide +kernel
theorem dX7_ofCell_2 : decode cX7_ofCell 2 = .ok (.invokestatic 91, 3) := by decide +kernel
theorem dX7_ofCell_5 : decode cX7_ofCell 5 = .ok (.iload_n 3, 1) := by decide +kernel
theorem dX7_ofCell_6 : decode cX7_ofCell 6 = .ok (.iconst 4, 1) := by decide +kernel
theorem dX7_ofCell_7 : decode cX7_ofCell 7 = .ok (.invokestatic 153, 3) := by decide +kernel
theorem dX7_ofCell_10 : decode cX7_ofCell 10 = .ok (.aload_n 0, 1) := by decide +kernel
theorem dX7_ofCell_11 : decode cX7_ofCell 11 = .ok (.iload_n 2, 1) := by decide +kernel
theorem dX7_ofCell_12 : decode cX7_ofCell 12 = .ok (.bipush 8, 2) := by decide +kernel
theorem dX7_ofCell_14 : decode cX7_ofCell 14 = .ok (.imul, 1) := by decide +kernel
theorem dX7_ofCell_15 : decode cX7_ofCell 15 = .ok (.iload_n 1, 1) := by decide +kernel
theorem dX7_ofCell_16 : decode cX7_ofCell 16 = .ok (.iadd, 1) := by decide +kernel
theorem dX7_ofCell_17 : decode cX7_ofCell 17 = .ok (.iload_n 3, 1) := by decide +kernel
theorem dX7_ofCell_18 : decode cX7_ofCell 18 = .ok (.invokevirtual 156, 3) := by decide +kernel
theorem dX7_ofCell_21 : decode cX7_ofCell 21 = .ok (.ireturn, 1) := by decide +kernel
theorem dX7_ofPeak_0 : decode cX7_ofPeak 0 = .ok (.iload_n 1, 1) := by decide +kernel
theorem dX7_ofPeak_1 : decode cX7_ofPeak 1 = .ok (.ifCond .lt 14, 3) := by decide +kernel
theorem dX7_ofPeak_4 : decode cX7_ofPeak 4 = .ok (.iload_n 1, 1) := by decide +kernel
theorem dX7_ofPeak_5 : decode cX7_ofPeak 5 = .ok (.aload_n 0, 1) := by decide +kernel
theorem dX7_ofPeak_6 : decode cX7_ofPeak 6 = .ok (.getfield 19, 3) := by decide +kernel
theorem dX7_ofPeak_9 : decode cX7_ofPeak 9 = .ok (.getfield 160, 3) := by decide +kernel
theorem dX7_ofPeak_12 : decode cX7_ofPeak 12 = .ok (.if_icmp .lt 13, 3) := by decide +kernel
theorem dX7_ofPeak_15 : decode cX7_ofPeak 15 = .ok (.new 163, 3) := by decide +kernel
theorem dX7_ofPeak_18 : decode cX7_ofPeak 18 = .ok (.dup, 1) := by decide +kernel
theorem dX7_ofPeak_19 : decode cX7_ofPeak 19 = .ok (.ldc 165, 2) := by decide +kernel
theorem dX7_ofPeak_21 : decode cX7_ofPeak 21 = .ok (.invokespecial 167, 3) := by decide +kernel
theorem dX7_ofPeak_24 : decode cX7_ofPeak 24 = .ok (.athrow, 1) := by decide +kernel
theorem dX7_ofPeak_25 : decode cX7_ofPeak 25 = .ok (.iload_n 2, 1) := by decide +kernel
theorem dX7_ofPeak_26 : decode cX7_ofPeak 26 = .ok (.iconst 4, 1) := by decide +kernel
theorem dX7_ofPeak_27 : decode cX7_ofPeak 27 = .ok (.invokestatic 153, 3) := by decide +kernel
theorem dX7_ofPeak_30 : decode cX7_ofPeak 30 = .ok (.aload_n 0, 1) := by decide +kernel
theorem dX7_ofPeak_31 : decode cX7_ofPeak 31 = .ok (.iload_n 1, 1) := by decide +kernel
theorem dX7_ofPeak_32 : decode cX7_ofPeak 32 = .ok (.iload_n 2, 1) := by decide +kernel
theorem dX7_ofPeak_33 : decode cX7_ofPeak 33 = .ok (.invokevirtual 168, 3) := by decide +kernel
theorem dX7_ofPeak_36 : decode cX7_ofPeak 36 = .ok (.ireturn, 1) := by decide +kernel
theorem dX7_ofContact_0 : decode cX7_ofContact 0 = .ok (.aload_n 0, 1) := by decide +kernel
theorem dX7_ofContact_1 : decode cX7_ofContact 1 = .ok (.iload_n 1, 1) := by decide +kernel
theorem dX7_ofContact_2 : decode cX7_ofContact 2 = .ok (.invokevirtual 171, 3) := by decide +kernel
theorem dX7_ofContact_5 : decode cX7_ofContact 5 = .ok (.iload_n 2, 1) := by decide +kernel
theorem dX7_ofContact_6 : decode cX7_ofContact 6 = .ok (.iconst 5, 1) := by decide +kernel
theorem dX7_ofContact_7 : decode cX7_ofContact 7 = .ok (.invokestatic 153, 3) := by decide +kernel
theorem dX7_ofContact_10 : decode cX7_ofContact 10 = .ok (.aload_n 0, 1) := by decide +kernel
theorem dX7_ofContact_11 : decode cX7_ofContact 11 = .ok (.getfield 48, 3) := by decide +kernel
theorem dX7_ofContact_14 : decode cX7_ofContact 14 = .ok (.getfield 124, 3) := by decide +kernel
theorem dX7_ofContact_17 : decode cX7_ofContact 17 = .ok (.iload_n 1, 1) := by decide +kernel
theorem dX7_ofContact_18 : decode cX7_ofContact 18 = .ok (.aaload, 1) := by decide +kernel
theorem dX7_ofContact_19 : decode cX7_ofContact 19 = .ok (.iload_n 2, 1) := by decide +kernel
theorem dX7_ofContact_20 : decode cX7_ofContact 20 = .ok (.invokestatic 174, 3) := by decide +kernel
theorem dX7_ofContact_23 : decode cX7_ofContact 23 = .ok (.ireturn, 1) := by decide +kernel
theorem dX7_where_0 : decode cX7_where 0 = .ok (.aload_n 0, 1) := by decide +kernel
theorem dX7_where_1 : decode cX7_where 1 = .ok (.iload_n 1, 1) := by decide +kernel
theorem dX7_where_2 : decode cX7_where 2 = .ok (.invokevirtual 171, 3) := by decide +kernel
theorem dX7_where_5 : decode cX7_where 5 = .ok (.iload_n 2, 1) := by decide +kernel
theorem dX7_where_6 : decode cX7_where 6 = .ok (.iconst 4, 1) := by decide +kernel
theorem dX7_where_7 : decode cX7_where 7 = .ok (.invokestatic 153, 3) := by decide +kernel
theorem dX7_where_10 : decode cX7_where 10 = .ok (.aload_n 0, 1) := by decide +kernel
theorem dX7_where_11 : decode cX7_where 11 = .ok (.getfield 48, 3) := by decide +kernel
theorem dX7_where_14 : decode cX7_where 14 = .ok (.getfield 124, 3) := by decide +kernel
theorem dX7_where_17 : decode cX7_where 17 = .ok (.iload_n 1, 1) := by decide +kernel
theorem dX7_where_18 : decode cX7_where 18 = .ok (.aaload, 1) := by decide +kernel
theorem dX7_where_19 : decode cX7_where 19 = .ok (.iload_n 2, 1) := by decide +kernel
theorem dX7_where_20 : decode cX7_where 20 = .ok (.invokestatic 178, 3) := by decide +kernel
theorem dX7_where_23 : decode cX7_where 23 = .ok (.dreturn, 1) := by decide +kernel
theorem dX7_apart_0 : decode cX7_apart 0 = .ok (.aload_n 0, 1) := by decide +kernel
theorem dX7_apart_1 : decode cX7_apart 1 = .ok (.iload_n 1, 1) := by decide +kernel
theorem dX7_apart_2 : decode cX7_apart 2 = .ok (.invokevirtual 171, 3) := by decide +kernel
theorem dX7_apart_5 : decode cX7_apart 5 = .ok (.aload_n 0, 1) := by decide +kernel
theorem dX7_apart_6 : decode cX7_apart 6 = .ok (.iload_n 2, 1) := by decide +kernel
theorem dX7_apart_7 : decode cX7_apart 7 = .ok (.invokevirtual 171, 3) := by decide +kernel
theorem dX7_apart_10 : decode cX7_apart 10 = .ok (.aload_n 0, 1) := by decide +kernel
theorem dX7_apart_11 : decode cX7_apart 11 = .ok (.getfield 48, 3) := by decide +kernel
theorem dX7_apart_14 : decode cX7_apart 14 = .ok (.getfield 124, 3) := by decide +kernel
theorem dX7_apart_17 : decode cX7_apart 17 = .ok (.iload_n 1, 1) := by decide +kernel
theorem dX7_apart_18 : decode cX7_apart 18 = .ok (.aaload, 1) := by decide +kernel
theorem dX7_apart_19 : decode cX7_apart 19 = .ok (.aload_n 0, 1) := by decide +kernel
theorem dX7_apart_20 : decode cX7_apart 20 = .ok (.getfield 48, 3) := by decide +kernel
theorem dX7_apart_23 : decode cX7_apart 23 = .ok (.getfield 124, 3) := by decide +kernel
theorem dX7_apart_26 : decode cX7_apart 26 = .ok (.iload_n 2, 1) := by decide +kernel
theorem dX7_apart_27 : decode cX7_apart 27 = .ok (.aaload, 1) := by decide +kernel
theorem dX7_apart_28 : decode cX7_apart 28 = .ok (.invokevirtual 182, 3) := by decide +kernel
theorem dX7_apart_31 : decode cX7_apart 31 = .ok (.f2d, 1) := by decide +kernel
theorem dX7_apart_32 : decode cX7_apart 32 = .ok (.dreturn, 1) := by decide +kernel
theorem dX7_ofRow_0 : decode cX7_ofRow 0 = .ok (.iload_n 1, 1) := by decide +kernel
theorem dX7_ofRow_1 : decode cX7_ofRow 1 = .ok (.invokestatic 107, 3) := by decide +kernel
theorem dX7_ofRow_4 : decode cX7_ofRow 4 = .ok (.iload_n 2, 1) := by decide +kernel
theorem dX7_ofRow_5 : decode cX7_ofRow 5 = .ok (.iconst 2, 1) := by decide +kernel
theorem dX7_ofRow_6 : decode cX7_ofRow 6 = .ok (.invokestatic 153, 3) := by decide +kernel
theorem dX7_ofRow_9 : decode cX7_ofRow 9 = .ok (.aload_n 0, 1) := by decide +kernel
theorem dX7_ofRow_10 : decode cX7_ofRow 10 = .ok (.iload_n 1, 1) := by decide +kernel
theorem dX7_ofRow_11 : decode cX7_ofRow 11 = .ok (.iload_n 2, 1) := by decide +kernel
theorem dX7_ofRow_12 : decode cX7_ofRow 12 = .ok (.invokevirtual 188, 3) := by decide +kernel
theorem dX7_ofRow_15 : decode cX7_ofRow 15 = .ok (.ireturn, 1) := by decide +kernel
theorem dX7_ofArea_0 : decode cX7_ofArea 0 = .ok (.iload_n 1, 1) := by decide +kernel
theorem dX7_ofArea_1 : decode cX7_ofArea 1 = .ok (.ifCond .lt 14, 3) := by decide +kernel
theorem dX7_ofArea_4 : decode cX7_ofArea 4 = .ok (.iload_n 1, 1) := by decide +kernel
theorem dX7_ofArea_5 : decode cX7_ofArea 5 = .ok (.aload_n 0, 1) := by decide +kernel
theorem dX7_ofArea_6 : decode cX7_ofArea 6 = .ok (.getfield 39, 3) := by decide +kernel
theorem dX7_ofArea_9 : decode cX7_ofArea 9 = .ok (.getfield 66, 3) := by decide +kernel
theorem dX7_ofArea_12 : decode cX7_ofArea 12 = .ok (.if_icmp .lt 13, 3) := by decide +kernel
theorem dX7_ofArea_15 : decode cX7_ofArea 15 = .ok (.new 163, 3) := by decide +kernel
theorem dX7_ofArea_18 : decode cX7_ofArea 18 = .ok (.dup, 1) := by decide +kernel
theorem dX7_ofArea_19 : decode cX7_ofArea 19 = .ok (.ldc 61, 2) := by decide +kernel
theorem dX7_ofArea_21 : decode cX7_ofArea 21 = .ok (.invokespecial 167, 3) := by decide +kernel
theorem dX7_ofArea_24 : decode cX7_ofArea 24 = .ok (.athrow, 1) := by decide +kernel
theorem dX7_ofArea_25 : decode cX7_ofArea 25 = .ok (.iload_n 2, 1) := by decide +kernel
theorem dX7_ofArea_26 : decode cX7_ofArea 26 = .ok (.iconst 4, 1) := by decide +kernel
theorem dX7_ofArea_27 : decode cX7_ofArea 27 = .ok (.invokestatic 153, 3) := by decide +kernel
theorem dX7_ofArea_30 : decode cX7_ofArea 30 = .ok (.aload_n 0, 1) := by decide +kernel
theorem dX7_ofArea_31 : decode cX7_ofArea 31 = .ok (.iload_n 1, 1) := by decide +kernel
theorem dX7_ofArea_32 : decode cX7_ofArea 32 = .ok (.iload_n 2, 1) := by decide +kernel
theorem dX7_ofArea_33 : decode cX7_ofArea 33 = .ok (.invokevirtual 191, 3) := by decide +kernel
theorem dX7_ofArea_36 : decode cX7_ofArea 36 = .ok (.ireturn, 1) := by decide +kernel
theorem dX7_many_0 : decode cX7_many 0 = .ok (.iload_n 1, 1) := by decide +kernel
theorem dX7_many_1 : decode cX7_many 1 = .ok (.bipush 9, 2) := by decide +kernel
theorem dX7_many_3 : decode cX7_many 3 = .ok (.invokestatic 153, 3) := by decide +kernel
theorem dX7_many_6 : decode cX7_many 6 = .ok (.aload_n 0, 1) := by decide +kernel
theorem dX7_many_7 : decode cX7_many 7 = .ok (.iload_n 1, 1) := by decide +kernel
theorem dX7_many_8 : decode cX7_many 8 = .ok (.invokevirtual 194, 3) := by decide +kernel
theorem dX7_many_11 : decode cX7_many 11 = .ok (.ireturn, 1) := by decide +kernel
theorem dX7_guess_0 : decode cX7_guess 0 = .ok (.aload_n 0, 1) := by decide +kernel
theorem dX7_guess_1 : decode cX7_guess 1 = .ok (.iload_n 1, 1) := by decide +kernel
theorem dX7_guess_2 : decode cX7_guess 2 = .ok (.invokevirtual 171, 3) := by decide +kernel
theorem dX7_guess_5 : decode cX7_guess 5 = .ok (.iload_n 2, 1) := by decide +kernel
theorem dX7_guess_6 : decode cX7_guess 6 = .ok (.ifCond .lt 9, 3) := by decide +kernel
theorem dX7_guess_9 : decode cX7_guess 9 = .ok (.iload_n 2, 1) := by decide +kernel
theorem dX7_guess_10 : decode cX7_guess 10 = .ok (.bipush 9, 2) := by decide +kernel
theorem dX7_guess_12 : decode cX7_guess 12 = .ok (.if_icmp .le 13, 3) := by decide +kernel
theorem dX7_guess_15 : decode cX7_guess 15 = .ok (.new 59, 3) := by decide +kernel
theorem dX7_guess_18 : decode cX7_guess 18 = .ok (.dup, 1) := by decide +kernel
theorem dX7_guess_19 : decode cX7_guess 19 = .ok (.ldc 198, 2) := by decide +kernel
theorem dX7_guess_21 : decode cX7_guess 21 = .ok (.invokespecial 63, 3) := by decide +kernel
theorem dX7_guess_24 : decode cX7_guess 24 = .ok (.athrow, 1) := by decide +kernel
theorem dX7_guess_25 : decode cX7_guess 25 = .ok (.aload_n 0, 1) := by decide +kernel
theorem dX7_guess_26 : decode cX7_guess 26 = .ok (.getfield 48, 3) := by decide +kernel
theorem dX7_guess_29 : decode cX7_guess 29 = .ok (.getfield 124, 3) := by decide +kernel
theorem dX7_guess_32 : decode cX7_guess 32 = .ok (.iload_n 1, 1) := by decide +kernel
theorem dX7_guess_33 : decode cX7_guess 33 = .ok (.aaload, 1) := by decide +kernel
theorem dX7_guess_34 : decode cX7_guess 34 = .ok (.iload_n 2, 1) := by decide +kernel
theorem dX7_guess_35 : decode cX7_guess 35 = .ok (.iload_n 3, 1) := by decide +kernel
theorem dX7_guess_36 : decode cX7_guess 36 = .ok (.invokevirtual 200, 3) := by decide +kernel
theorem dX7_guess_39 : decode cX7_guess 39 = .ok (.f2d, 1) := by decide +kernel
theorem dX7_guess_40 : decode cX7_guess 40 = .ok (.dreturn, 1) := by decide +kernel
theorem dX7_wouldMatch_0 : decode cX7_wouldMatch 0 = .ok (.aload_n 0, 1) := by decide +kernel
theorem dX7_wouldMatch_1 : decode cX7_wouldMatch 1 = .ok (.iload_n 1, 1) := by decide +kernel
theorem dX7_wouldMatch_2 : decode cX7_wouldMatch 2 = .ok (.invokevirtual 171, 3) := by decide +kernel
theorem dX7_wouldMatch_5 : decode cX7_wouldMatch 5 = .ok (.aload_n 0, 1) := by decide +kernel
theorem dX7_wouldMatch_6 : decode cX7_wouldMatch 6 = .ok (.aload_n 0, 1) := by decide +kernel
theorem dX7_wouldMatch_7 : decode cX7_wouldMatch 7 = .ok (.getfield 19, 3) := by decide +kernel
theorem dX7_wouldMatch_10 : decode cX7_wouldMatch 10 = .ok (.iload_n 1, 1) := by decide +kernel
theorem dX7_wouldMatch_11 : decode cX7_wouldMatch 11 = .ok (.invokevirtual 204, 3) := by decide +kernel
theorem dX7_wouldMatch_14 : decode cX7_wouldMatch 14 = .ok (.ireturn, 1) := by decide +kernel
theorem dX7_calmIn_0 : decode cX7_calmIn 0 = .ok (.aload_n 0, 1) := by decide +kernel
theorem dX7_calmIn_1 : decode cX7_calmIn 1 = .ok (.getfield 23, 3) := by decide +kernel
theorem dX7_calmIn_4 : decode cX7_calmIn 4 = .ok (.aload_n 0, 1) := by decide +kernel
theorem dX7_calmIn_5 : decode cX7_calmIn 5 = .ok (.getfield 10, 3) := by decide +kernel
theorem dX7_calmIn_8 : decode cX7_calmIn 8 = .ok (.invokevirtual 208, 3) := by decide +kernel
theorem dX7_calmIn_11 : decode cX7_calmIn 11 = .ok (.aload_n 0, 1) := by decide +kernel
theorem dX7_calmIn_12 : decode cX7_calmIn 12 = .ok (.getfield 23, 3) := by decide +kernel
theorem dX7_calmIn_15 : decode cX7_calmIn 15 = .ok (.invokevirtual 140, 3) := by decide +kernel
theorem dX7_calmIn_18 : decode cX7_calmIn 18 = .ok (.iconst 0, 1) := by decide +kernel
theorem dX7_calmIn_19 : decode cX7_calmIn 19 = .ok (.istore_n 1, 1) := by decide +kernel
theorem dX7_calmIn_20 : decode cX7_calmIn 20 = .ok (.iload_n 1, 1) := by decide +kernel
theorem dX7_calmIn_21 : decode cX7_calmIn 21 = .ok (.bipush 60, 2) := by decide +kernel
theorem dX7_calmIn_23 : decode cX7_calmIn 23 = .ok (.if_icmp .gt 43, 3) := by decide +kernel
theorem dX7_calmIn_26 : decode cX7_calmIn 26 = .ok (.aload_n 0, 1) := by decide +kernel
theorem dX7_calmIn_27 : decode cX7_calmIn 27 = .ok (.getfield 26, 3) := by decide +kernel
theorem dX7_calmIn_30 : decode cX7_calmIn 30 = .ok (.aload_n 0, 1) := by decide +kernel
theorem dX7_calmIn_31 : decode cX7_calmIn 31 = .ok (.getfield 23, 3) := by decide +kernel
theorem dX7_calmIn_34 : decode cX7_calmIn 34 = .ok (.invokevirtual 87, 3) := by decide +kernel
theorem dX7_calmIn_37 : decode cX7_calmIn 37 = .ok (.aload_n 0, 1) := by decide +kernel
theorem dX7_calmIn_38 : decode cX7_calmIn 38 = .ok (.getfield 26, 3) := by decide +kernel
theorem dX7_calmIn_41 : decode cX7_calmIn 41 = .ok (.invokevirtual 211, 3) := by decide +kernel
theorem dX7_calmIn_44 : decode cX7_calmIn 44 = .ok (.ifCond .eq 5, 3) := by decide +kernel
theorem dX7_calmIn_47 : decode cX7_calmIn 47 = .ok (.iload_n 1, 1) := by decide +kernel
theorem dX7_calmIn_48 : decode cX7_calmIn 48 = .ok (.ireturn, 1) := by decide +kernel
theorem dX7_calmIn_49 : decode cX7_calmIn 49 = .ok (.aload_n 0, 1) := by decide +kernel
theorem dX7_calmIn_50 : decode cX7_calmIn 50 = .ok (.getfield 23, 3) := by decide +kernel
theorem dX7_calmIn_53 : decode cX7_calmIn 53 = .ok (.aload_n 0, 1) := by decide +kernel
theorem dX7_calmIn_54 : decode cX7_calmIn 54 = .ok (.getfield 26, 3) := by decide +kernel
theorem dX7_calmIn_57 : decode cX7_calmIn 57 = .ok (.invokevirtual 136, 3) := by decide +kernel
theorem dX7_calmIn_60 : decode cX7_calmIn 60 = .ok (.iinc 1 1, 3) := by decide +kernel
theorem dX7_calmIn_63 : decode cX7_calmIn 63 = .ok (.goto (-43), 3) := by decide +kernel
theorem dX7_calmIn_66 : decode cX7_calmIn 66 = .ok (.iconst (-1), 1) := by decide +kernel
theorem dX7_calmIn_67 : decode cX7_calmIn 67 = .ok (.ireturn, 1) := by decide +kernel
theorem dX7_keepBy_0 : decode cX7_keepBy 0 = .ok (.aload_n 0, 1) := by decide +kernel
theorem dX7_keepBy_1 : decode cX7_keepBy 1 = .ok (.iload_n 1, 1) := by decide +kernel
theorem dX7_keepBy_2 : decode cX7_keepBy 2 = .ok (.invokevirtual 171, 3) := by decide +kernel
theorem dX7_keepBy_5 : decode cX7_keepBy 5 = .ok (.iload_n 2, 1) := by decide +kernel
theorem dX7_keepBy_6 : decode cX7_keepBy 6 = .ok (.invokestatic 95, 3) := by decide +kernel
theorem dX7_keepBy_9 : decode cX7_keepBy 9 = .ok (.iconst 0, 1) := by decide +kernel
theorem dX7_keepBy_10 : decode cX7_keepBy 10 = .ok (.istore_n 3, 1) := by decide +kernel
theorem dX7_keepBy_11 : decode cX7_keepBy 11 = .ok (.iload_n 3, 1) := by decide +kernel
theorem dX7_keepBy_12 : decode cX7_keepBy 12 = .ok (.bipush 48, 2) := by decide +kernel
theorem dX7_keepBy_14 : decode cX7_keepBy 14 = .ok (.if_icmp .ge 21, 3) := by decide +kernel
theorem dX7_keepBy_17 : decode cX7_keepBy 17 = .ok (.aload_n 0, 1) := by decide +kernel
theorem dX7_keepBy_18 : decode cX7_keepBy 18 = .ok (.iload_n 1, 1) := by decide +kernel
theorem dX7_keepBy_19 : decode cX7_keepBy 19 = .ok (.iload_n 3, 1) := by decide +kernel
theorem dX7_keepBy_20 : decode cX7_keepBy 20 = .ok (.iload_n 2, 1) := by decide +kernel
theorem dX7_keepBy_21 : decode cX7_keepBy 21 = .ok (.invokevirtual 215, 3) := by decide +kernel
theorem dX7_keepBy_24 : decode cX7_keepBy 24 = .ok (.ifCond .eq 5, 3) := by decide +kernel
theorem dX7_keepBy_27 : decode cX7_keepBy 27 = .ok (.iload_n 3, 1) := by decide +kernel
theorem dX7_keepBy_28 : decode cX7_keepBy 28 = .ok (.ireturn, 1) := by decide +kernel
theorem dX7_keepBy_29 : decode cX7_keepBy 29 = .ok (.iinc 3 1, 3) := by decide +kernel
theorem dX7_keepBy_32 : decode cX7_keepBy 32 = .ok (.goto (-21), 3) := by decide +kernel
theorem dX7_keepBy_35 : decode cX7_keepBy 35 = .ok (.iconst (-1), 1) := by decide +kernel
theorem dX7_keepBy_36 : decode cX7_keepBy 36 = .ok (.ireturn, 1) := by decide +kernel
theorem dX7_digest_0 : decode cX7_digest 0 = .ok (.ldc2_w 219, 3) := by decide +kernel
theorem dX7_digest_3 : decode cX7_digest 3 = .ok (.lstore_n 1, 1) := by decide +kernel
theorem dX7_digest_4 : decode cX7_digest 4 = .ok (.iconst 0, 1) := by decide +kernel
theorem dX7_digest_5 : decode cX7_digest 5 = .ok (.istore_n 3, 1) := by decide +kernel
theorem dX7_digest_6 : decode cX7_digest 6 = .ok (.iload_n 3, 1) := by decide +kernel
theorem dX7_digest_7 : decode cX7_digest 7 = .ok (.bipush 9, 2) := by decide +kernel
theorem dX7_digest_9 : decode cX7_digest 9 = .ok (.if_icmp .gt 20, 3) := by decide +kernel
theorem dX7_digest_12 : decode cX7_digest 12 = .ok (.lload_n 1, 1) := by decide +kernel
theorem dX7_digest_13 : decode cX7_digest 13 = .ok (.aload_n 0, 1) := by decide +kernel
theorem dX7_digest_14 : decode cX7_digest 14 = .ok (.iload_n 3, 1) := by decide +kernel
theorem dX7_digest_15 : decode cX7_digest 15 = .ok (.invokevirtual 194, 3) := by decide +kernel
theorem dX7_digest_18 : decode cX7_digest 18 = .ok (.i2l, 1) := by decide +kernel
theorem dX7_digest_19 : decode cX7_digest 19 = .ok (.invokestatic 221, 3) := by decide +kernel
theorem dX7_digest_22 : decode cX7_digest 22 = .ok (.lstore_n 1, 1) := by decide +kernel
theorem dX7_digest_23 : decode cX7_digest 23 = .ok (.iinc 3 1, 3) := by decide +kernel
theorem dX7_digest_26 : decode cX7_digest 26 = .ok (.goto (-20), 3) := by decide +kernel
theorem dX7_digest_29 : decode cX7_digest 29 = .ok (.iconst 0, 1) := by decide +kernel
theorem dX7_digest_30 : decode cX7_digest 30 = .ok (.istore_n 3, 1) := by decide +kernel
theorem dX7_digest_31 : decode cX7_digest 31 = .ok (.iload_n 3, 1) := by decide +kernel
theorem dX7_digest_32 : decode cX7_digest 32 = .ok (.bipush 48, 2) := by decide +kernel
theorem dX7_digest_34 : decode cX7_digest 34 = .ok (.if_icmp .ge 33, 3) := by decide +kernel
theorem dX7_digest_37 : decode cX7_digest 37 = .ok (.lload_n 1, 1) := by decide +kernel
theorem dX7_digest_38 : decode cX7_digest 38 = .ok (.aload_n 0, 1) := by decide +kernel
theorem dX7_digest_39 : decode cX7_digest 39 = .ok (.iload_n 3, 1) := by decide +kernel
theorem dX7_digest_40 : decode cX7_digest 40 = .ok (.iconst 1, 1) := by decide +kernel
theorem dX7_digest_41 : decode cX7_digest 41 = .ok (.invokevirtual 156, 3) := by decide +kernel
theorem dX7_digest_44 : decode cX7_digest 44 = .ok (.i2l, 1) := by decide +kernel
theorem dX7_digest_45 : decode cX7_digest 45 = .ok (.invokestatic 221, 3) := by decide +kernel
theorem dX7_digest_48 : decode cX7_digest 48 = .ok (.lstore_n 1, 1) := by decide +kernel
theorem dX7_digest_49 : decode cX7_digest 49 = .ok (.lload_n 1, 1) := by decide +kernel
theorem dX7_digest_50 : decode cX7_digest 50 = .ok (.aload_n 0, 1) := by decide +kernel
theorem dX7_digest_51 : decode cX7_digest 51 = .ok (.iload_n 3, 1) := by decide +kernel
theorem dX7_digest_52 : decode cX7_digest 52 = .ok (.iconst 2, 1) := by decide +kernel
theorem dX7_digest_53 : decode cX7_digest 53 = .ok (.invokevirtual 156, 3) := by decide +kernel
theorem dX7_digest_56 : decode cX7_digest 56 = .ok (.i2l, 1) := by decide +kernel
theorem dX7_digest_57 : decode cX7_digest 57 = .ok (.invokestatic 221, 3) := by decide +kernel
theorem dX7_digest_60 : decode cX7_digest 60 = .ok (.lstore_n 1, 1) := by decide +kernel
theorem dX7_digest_61 : decode cX7_digest 61 = .ok (.iinc 3 1, 3) := by decide +kernel
theorem dX7_digest_64 : decode cX7_digest 64 = .ok (.goto (-33), 3) := by decide +kernel
theorem dX7_digest_67 : decode cX7_digest 67 = .ok (.iconst 0, 1) := by decide +kernel
theorem dX7_digest_68 : decode cX7_digest 68 = .ok (.istore_n 3, 1) := by decide +kernel
theorem dX7_digest_69 : decode cX7_digest 69 = .ok (.iload_n 3, 1) := by decide +kernel
theorem dX7_digest_70 : decode cX7_digest 70 = .ok (.aload_n 0, 1) := by decide +kernel
theorem dX7_digest_71 : decode cX7_digest 71 = .ok (.getfield 19, 3) := by decide +kernel
theorem dX7_digest_74 : decode cX7_digest 74 = .ok (.getfield 160, 3) := by decide +kernel
theorem dX7_digest_77 : decode cX7_digest 77 = .ok (.if_icmp .ge 37, 3) := by decide +kernel
theorem dX7_digest_80 : decode cX7_digest 80 = .ok (.iconst 0, 1) := by decide +kernel
theorem dX7_digest_81 : decode cX7_digest 81 = .ok (.istore 4, 2) := by decide +kernel
theorem dX7_digest_83 : decode cX7_digest 83 = .ok (.iload 4, 2) := by decide +kernel
theorem dX7_digest_85 : decode cX7_digest 85 = .ok (.iconst 4, 1) := by decide +kernel
theorem dX7_digest_86 : decode cX7_digest 86 = .ok (.if_icmp .gt 22, 3) := by decide +kernel
theorem dX7_digest_89 : decode cX7_digest 89 = .ok (.lload_n 1, 1) := by decide +kernel
theorem dX7_digest_90 : decode cX7_digest 90 = .ok (.aload_n 0, 1) := by decide +kernel
theorem dX7_digest_91 : decode cX7_digest 91 = .ok (.iload_n 3, 1) := by decide +kernel
theorem dX7_digest_92 : decode cX7_digest 92 = .ok (.iload 4, 2) := by decide +kernel
theorem dX7_digest_94 : decode cX7_digest 94 = .ok (.invokevirtual 168, 3) := by decide +kernel
theorem dX7_digest_97 : decode cX7_digest 97 = .ok (.i2l, 1) := by decide +kernel
theorem dX7_digest_98 : decode cX7_digest 98 = .ok (.invokestatic 221, 3) := by decide +kernel
theorem dX7_digest_101 : decode cX7_digest 101 = .ok (.lstore_n 1, 1) := by decide +kernel
theorem dX7_digest_102 : decode cX7_digest 102 = .ok (.iinc 4 1, 3) := by decide +kernel
theorem dX7_digest_105 : decode cX7_digest 105 = .ok (.goto (-22), 3) := by decide +kernel
theorem dX7_digest_108 : decode cX7_digest 108 = .ok (.iinc 3 1, 3) := by decide +kernel
theorem dX7_digest_111 : decode cX7_digest 111 = .ok (.goto (-42), 3) := by decide +kernel
theorem dX7_digest_114 : decode cX7_digest 114 = .ok (.iconst 0, 1) := by decide +kernel
theorem dX7_digest_115 : decode cX7_digest 115 = .ok (.istore_n 3, 1) := by decide +kernel
theorem dX7_digest_116 : decode cX7_digest 116 = .ok (.iload_n 3, 1) := by decide +kernel
theorem dX7_digest_117 : decode cX7_digest 117 = .ok (.iconst 5, 1) := by decide +kernel
theorem dX7_digest_118 : decode cX7_digest 118 = .ok (.if_icmp .ge 31, 3) := by decide +kernel
theorem dX7_digest_121 : decode cX7_digest 121 = .ok (.aload_n 0, 1) := by decide +kernel
theorem dX7_digest_122 : decode cX7_digest 122 = .ok (.getfield 48, 3) := by decide +kernel
theorem dX7_digest_125 : decode cX7_digest 125 = .ok (.iload_n 3, 1) := by decide +kernel
theorem dX7_digest_126 : decode cX7_digest 126 = .ok (.invokevirtual 225, 3) := by decide +kernel
theorem dX7_digest_129 : decode cX7_digest 129 = .ok (.ifCond .eq 12, 3) := by decide +kernel
theorem dX7_digest_132 : decode cX7_digest 132 = .ok (.aload_n 0, 1) := by decide +kernel
theorem dX7_digest_133 : decode cX7_digest 133 = .ok (.lload_n 1, 1) := by decide +kernel
theorem dX7_digest_134 : decode cX7_digest 134 = .ok (.iload_n 3, 1) := by decide +kernel
theorem dX7_digest_135 : decode cX7_digest 135 = .ok (.invokevirtual 229, 3) := by decide +kernel
theorem dX7_digest_138 : decode cX7_digest 138 = .ok (.goto 4, 3) := by decide +kernel
theorem dX7_digest_141 : decode cX7_digest 141 = .ok (.lload_n 1, 1) := by decide +kernel
theorem dX7_digest_142 : decode cX7_digest 142 = .ok (.lstore_n 1, 1) := by decide +kernel
theorem dX7_digest_143 : decode cX7_digest 143 = .ok (.iinc 3 1, 3) := by decide +kernel
theorem dX7_digest_146 : decode cX7_digest 146 = .ok (.goto (-30), 3) := by decide +kernel
theorem dX7_digest_149 : decode cX7_digest 149 = .ok (.iconst 0, 1) := by decide +kernel
theorem dX7_digest_150 : decode cX7_digest 150 = .ok (.istore_n 3, 1) := by decide +kernel
theorem dX7_digest_151 : decode cX7_digest 151 = .ok (.iload_n 3, 1) := by decide +kernel
theorem dX7_digest_152 : decode cX7_digest 152 = .ok (.aload_n 0, 1) := by decide +kernel
theorem dX7_digest_153 : decode cX7_digest 153 = .ok (.getfield 39, 3) := by decide +kernel
theorem dX7_digest_156 : decode cX7_digest 156 = .ok (.getfield 66, 3) := by decide +kernel
theorem dX7_digest_159 : decode cX7_digest 159 = .ok (.if_icmp .ge 37, 3) := by decide +kernel
theorem dX7_digest_162 : decode cX7_digest 162 = .ok (.iconst 0, 1) := by decide +kernel
theorem dX7_digest_163 : decode cX7_digest 163 = .ok (.istore 4, 2) := by decide +kernel
theorem dX7_digest_165 : decode cX7_digest 165 = .ok (.iload 4, 2) := by decide +kernel
theorem dX7_digest_167 : decode cX7_digest 167 = .ok (.iconst 4, 1) := by decide +kernel
theorem dX7_digest_168 : decode cX7_digest 168 = .ok (.if_icmp .gt 22, 3) := by decide +kernel
theorem dX7_digest_171 : decode cX7_digest 171 = .ok (.lload_n 1, 1) := by decide +kernel
theorem dX7_digest_172 : decode cX7_digest 172 = .ok (.aload_n 0, 1) := by decide +kernel
theorem dX7_digest_173 : decode cX7_digest 173 = .ok (.iload_n 3, 1) := by decide +kernel
theorem dX7_digest_174 : decode cX7_digest 174 = .ok (.iload 4, 2) := by decide +kernel
theorem dX7_digest_176 : decode cX7_digest 176 = .ok (.invokevirtual 191, 3) := by decide +kernel
theorem dX7_digest_179 : decode cX7_digest 179 = .ok (.i2l, 1) := by decide +kernel
theorem dX7_digest_180 : decode cX7_digest 180 = .ok (.invokestatic 221, 3) := by decide +kernel
theorem dX7_digest_183 : decode cX7_digest 183 = .ok (.lstore_n 1, 1) := by decide +kernel
theorem dX7_digest_184 : decode cX7_digest 184 = .ok (.iinc 4 1, 3) := by decide +kernel
theorem dX7_digest_187 : decode cX7_digest 187 = .ok (.goto (-22), 3) := by decide +kernel
theorem dX7_digest_190 : decode cX7_digest 190 = .ok (.iinc 3 1, 3) := by decide +kernel
theorem dX7_digest_193 : decode cX7_digest 193 = .ok (.goto (-42), 3) := by decide +kernel
theorem dX7_digest_196 : decode cX7_digest 196 = .ok (.iconst 0, 1) := by decide +kernel
theorem dX7_digest_197 : decode cX7_digest 197 = .ok (.istore_n 3, 1) := by decide +kernel
theorem dX7_digest_198 : decode cX7_digest 198 = .ok (.iload_n 3, 1) := by decide +kernel
theorem dX7_digest_199 : decode cX7_digest 199 = .ok (.bipush 6, 2) := by decide +kernel
theorem dX7_digest_201 : decode cX7_digest 201 = .ok (.if_icmp .ge 37, 3) := by decide +kernel
theorem dX7_digest_204 : decode cX7_digest 204 = .ok (.iconst 0, 1) := by decide +kernel
theorem dX7_digest_205 : decode cX7_digest 205 = .ok (.istore 4, 2) := by decide +kernel
theorem dX7_digest_207 : decode cX7_digest 207 = .ok (.iload 4, 2) := by decide +kernel
theorem dX7_digest_209 : decode cX7_digest 209 = .ok (.iconst 2, 1) := by decide +kernel
theorem dX7_digest_210 : decode cX7_digest 210 = .ok (.if_icmp .gt 22, 3) := by decide +kernel
theorem dX7_digest_213 : decode cX7_digest 213 = .ok (.lload_n 1, 1) := by decide +kernel
theorem dX7_digest_214 : decode cX7_digest 214 = .ok (.aload_n 0, 1) := by decide +kernel
theorem dX7_digest_215 : decode cX7_digest 215 = .ok (.iload_n 3, 1) := by decide +kernel
theorem dX7_digest_216 : decode cX7_digest 216 = .ok (.iload 4, 2) := by decide +kernel
theorem dX7_digest_218 : decode cX7_digest 218 = .ok (.invokevirtual 188, 3) := by decide +kernel
theorem dX7_digest_221 : decode cX7_digest 221 = .ok (.i2l, 1) := by decide +kernel
theorem dX7_digest_222 : decode cX7_digest 222 = .ok (.invokestatic 221, 3) := by decide +kernel
theorem dX7_digest_225 : decode cX7_digest 225 = .ok (.lstore_n 1, 1) := by decide +kernel
theorem dX7_digest_226 : decode cX7_digest 226 = .ok (.iinc 4 1, 3) := by decide +kernel
theorem dX7_digest_229 : decode cX7_digest 229 = .ok (.goto (-22), 3) := by decide +kernel
theorem dX7_digest_232 : decode cX7_digest 232 = .ok (.iinc 3 1, 3) := by decide +kernel
theorem dX7_digest_235 : decode cX7_digest 235 = .ok (.goto (-37), 3) := by decide +kernel
theorem dX7_digest_238 : decode cX7_digest 238 = .ok (.lload_n 1, 1) := by decide +kernel
theorem dX7_digest_239 : decode cX7_digest 239 = .ok (.aload_n 0, 1) := by decide +kernel
theorem dX7_digest_240 : decode cX7_digest 240 = .ok (.invokevirtual 233, 3) := by decide +kernel
theorem dX7_digest_243 : decode cX7_digest 243 = .ok (.i2l, 1) := by decide +kernel
theorem dX7_digest_244 : decode cX7_digest 244 = .ok (.invokestatic 221, 3) := by decide +kernel
theorem dX7_digest_247 : decode cX7_digest 247 = .ok (.lreturn, 1) := by decide +kernel
theorem dX7_checkCell_0 : decode cX7_checkCell 0 = .ok (.iload_n 0, 1) := by decide +kernel
theorem dX7_checkCell_1 : decode cX7_checkCell 1 = .ok (.ifCond .lt 9, 3) := by decide +kernel
theorem dX7_checkCell_4 : decode cX7_checkCell 4 = .ok (.iload_n 0, 1) := by decide +kernel
theorem dX7_checkCell_5 : decode cX7_checkCell 5 = .ok (.bipush 8, 2) := by decide +kernel
theorem dX7_checkCell_7 : decode cX7_checkCell 7 = .ok (.if_icmp .lt 13, 3) := by decide +kernel
theorem dX7_checkCell_10 : decode cX7_checkCell 10 = .ok (.new 163, 3) := by decide +kernel
theorem dX7_checkCell_13 : decode cX7_checkCell 13 = .ok (.dup, 1) := by decide +kernel
theorem dX7_checkCell_14 : decode cX7_checkCell 14 = .ok (.ldc 236, 2) := by decide +kernel
theorem dX7_checkCell_16 : decode cX7_checkCell 16 = .ok (.invokespecial 167, 3) := by decide +kernel
theorem dX7_checkCell_19 : decode cX7_checkCell 19 = .ok (.athrow, 1) := by decide +kernel
theorem dX7_checkCell_20 : decode cX7_checkCell 20 = .ok (.iload_n 1, 1) := by decide +kernel
theorem dX7_checkCell_21 : decode cX7_checkCell 21 = .ok (.invokestatic 107, 3) := by decide +kernel
theorem dX7_checkCell_24 : decode cX7_checkCell 24 = .ok (.return_, 1) := by decide +kernel
theorem dX7_checkRow_0 : decode cX7_checkRow 0 = .ok (.iload_n 0, 1) := by decide +kernel
theorem dX7_checkRow_1 : decode cX7_checkRow 1 = .ok (.ifCond .lt 9, 3) := by decide +kernel
theorem dX7_checkRow_4 : decode cX7_checkRow 4 = .ok (.iload_n 0, 1) := by decide +kernel
theorem dX7_checkRow_5 : decode cX7_checkRow 5 = .ok (.bipush 6, 2) := by decide +kernel
theorem dX7_checkRow_7 : decode cX7_checkRow 7 = .ok (.if_icmp .lt 13, 3) := by decide +kernel
theorem dX7_checkRow_10 : decode cX7_checkRow 10 = .ok (.new 163, 3) := by decide +kernel
theorem dX7_checkRow_13 : decode cX7_checkRow 13 = .ok (.dup, 1) := by decide +kernel
theorem dX7_checkRow_14 : decode cX7_checkRow 14 = .ok (.ldc 238, 2) := by decide +kernel
theorem dX7_checkRow_16 : decode cX7_checkRow 16 = .ok (.invokespecial 167, 3) := by decide +kernel
theorem dX7_checkRow_19 : decode cX7_checkRow 19 = .ok (.athrow, 1) := by decide +kernel
theorem dX7_checkRow_20 : decode cX7_checkRow 20 = .ok (.return_, 1) := by decide +kernel
theorem dX7_checkStrength_0 : decode cX7_checkStrength 0 = .ok (.iload_n 0, 1) := by decide +kernel
theorem dX7_checkStrength_1 : decode cX7_checkStrength 1 = .ok (.iconst 1, 1) := by decide +kernel
theorem dX7_checkStrength_2 : decode cX7_checkStrength 2 = .ok (.if_icmp .lt 10, 3) := by decide +kernel
theorem dX7_checkStrength_5 : decode cX7_checkStrength 5 = .ok (.iload_n 0, 1) := by decide +kernel
theorem dX7_checkStrength_6 : decode cX7_checkStrength 6 = .ok (.sipush 200, 3) := by decide +kernel
theorem dX7_checkStrength_9 : decode cX7_checkStrength 9 = .ok (.if_icmp .le 13, 3) := by decide +kernel
theorem dX7_checkStrength_12 : decode cX7_checkStrength 12 = .ok (.new 59, 3) := by decide +kernel
theorem dX7_checkStrength_15 : decode cX7_checkStrength 15 = .ok (.dup, 1) := by decide +kernel
theorem dX7_checkStrength_16 : decode cX7_checkStrength 16 = .ok (.ldc 240, 2) := by decide +kernel
theorem dX7_checkStrength_18 : decode cX7_checkStrength 18 = .ok (.invokespecial 63, 3) := by decide +kernel
theorem dX7_checkStrength_21 : decode cX7_checkStrength 21 = .ok (.athrow, 1) := by decide +kernel
theorem dX7_checkStrength_22 : decode cX7_checkStrength 22 = .ok (.return_, 1) := by decide +kernel
theorem dX7_checkWhat_0 : decode cX7_checkWhat 0 = .ok (.iload_n 0, 1) := by decide +kernel
theorem dX7_checkWhat_1 : decode cX7_checkWhat 1 = .ok (.ifCond .lt 8, 3) := by decide +kernel
theorem dX7_checkWhat_4 : decode cX7_checkWhat 4 = .ok (.iload_n 0, 1) := by decide +kernel
theorem dX7_checkWhat_5 : decode cX7_checkWhat 5 = .ok (.iload_n 1, 1) := by decide +kernel
theorem dX7_checkWhat_6 : decode cX7_checkWhat 6 = .ok (.if_icmp .le 13, 3) := by decide +kernel
theorem dX7_checkWhat_9 : decode cX7_checkWhat 9 = .ok (.new 59, 3) := by decide +kernel
theorem dX7_checkWhat_12 : decode cX7_checkWhat 12 = .ok (.dup, 1) := by decide +kernel
theorem dX7_checkWhat_13 : decode cX7_checkWhat 13 = .ok (.ldc 242, 2) := by decide +kernel
theorem dX7_checkWhat_15 : decode cX7_checkWhat 15 = .ok (.invokespecial 63, 3) := by decide +kernel
theorem dX7_checkWhat_18 : decode cX7_checkWhat 18 = .ok (.athrow, 1) := by decide +kernel
theorem dX7_checkWhat_19 : decode cX7_checkWhat 19 = .ok (.return_, 1) := by decide +kernel
theorem dX7_checkName_0 : decode cX7_checkName 0 = .ok (.aload_n 0, 1) := by decide +kernel
theorem dX7_checkName_1 : decode cX7_checkName 1 = .ok (.getfield 48, 3) := by decide +kernel
theorem dX7_checkName_4 : decode cX7_checkName 4 = .ok (.iload_n 1, 1) := by decide +kernel
theorem dX7_checkName_5 : decode cX7_checkName 5 = .ok (.invokevirtual 225, 3) := by decide +kernel
theorem dX7_checkName_8 : decode cX7_checkName 8 = .ok (.ifCond .ne 13, 3) := by decide +kernel
theorem dX7_checkName_11 : decode cX7_checkName 11 = .ok (.new 163, 3) := by decide +kernel
theorem dX7_checkName_14 : decode cX7_checkName 14 = .ok (.dup, 1) := by decide +kernel
theorem dX7_checkName_15 : decode cX7_checkName 15 = .ok (.ldc 244, 2) := by decide +kernel
theorem dX7_checkName_17 : decode cX7_checkName 17 = .ok (.invokespecial 167, 3) := by decide +kernel
theorem dX7_checkName_20 : decode cX7_checkName 20 = .ok (.athrow, 1) := by decide +kernel
theorem dX7_checkName_21 : decode cX7_checkName 21 = .ok (.return_, 1) := by decide +kernel
theorem dX7_cellAnswer_0 : decode cX7_cellAnswer 0 = .ok (.iload_n 2, 1) := by decide +kernel
theorem dX7_cellAnswer_1 : decode cX7_cellAnswer 1 = .ok (.tableswitch 77 0 3 #[31, 40, 50, 60], 31) := by decide +kernel
theorem dX7_cellAnswer_32 : decode cX7_cellAnswer 32 = .ok (.aload_n 0, 1) := by decide +kernel
theorem dX7_cellAnswer_33 : decode cX7_cellAnswer 33 = .ok (.getfield 10, 3) := by decide +kernel
theorem dX7_cellAnswer_36 : decode cX7_cellAnswer 36 = .ok (.iload_n 1, 1) := by decide +kernel
theorem dX7_cellAnswer_37 : decode cX7_cellAnswer 37 = .ok (.invokevirtual 246, 3) := by decide +kernel
theorem dX7_cellAnswer_40 : decode cX7_cellAnswer 40 = .ok (.ireturn, 1) := by decide +kernel
theorem dX7_cellAnswer_41 : decode cX7_cellAnswer 41 = .ok (.aload_n 0, 1) := by decide +kernel
theorem dX7_cellAnswer_42 : decode cX7_cellAnswer 42 = .ok (.getfield 10, 3) := by decide +kernel
theorem dX7_cellAnswer_45 : decode cX7_cellAnswer 45 = .ok (.getfield 249, 3) := by decide +kernel
theorem dX7_cellAnswer_48 : decode cX7_cellAnswer 48 = .ok (.iload_n 1, 1) := by decide +kernel
theorem dX7_cellAnswer_49 : decode cX7_cellAnswer 49 = .ok (.iaload, 1) := by decide +kernel
theorem dX7_cellAnswer_50 : decode cX7_cellAnswer 50 = .ok (.ireturn, 1) := by decide +kernel
theorem dX7_cellAnswer_51 : decode cX7_cellAnswer 51 = .ok (.aload_n 0, 1) := by decide +kernel
theorem dX7_cellAnswer_52 : decode cX7_cellAnswer 52 = .ok (.getfield 19, 3) := by decide +kernel
theorem dX7_cellAnswer_55 : decode cX7_cellAnswer 55 = .ok (.getfield 103, 3) := by decide +kernel
theorem dX7_cellAnswer_58 : decode cX7_cellAnswer 58 = .ok (.iload_n 1, 1) := by decide +kernel
theorem dX7_cellAnswer_59 : decode cX7_cellAnswer 59 = .ok (.iaload, 1) := by decide +kernel
theorem dX7_cellAnswer_60 : decode cX7_cellAnswer 60 = .ok (.ireturn, 1) := by decide +kernel
theorem dX7_cellAnswer_61 : decode cX7_cellAnswer 61 = .ok (.aload_n 0, 1) := by decide +kernel
theorem dX7_cellAnswer_62 : decode cX7_cellAnswer 62 = .ok (.getfield 19, 3) := by decide +kernel
theorem dX7_cellAnswer_65 : decode cX7_cellAnswer 65 = .ok (.iload_n 1, 1) := by decide +kernel
theorem dX7_cellAnswer_66 : decode cX7_cellAnswer 66 = .ok (.invokevirtual 252, 3) := by decide +kernel
theorem dX7_cellAnswer_69 : decode cX7_cellAnswer 69 = .ok (.ifCond .eq 7, 3) := by decide +kernel
theorem dX7_cellAnswer_72 : decode cX7_cellAnswer 72 = .ok (.iconst 1, 1) := by decide +kernel
theorem dX7_cellAnswer_73 : decode cX7_cellAnswer 73 = .ok (.goto 4, 3) := by decide +kernel
theorem dX7_cellAnswer_76 : decode cX7_cellAnswer 76 = .ok (.iconst 0, 1) := by decide +kernel
theorem dX7_cellAnswer_77 : decode cX7_cellAnswer 77 = .ok (.ireturn, 1) := by decide +kernel
theorem dX7_cellAnswer_78 : decode cX7_cellAnswer 78 = .ok (.aload_n 0, 1) := by decide +kernel
theorem dX7_cellAnswer_79 : decode cX7_cellAnswer 79 = .ok (.getfield 19, 3) := by decide +kernel
theorem dX7_cellAnswer_82 : decode cX7_cellAnswer 82 = .ok (.getfield 255, 3) := by decide +kernel
theorem dX7_cellAnswer_85 : decode cX7_cellAnswer 85 = .ok (.iload_n 1, 1) := by decide +kernel
theorem dX7_cellAnswer_86 : decode cX7_cellAnswer 86 = .ok (.iaload, 1) := by decide +kernel
theorem dX7_cellAnswer_87 : decode cX7_cellAnswer 87 = .ok (.ireturn, 1) := by decide +kernel
theorem dX7_peakAnswer_0 : decode cX7_peakAnswer 0 = .ok (.iload_n 2, 1) := by decide +kernel
theorem dX7_peakAnswer_1 : decode cX7_peakAnswer 1 = .ok (.tableswitch 70 0 3 #[31, 41, 51, 61], 31) := by decide +kernel
theorem dX7_peakAnswer_32 : decode cX7_peakAnswer 32 = .ok (.aload_n 0, 1) := by decide +kernel
theorem dX7_peakAnswer_33 : decode cX7_peakAnswer 33 = .ok (.getfield 19, 3) := by decide +kernel
theorem dX7_peakAnswer_36 : decode cX7_peakAnswer 36 = .ok (.getfield 258, 3) := by decide +kernel
theorem dX7_peakAnswer_39 : decode cX7_peakAnswer 39 = .ok (.iload_n 1, 1) := by decide +kernel
theorem dX7_peakAnswer_40 : decode cX7_peakAnswer 40 = .ok (.iaload, 1) := by decide +kernel
theorem dX7_peakAnswer_41 : decode cX7_peakAnswer 41 = .ok (.ireturn, 1) := by decide +kernel
theorem dX7_peakAnswer_42 : decode cX7_peakAnswer 42 = .ok (.aload_n 0, 1) := by decide +kernel
theorem dX7_peakAnswer_43 : decode cX7_peakAnswer 43 = .ok (.getfield 19, 3) := by decide +kernel
theorem dX7_peakAnswer_46 : decode cX7_peakAnswer 46 = .ok (.getfield 261, 3) := by decide +kernel
theorem dX7_peakAnswer_49 : decode cX7_peakAnswer 49 = .ok (.iload_n 1, 1) := by decide +kernel
theorem dX7_peakAnswer_50 : decode cX7_peakAnswer 50 = .ok (.iaload, 1) := by decide +kernel
theorem dX7_peakAnswer_51 : decode cX7_peakAnswer 51 = .ok (.ireturn, 1) := by decide +kernel
theorem dX7_peakAnswer_52 : decode cX7_peakAnswer 52 = .ok (.aload_n 0, 1) := by decide +kernel
theorem dX7_peakAnswer_53 : decode cX7_peakAnswer 53 = .ok (.getfield 19, 3) := by decide +kernel
theorem dX7_peakAnswer_56 : decode cX7_peakAnswer 56 = .ok (.getfield 264, 3) := by decide +kernel
theorem dX7_peakAnswer_59 : decode cX7_peakAnswer 59 = .ok (.iload_n 1, 1) := by decide +kernel
theorem dX7_peakAnswer_60 : decode cX7_peakAnswer 60 = .ok (.iaload, 1) := by decide +kernel
theorem dX7_peakAnswer_61 : decode cX7_peakAnswer 61 = .ok (.ireturn, 1) := by decide +kernel
theorem dX7_peakAnswer_62 : decode cX7_peakAnswer 62 = .ok (.aload_n 0, 1) := by decide +kernel
theorem dX7_peakAnswer_63 : decode cX7_peakAnswer 63 = .ok (.getfield 19, 3) := by decide +kernel
theorem dX7_peakAnswer_66 : decode cX7_peakAnswer 66 = .ok (.iload_n 1, 1) := by decide +kernel
theorem dX7_peakAnswer_67 : decode cX7_peakAnswer 67 = .ok (.invokevirtual 267, 3) := by decide +kernel
theorem dX7_peakAnswer_70 : decode cX7_peakAnswer 70 = .ok (.ireturn, 1) := by decide +kernel
theorem dX7_peakAnswer_71 : decode cX7_peakAnswer 71 = .ok (.aload_n 0, 1) := by decide +kernel
theorem dX7_peakAnswer_72 : decode cX7_peakAnswer 72 = .ok (.getfield 19, 3) := by decide +kernel
theorem dX7_peakAnswer_75 : decode cX7_peakAnswer 75 = .ok (.iload_n 1, 1) := by decide +kernel
theorem dX7_peakAnswer_76 : decode cX7_peakAnswer 76 = .ok (.invokevirtual 270, 3) := by decide +kernel
theorem dX7_peakAnswer_79 : decode cX7_peakAnswer 79 = .ok (.ifCond .eq 7, 3) := by decide +kernel
theorem dX7_peakAnswer_82 : decode cX7_peakAnswer 82 = .ok (.iconst 1, 1) := by decide +kernel
theorem dX7_peakAnswer_83 : decode cX7_peakAnswer 83 = .ok (.goto 4, 3) := by decide +kernel
theorem dX7_peakAnswer_86 : decode cX7_peakAnswer 86 = .ok (.iconst 0, 1) := by decide +kernel
theorem dX7_peakAnswer_87 : decode cX7_peakAnswer 87 = .ok (.ireturn, 1) := by decide +kernel
theorem dX7_contactAnswer_0 : decode cX7_contactAnswer 0 = .ok (.iload_n 1, 1) := by decide +kernel
theorem dX7_contactAnswer_1 : decode cX7_contactAnswer 1 = .ok (.tableswitch 60 0 4 #[35, 40, 45, 50, 55], 35) := by decide +kernel
theorem dX7_contactAnswer_36 : decode cX7_contactAnswer 36 = .ok (.aload_n 0, 1) := by decide +kernel
theorem dX7_contactAnswer_37 : decode cX7_contactAnswer 37 = .ok (.getfield 273, 3) := by decide +kernel
theorem dX7_contactAnswer_40 : decode cX7_contactAnswer 40 = .ok (.ireturn, 1) := by decide +kernel
theorem dX7_contactAnswer_41 : decode cX7_contactAnswer 41 = .ok (.aload_n 0, 1) := by decide +kernel
theorem dX7_contactAnswer_42 : decode cX7_contactAnswer 42 = .ok (.getfield 276, 3) := by decide +kernel
theorem dX7_contactAnswer_45 : decode cX7_contactAnswer 45 = .ok (.ireturn, 1) := by decide +kernel
theorem dX7_contactAnswer_46 : decode cX7_contactAnswer 46 = .ok (.aload_n 0, 1) := by decide +kernel
theorem dX7_contactAnswer_47 : decode cX7_contactAnswer 47 = .ok (.getfield 279, 3) := by decide +kernel
theorem dX7_contactAnswer_50 : decode cX7_contactAnswer 50 = .ok (.ireturn, 1) := by decide +kernel
theorem dX7_contactAnswer_51 : decode cX7_contactAnswer 51 = .ok (.aload_n 0, 1) := by decide +kernel
theorem dX7_contactAnswer_52 : decode cX7_contactAnswer 52 = .ok (.getfield 282, 3) := by decide +kernel
theorem dX7_contactAnswer_55 : decode cX7_contactAnswer 55 = .ok (.ireturn, 1) := by decide +kernel
theorem dX7_contactAnswer_56 : decode cX7_contactAnswer 56 = .ok (.aload_n 0, 1) := by decide +kernel
theorem dX7_contactAnswer_57 : decode cX7_contactAnswer 57 = .ok (.getfield 285, 3) := by decide +kernel
theorem dX7_contactAnswer_60 : decode cX7_contactAnswer 60 = .ok (.ireturn, 1) := by decide +kernel
theorem dX7_contactAnswer_61 : decode cX7_contactAnswer 61 = .ok (.aload_n 0, 1) := by decide +kernel
theorem dX7_contactAnswer_62 : decode cX7_contactAnswer 62 = .ok (.getfield 288, 3) := by decide +kernel
theorem dX7_contactAnswer_65 : decode cX7_contactAnswer 65 = .ok (.ireturn, 1) := by decide +kernel
theorem dX7_whereAnswer_0 : decode cX7_whereAnswer 0 = .ok (.iload_n 1, 1) := by decide +kernel
theorem dX7_whereAnswer_1 : decode cX7_whereAnswer 1 = .ok (.tableswitch 55 0 3 #[31, 37, 43, 49], 31) := by decide +kernel
theorem dX7_whereAnswer_32 : decode cX7_whereAnswer 32 = .ok (.aload_n 0, 1) := by decide +kernel
theorem dX7_whereAnswer_33 : decode cX7_whereAnswer 33 = .ok (.getfield 291, 3) := by decide +kernel
theorem dX7_whereAnswer_36 : decode cX7_whereAnswer 36 = .ok (.f2d, 1) := by decide +kernel
theorem dX7_whereAnswer_37 : decode cX7_whereAnswer 37 = .ok (.dreturn, 1) := by decide +kernel
theorem dX7_whereAnswer_38 : decode cX7_whereAnswer 38 = .ok (.aload_n 0, 1) := by decide +kernel
theorem dX7_whereAnswer_39 : decode cX7_whereAnswer 39 = .ok (.getfield 295, 3) := by decide +kernel
theorem dX7_whereAnswer_42 : decode cX7_whereAnswer 42 = .ok (.f2d, 1) := by decide +kernel
theorem dX7_whereAnswer_43 : decode cX7_whereAnswer 43 = .ok (.dreturn, 1) := by decide +kernel
theorem dX7_whereAnswer_44 : decode cX7_whereAnswer 44 = .ok (.aload_n 0, 1) := by decide +kernel
theorem dX7_whereAnswer_45 : decode cX7_whereAnswer 45 = .ok (.getfield 298, 3) := by decide +kernel
theorem dX7_whereAnswer_48 : decode cX7_whereAnswer 48 = .ok (.f2d, 1) := by decide +kernel
theorem dX7_whereAnswer_49 : decode cX7_whereAnswer 49 = .ok (.dreturn, 1) := by decide +kernel
theorem dX7_whereAnswer_50 : decode cX7_whereAnswer 50 = .ok (.aload_n 0, 1) := by decide +kernel
theorem dX7_whereAnswer_51 : decode cX7_whereAnswer 51 = .ok (.getfield 301, 3) := by decide +kernel
theorem dX7_whereAnswer_54 : decode cX7_whereAnswer 54 = .ok (.f2d, 1) := by decide +kernel
theorem dX7_whereAnswer_55 : decode cX7_whereAnswer 55 = .ok (.dreturn, 1) := by decide +kernel
theorem dX7_whereAnswer_56 : decode cX7_whereAnswer 56 = .ok (.aload_n 0, 1) := by decide +kernel
theorem dX7_whereAnswer_57 : decode cX7_whereAnswer 57 = .ok (.getfield 304, 3) := by decide +kernel
theorem dX7_whereAnswer_60 : decode cX7_whereAnswer 60 = .ok (.f2d, 1) := by decide +kernel
theorem dX7_whereAnswer_61 : decode cX7_whereAnswer 61 = .ok (.dreturn, 1) := by decide +kernel
theorem dX7_rowAnswer_0 : decode cX7_rowAnswer 0 = .ok (.iload_n 2, 1) := by decide +kernel
theorem dX7_rowAnswer_1 : decode cX7_rowAnswer 1 = .ok (.lookupswitch 45 #[(0, 27), (1, 36)], 27) := by decide +kernel
theorem dX7_rowAnswer_28 : decode cX7_rowAnswer 28 = .ok (.aload_n 0, 1) := by decide +kernel
theorem dX7_rowAnswer_29 : decode cX7_rowAnswer 29 = .ok (.getfield 19, 3) := by decide +kernel
theorem dX7_rowAnswer_32 : decode cX7_rowAnswer 32 = .ok (.iload_n 1, 1) := by decide +kernel
theorem dX7_rowAnswer_33 : decode cX7_rowAnswer 33 = .ok (.invokevirtual 307, 3) := by decide +kernel
theorem dX7_rowAnswer_36 : decode cX7_rowAnswer 36 = .ok (.ireturn, 1) := by decide +kernel
theorem dX7_rowAnswer_37 : decode cX7_rowAnswer 37 = .ok (.aload_n 0, 1) := by decide +kernel
theorem dX7_rowAnswer_38 : decode cX7_rowAnswer 38 = .ok (.getfield 19, 3) := by decide +kernel
theorem dX7_rowAnswer_41 : decode cX7_rowAnswer 41 = .ok (.iload_n 1, 1) := by decide +kernel
theorem dX7_rowAnswer_42 : decode cX7_rowAnswer 42 = .ok (.invokevirtual 310, 3) := by decide +kernel
theorem dX7_rowAnswer_45 : decode cX7_rowAnswer 45 = .ok (.ireturn, 1) := by decide +kernel
theorem dX7_rowAnswer_46 : decode cX7_rowAnswer 46 = .ok (.aload_n 0, 1) := by decide +kernel
theorem dX7_rowAnswer_47 : decode cX7_rowAnswer 47 = .ok (.getfield 19, 3) := by decide +kernel
theorem dX7_rowAnswer_50 : decode cX7_rowAnswer 50 = .ok (.iload_n 1, 1) := by decide +kernel
theorem dX7_rowAnswer_51 : decode cX7_rowAnswer 51 = .ok (.invokevirtual 313, 3) := by decide +kernel
theorem dX7_rowAnswer_54 : decode cX7_rowAnswer 54 = .ok (.ireturn, 1) := by decide +kernel
theorem dX7_areaAnswer_0 : decode cX7_areaAnswer 0 = .ok (.iload_n 2, 1) := by decide +kernel
theorem dX7_areaAnswer_1 : decode cX7_areaAnswer 1 = .ok (.iconst 4, 1) := by decide +kernel
theorem dX7_areaAnswer_2 : decode cX7_areaAnswer 2 = .ok (.if_icmp .ge 15, 3) := by decide +kernel
theorem dX7_areaAnswer_5 : decode cX7_areaAnswer 5 = .ok (.aload_n 0, 1) := by decide +kernel
theorem dX7_areaAnswer_6 : decode cX7_areaAnswer 6 = .ok (.getfield 39, 3) := by decide +kernel
theorem dX7_areaAnswer_9 : decode cX7_areaAnswer 9 = .ok (.iload_n 1, 1) := by decide +kernel
theorem dX7_areaAnswer_10 : decode cX7_areaAnswer 10 = .ok (.iload_n 2, 1) := by decide +kernel
theorem dX7_areaAnswer_11 : decode cX7_areaAnswer 11 = .ok (.invokevirtual 316, 3) := by decide +kernel
theorem dX7_areaAnswer_14 : decode cX7_areaAnswer 14 = .ok (.goto 11, 3) := by decide +kernel
theorem dX7_areaAnswer_17 : decode cX7_areaAnswer 17 = .ok (.aload_n 0, 1) := by decide +kernel
theorem dX7_areaAnswer_18 : decode cX7_areaAnswer 18 = .ok (.getfield 48, 3) := by decide +kernel
theorem dX7_areaAnswer_21 : decode cX7_areaAnswer 21 = .ok (.iload_n 1, 1) := by decide +kernel
theorem dX7_areaAnswer_22 : decode cX7_areaAnswer 22 = .ok (.invokevirtual 319, 3) := by decide +kernel
theorem dX7_areaAnswer_25 : decode cX7_areaAnswer 25 = .ok (.ireturn, 1) := by decide +kernel
theorem dX7_manyAnswer_0 : decode cX7_manyAnswer 0 = .ok (.iload_n 1, 1) := by decide +kernel
theorem dX7_manyAnswer_1 : decode cX7_manyAnswer 1 = .ok (.tableswitch 117 0 8 #[51, 56, 61, 69, 77, 85, 93, 101, 109], 51) := by decide +kernel
theorem dX7_manyAnswer_52 : decode cX7_manyAnswer 52 = .ok (.aload_n 0, 1) := by decide +kernel
theorem dX7_manyAnswer_53 : decode cX7_manyAnswer 53 = .ok (.getfield 121, 3) := by decide +kernel
theorem dX7_manyAnswer_56 : decode cX7_manyAnswer 56 = .ok (.ireturn, 1) := by decide +kernel
theorem dX7_manyAnswer_57 : decode cX7_manyAnswer 57 = .ok (.aload_n 0, 1) := by decide +kernel
theorem dX7_manyAnswer_58 : decode cX7_manyAnswer 58 = .ok (.getfield 118, 3) := by decide +kernel
theorem dX7_manyAnswer_61 : decode cX7_manyAnswer 61 = .ok (.ireturn, 1) := by decide +kernel
theorem dX7_manyAnswer_62 : decode cX7_manyAnswer 62 = .ok (.aload_n 0, 1) := by decide +kernel
theorem dX7_manyAnswer_63 : decode cX7_manyAnswer 63 = .ok (.getfield 48, 3) := by decide +kernel
theorem dX7_manyAnswer_66 : decode cX7_manyAnswer 66 = .ok (.invokevirtual 143, 3) := by decide +kernel
theorem dX7_manyAnswer_69 : decode cX7_manyAnswer 69 = .ok (.ireturn, 1) := by decide +kernel
theorem dX7_manyAnswer_70 : decode cX7_manyAnswer 70 = .ok (.aload_n 0, 1) := by decide +kernel
theorem dX7_manyAnswer_71 : decode cX7_manyAnswer 71 = .ok (.getfield 48, 3) := by decide +kernel
theorem dX7_manyAnswer_74 : decode cX7_manyAnswer 74 = .ok (.getfield 322, 3) := by decide +kernel
theorem dX7_manyAnswer_77 : decode cX7_manyAnswer 77 = .ok (.ireturn, 1) := by decide +kernel
theorem dX7_manyAnswer_78 : decode cX7_manyAnswer 78 = .ok (.aload_n 0, 1) := by decide +kernel
theorem dX7_manyAnswer_79 : decode cX7_manyAnswer 79 = .ok (.getfield 48, 3) := by decide +kernel
theorem dX7_manyAnswer_82 : decode cX7_manyAnswer 82 = .ok (.getfield 325, 3) := by decide +kernel
theorem dX7_manyAnswer_85 : decode cX7_manyAnswer 85 = .ok (.ireturn, 1) := by decide +kernel
theorem dX7_manyAnswer_86 : decode cX7_manyAnswer 86 = .ok (.aload_n 0, 1) := by decide +kernel
theorem dX7_manyAnswer_87 : decode cX7_manyAnswer 87 = .ok (.getfield 48, 3) := by decide +kernel
theorem dX7_manyAnswer_90 : decode cX7_manyAnswer 90 = .ok (.getfield 328, 3) := by decide +kernel
theorem dX7_manyAnswer_93 : decode cX7_manyAnswer 93 = .ok (.ireturn, 1) := by decide +kernel
theorem dX7_manyAnswer_94 : decode cX7_manyAnswer 94 = .ok (.aload_n 0, 1) := by decide +kernel
theorem dX7_manyAnswer_95 : decode cX7_manyAnswer 95 = .ok (.getfield 39, 3) := by decide +kernel
theorem dX7_manyAnswer_98 : decode cX7_manyAnswer 98 = .ok (.getfield 66, 3) := by decide +kernel
theorem dX7_manyAnswer_101 : decode cX7_manyAnswer 101 = .ok (.ireturn, 1) := by decide +kernel
theorem dX7_manyAnswer_102 : decode cX7_manyAnswer 102 = .ok (.aload_n 0, 1) := by decide +kernel
theorem dX7_manyAnswer_103 : decode cX7_manyAnswer 103 = .ok (.getfield 19, 3) := by decide +kernel
theorem dX7_manyAnswer_106 : decode cX7_manyAnswer 106 = .ok (.getfield 115, 3) := by decide +kernel
theorem dX7_manyAnswer_109 : decode cX7_manyAnswer 109 = .ok (.ireturn, 1) := by decide +kernel
theorem dX7_manyAnswer_110 : decode cX7_manyAnswer 110 = .ok (.aload_n 0, 1) := by decide +kernel
theorem dX7_manyAnswer_111 : decode cX7_manyAnswer 111 = .ok (.getfield 19, 3) := by decide +kernel
theorem dX7_manyAnswer_114 : decode cX7_manyAnswer 114 = .ok (.getfield 160, 3) := by decide +kernel
theorem dX7_manyAnswer_117 : decode cX7_manyAnswer 117 = .ok (.ireturn, 1) := by decide +kernel
theorem dX7_manyAnswer_118 : decode cX7_manyAnswer 118 = .ok (.aload_n 0, 1) := by decide +kernel
theorem dX7_manyAnswer_119 : decode cX7_manyAnswer 119 = .ok (.getfield 19, 3) := by decide +kernel
theorem dX7_manyAnswer_122 : decode cX7_manyAnswer 122 = .ok (.invokevirtual 331, 3) := by decide +kernel
theorem dX7_manyAnswer_125 : decode cX7_manyAnswer 125 = .ok (.ireturn, 1) := by decide +kernel
theorem dX7_matchIn_0 : decode cX7_matchIn 0 = .ok (.aload_n 1, 1) := by decide +kernel
theorem dX7_matchIn_1 : decode cX7_matchIn 1 = .ok (.getfield 115, 3) := by decide +kernel
theorem dX7_matchIn_4 : decode cX7_matchIn 4 = .ok (.aload_n 0, 1) := by decide +kernel
theorem dX7_matchIn_5 : decode cX7_matchIn 5 = .ok (.getfield 56, 3) := by decide +kernel
theorem dX7_matchIn_8 : decode cX7_matchIn 8 = .ok (.if_icmp .le 5, 3) := by decide +kernel
theorem dX7_matchIn_11 : decode cX7_matchIn 11 = .ok (.iconst (-1), 1) := by decide +kernel
theorem dX7_matchIn_12 : decode cX7_matchIn 12 = .ok (.ireturn, 1) := by decide +kernel
theorem dX7_matchIn_13 : decode cX7_matchIn 13 = .ok (.aload_n 0, 1) := by decide +kernel
theorem dX7_matchIn_14 : decode cX7_matchIn 14 = .ok (.getfield 32, 3) := by decide +kernel
theorem dX7_matchIn_17 : decode cX7_matchIn 17 = .ok (.aload_n 1, 1) := by decide +kernel
theorem dX7_matchIn_18 : decode cX7_matchIn 18 = .ok (.aload_n 0, 1) := by decide +kernel
theorem dX7_matchIn_19 : decode cX7_matchIn 19 = .ok (.getfield 48, 3) := by decide +kernel
theorem dX7_matchIn_22 : decode cX7_matchIn 22 = .ok (.getfield 124, 3) := by decide +kernel
theorem dX7_matchIn_25 : decode cX7_matchIn 25 = .ok (.invokevirtual 128, 3) := by decide +kernel
theorem dX7_matchIn_28 : decode cX7_matchIn 28 = .ok (.aload_n 0, 1) := by decide +kernel
theorem dX7_matchIn_29 : decode cX7_matchIn 29 = .ok (.getfield 32, 3) := by decide +kernel
theorem dX7_matchIn_32 : decode cX7_matchIn 32 = .ok (.iload_n 2, 1) := by decide +kernel
theorem dX7_matchIn_33 : decode cX7_matchIn 33 = .ok (.invokevirtual 334, 3) := by decide +kernel
theorem dX7_matchIn_36 : decode cX7_matchIn 36 = .ok (.ireturn, 1) := by decide +kernel
theorem dX7_wouldKeep_0 : decode cX7_wouldKeep 0 = .ok (.aload_n 0, 1) := by decide +kernel
theorem dX7_wouldKeep_1 : decode cX7_wouldKeep 1 = .ok (.getfield 23, 3) := by decide +kernel
theorem dX7_wouldKeep_4 : decode cX7_wouldKeep 4 = .ok (.aload_n 0, 1) := by decide +kernel
theorem dX7_wouldKeep_5 : decode cX7_wouldKeep 5 = .ok (.getfield 10, 3) := by decide +kernel
theorem dX7_wouldKeep_8 : decode cX7_wouldKeep 8 = .ok (.invokevirtual 208, 3) := by decide +kernel
theorem dX7_wouldKeep_11 : decode cX7_wouldKeep 11 = .ok (.aload_n 0, 1) := by decide +kernel
theorem dX7_wouldKeep_12 : decode cX7_wouldKeep 12 = .ok (.getfield 23, 3) := by decide +kernel
theorem dX7_wouldKeep_15 : decode cX7_wouldKeep 15 = .ok (.iload_n 2, 1) := by decide +kernel
theorem dX7_wouldKeep_16 : decode cX7_wouldKeep 16 = .ok (.bipush 8, 2) := by decide +kernel
theorem dX7_wouldKeep_18 : decode cX7_wouldKeep 18 = .ok (.irem, 1) := by decide +kernel
theorem dX7_wouldKeep_19 : decode cX7_wouldKeep 19 = .ok (.iload_n 2, 1) := by decide +kernel
theorem dX7_wouldKeep_20 : decode cX7_wouldKeep 20 = .ok (.bipush 8, 2) := by decide +kernel
theorem dX7_wouldKeep_22 : decode cX7_wouldKeep 22 = .ok (.idiv, 1) := by decide +kernel
theorem dX7_wouldKeep_23 : decode cX7_wouldKeep 23 = .ok (.iload_n 3, 1) := by decide +kernel
theorem dX7_wouldKeep_24 : decode cX7_wouldKeep 24 = .ok (.invokevirtual 99, 3) := by decide +kernel
theorem dX7_wouldKeep_27 : decode cX7_wouldKeep 27 = .ok (.aload_n 0, 1) := by decide +kernel
theorem dX7_wouldKeep_28 : decode cX7_wouldKeep 28 = .ok (.getfield 26, 3) := by decide +kernel
theorem dX7_wouldKeep_31 : decode cX7_wouldKeep 31 = .ok (.aload_n 0, 1) := by decide +kernel
theorem dX7_wouldKeep_32 : decode cX7_wouldKeep 32 = .ok (.getfield 23, 3) := by decide +kernel
theorem dX7_wouldKeep_35 : decode cX7_wouldKeep 35 = .ok (.invokevirtual 87, 3) := by decide +kernel
theorem dX7_wouldKeep_38 : decode cX7_wouldKeep 38 = .ok (.aload_n 0, 1) := by decide +kernel
theorem dX7_wouldKeep_39 : decode cX7_wouldKeep 39 = .ok (.getfield 26, 3) := by decide +kernel
theorem dX7_wouldKeep_42 : decode cX7_wouldKeep 42 = .ok (.iload_n 2, 1) := by decide +kernel
theorem dX7_wouldKeep_43 : decode cX7_wouldKeep 43 = .ok (.invokevirtual 337, 3) := by decide +kernel
theorem dX7_wouldKeep_46 : decode cX7_wouldKeep 46 = .ok (.istore 4, 2) := by decide +kernel
theorem dX7_wouldKeep_48 : decode cX7_wouldKeep 48 = .ok (.iload 4, 2) := by decide +kernel
theorem dX7_wouldKeep_50 : decode cX7_wouldKeep 50 = .ok (.iconst (-1), 1) := by decide +kernel
theorem dX7_wouldKeep_51 : decode cX7_wouldKeep 51 = .ok (.if_icmp .eq 21, 3) := by decide +kernel
theorem dX7_wouldKeep_54 : decode cX7_wouldKeep 54 = .ok (.aload_n 0, 1) := by decide +kernel
theorem dX7_wouldKeep_55 : decode cX7_wouldKeep 55 = .ok (.aload_n 0, 1) := by decide +kernel
theorem dX7_wouldKeep_56 : decode cX7_wouldKeep 56 = .ok (.getfield 26, 3) := by decide +kernel
theorem dX7_wouldKeep_59 : decode cX7_wouldKeep 59 = .ok (.iload_n 1, 1) := by decide +kernel
theorem dX7_wouldKeep_60 : decode cX7_wouldKeep 60 = .ok (.invokevirtual 204, 3) := by decide +kernel
theorem dX7_wouldKeep_63 : decode cX7_wouldKeep 63 = .ok (.iload 4, 2) := by decide +kernel
theorem dX7_wouldKeep_65 : decode cX7_wouldKeep 65 = .ok (.if_icmp .ne 7, 3) := by decide +kernel
theorem dX7_wouldKeep_68 : decode cX7_wouldKeep 68 = .ok (.iconst 1, 1) := by decide +kernel
theorem dX7_wouldKeep_69 : decode cX7_wouldKeep 69 = .ok (.goto 4, 3) := by decide +kernel
theorem dX7_wouldKeep_72 : decode cX7_wouldKeep 72 = .ok (.iconst 0, 1) := by decide +kernel
theorem dX7_wouldKeep_73 : decode cX7_wouldKeep 73 = .ok (.ireturn, 1) := by decide +kernel
theorem dX7_mixed_0 : decode cX7_mixed 0 = .ok (.lload_n 0, 1) := by decide +kernel
theorem dX7_mixed_1 : decode cX7_mixed 1 = .ok (.ldc2_w 340, 3) := by decide +kernel
theorem dX7_mixed_4 : decode cX7_mixed 4 = .ok (.lmul, 1) := by decide +kernel
theorem dX7_mixed_5 : decode cX7_mixed 5 = .ok (.lload_n 2, 1) := by decide +kernel
theorem dX7_mixed_6 : decode cX7_mixed 6 = .ok (.ladd, 1) := by decide +kernel
theorem dX7_mixed_7 : decode cX7_mixed 7 = .ok (.lreturn, 1) := by decide +kernel
theorem dX7_mixedContact_0 : decode cX7_mixedContact 0 = .ok (.aload_n 0, 1) := by decide +kernel
theorem dX7_mixedContact_1 : decode cX7_mixedContact 1 = .ok (.getfield 48, 3) := by decide +kernel
theorem dX7_mixedContact_4 : decode cX7_mixedContact 4 = .ok (.getfield 124, 3) := by decide +kernel
theorem dX7_mixedContact_7 : decode cX7_mixedContact 7 = .ok (.iload_n 3, 1) := by decide +kernel
theorem dX7_mixedContact_8 : decode cX7_mixedContact 8 = .ok (.aaload, 1) := by decide +kernel
theorem dX7_mixedContact_9 : decode cX7_mixedContact 9 = .ok (.astore 4, 2) := by decide +kernel
theorem dX7_mixedContact_11 : decode cX7_mixedContact 11 = .ok (.lload_n 1, 1) := by decide +kernel
theorem dX7_mixedContact_12 : decode cX7_mixedContact 12 = .ok (.iload_n 3, 1) := by decide +kernel
theorem dX7_mixedContact_13 : decode cX7_mixedContact 13 = .ok (.i2l, 1) := by decide +kernel
theorem dX7_mixedContact_14 : decode cX7_mixedContact 14 = .ok (.invokestatic 221, 3) := by decide +kernel
theorem dX7_mixedContact_17 : decode cX7_mixedContact 17 = .ok (.lstore 5, 2) := by decide +kernel
theorem dX7_mixedContact_19 : decode cX7_mixedContact 19 = .ok (.iconst 0, 1) := by decide +kernel
theorem dX7_mixedContact_20 : decode cX7_mixedContact 20 = .ok (.istore 7, 2) := by decide +kernel
theorem dX7_mixedContact_22 : decode cX7_mixedContact 22 = .ok (.iload 7, 2) := by decide +kernel
theorem dX7_mixedContact_24 : decode cX7_mixedContact 24 = .ok (.iconst 5, 1) := by decide +kernel
theorem dX7_mixedContact_25 : decode cX7_mixedContact 25 = .ok (.if_icmp .gt 24, 3) := by decide +kernel
theorem dX7_mixedContact_28 : decode cX7_mixedContact 28 = .ok (.lload 5, 2) := by decide +kernel
theorem dX7_mixedContact_30 : decode cX7_mixedContact 30 = .ok (.aload 4, 2) := by decide +kernel
theorem dX7_mixedContact_32 : decode cX7_mixedContact 32 = .ok (.iload 7, 2) := by decide +kernel
theorem dX7_mixedContact_34 : decode cX7_mixedContact 34 = .ok (.invokestatic 174, 3) := by decide +kernel
theorem dX7_mixedContact_37 : decode cX7_mixedContact 37 = .ok (.i2l, 1) := by decide +kernel
theorem dX7_mixedContact_38 : decode cX7_mixedContact 38 = .ok (.invokestatic 221, 3) := by decide +kernel
theorem dX7_mixedContact_41 : decode cX7_mixedContact 41 = .ok (.lstore 5, 2) := by decide +kernel
theorem dX7_mixedContact_43 : decode cX7_mixedContact 43 = .ok (.iinc 7 1, 3) := by decide +kernel
theorem dX7_mixedContact_46 : decode cX7_mixedContact 46 = .ok (.goto (-24), 3) := by decide +kernel
theorem dX7_mixedContact_49 : decode cX7_mixedContact 49 = .ok (.lload 5, 2) := by decide +kernel
theorem dX7_mixedContact_51 : decode cX7_mixedContact 51 = .ok (.aload_n 0, 1) := by decide +kernel
theorem dX7_mixedContact_52 : decode cX7_mixedContact 52 = .ok (.aload_n 0, 1) := by decide +kernel
theorem dX7_mixedContact_53 : decode cX7_mixedContact 53 = .ok (.getfield 19, 3) := by decide +kernel
theorem dX7_mixedContact_56 : decode cX7_mixedContact 56 = .ok (.iload_n 3, 1) := by decide +kernel
theorem dX7_mixedContact_57 : decode cX7_mixedContact 57 = .ok (.invokevirtual 204, 3) := by decide +kernel
theorem dX7_mixedContact_60 : decode cX7_mixedContact 60 = .ok (.i2l, 1) := by decide +kernel
theorem dX7_mixedContact_61 : decode cX7_mixedContact 61 = .ok (.invokestatic 221, 3) := by decide +kernel
theorem dX7_mixedContact_64 : decode cX7_mixedContact 64 = .ok (.lstore 5, 2) := by decide +kernel
theorem dX7_mixedContact_66 : decode cX7_mixedContact 66 = .ok (.iconst 0, 1) := by decide +kernel
theorem dX7_mixedContact_67 : decode cX7_mixedContact 67 = .ok (.istore 7, 2) := by decide +kernel
theorem dX7_mixedContact_69 : decode cX7_mixedContact 69 = .ok (.iload 7, 2) := by decide +kernel
theorem dX7_mixedContact_71 : decode cX7_mixedContact 71 = .ok (.iconst 4, 1) := by decide +kernel
theorem dX7_mixedContact_72 : decode cX7_mixedContact 72 = .ok (.if_icmp .gt 26, 3) := by decide +kernel
theorem dX7_mixedContact_75 : decode cX7_mixedContact 75 = .ok (.lload 5, 2) := by decide +kernel
theorem dX7_mixedContact_77 : decode cX7_mixedContact 77 = .ok (.aload 4, 2) := by decide +kernel
theorem dX7_mixedContact_79 : decode cX7_mixedContact 79 = .ok (.iload 7, 2) := by decide +kernel
theorem dX7_mixedContact_81 : decode cX7_mixedContact 81 = .ok (.invokestatic 178, 3) := by decide +kernel
theorem dX7_mixedContact_84 : decode cX7_mixedContact 84 = .ok (.invokestatic 342, 3) := by decide +kernel
theorem dX7_mixedContact_87 : decode cX7_mixedContact 87 = .ok (.invokestatic 221, 3) := by decide +kernel
theorem dX7_mixedContact_90 : decode cX7_mixedContact 90 = .ok (.lstore 5, 2) := by decide +kernel
theorem dX7_mixedContact_92 : decode cX7_mixedContact 92 = .ok (.iinc 7 1, 3) := by decide +kernel
theorem dX7_mixedContact_95 : decode cX7_mixedContact 95 = .ok (.goto (-26), 3) := by decide +kernel
theorem dX7_mixedContact_98 : decode cX7_mixedContact 98 = .ok (.lload 5, 2) := by decide +kernel
theorem dX7_mixedContact_100 : decode cX7_mixedContact 100 = .ok (.aload 4, 2) := by decide +kernel
theorem dX7_mixedContact_102 : decode cX7_mixedContact 102 = .ok (.iconst 2, 1) := by decide +kernel
theorem dX7_mixedContact_103 : decode cX7_mixedContact 103 = .ok (.iconst 0, 1) := by decide +kernel
theorem dX7_mixedContact_104 : decode cX7_mixedContact 104 = .ok (.invokevirtual 200, 3) := by decide +kernel
theorem dX7_mixedContact_107 : decode cX7_mixedContact 107 = .ok (.f2d, 1) := by decide +kernel
theorem dX7_mixedContact_108 : decode cX7_mixedContact 108 = .ok (.invokestatic 342, 3) := by decide +kernel
theorem dX7_mixedContact_111 : decode cX7_mixedContact 111 = .ok (.invokestatic 221, 3) := by decide +kernel
theorem dX7_mixedContact_114 : decode cX7_mixedContact 114 = .ok (.lstore 5, 2) := by decide +kernel
theorem dX7_mixedContact_116 : decode cX7_mixedContact 116 = .ok (.lload 5, 2) := by decide +kernel
theorem dX7_mixedContact_118 : decode cX7_mixedContact 118 = .ok (.aload 4, 2) := by decide +kernel
theorem dX7_mixedContact_120 : decode cX7_mixedContact 120 = .ok (.iconst 2, 1) := by decide +kernel
theorem dX7_mixedContact_121 : decode cX7_mixedContact 121 = .ok (.iconst 1, 1) := by decide +kernel
theorem dX7_mixedContact_122 : decode cX7_mixedContact 122 = .ok (.invokevirtual 200, 3) := by decide +kernel
theorem dX7_mixedContact_125 : decode cX7_mixedContact 125 = .ok (.f2d, 1) := by decide +kernel
theorem dX7_mixedContact_126 : decode cX7_mixedContact 126 = .ok (.invokestatic 342, 3) := by decide +kernel
theorem dX7_mixedContact_129 : decode cX7_mixedContact 129 = .ok (.invokestatic 221, 3) := by decide +kernel
theorem dX7_mixedContact_132 : decode cX7_mixedContact 132 = .ok (.lreturn, 1) := by decide +kernel
theorem dX7_sixteenths_0 : decode cX7_sixteenths 0 = .ok (.ldc2_w 346, 3) := by decide +kernel
theorem dX7_sixteenths_3 : decode cX7_sixteenths 3 = .ok (.dload_n 0, 1) := by decide +kernel
theorem dX7_sixteenths_4 : decode cX7_sixteenths 4 = .ok (.dmul, 1) := by decide +kernel
theorem dX7_sixteenths_5 : decode cX7_sixteenths 5 = .ok (.d2l, 1) := by decide +kernel
theorem dX7_sixteenths_6 : decode cX7_sixteenths 6 = .ok (.lreturn, 1) := by decide +kernel
theorem dX7_withoutSign_0 : decode cX7_withoutSign 0 = .ok (.fload_n 0, 1) := by decide +kernel
theorem dX7_withoutSign_1 : decode cX7_withoutSign 1 = .ok (.fconst 0, 1) := by decide +kernel
theorem dX7_withoutSign_2 : decode cX7_withoutSign 2 = .ok (.fcmp .g, 1) := by decide +kernel
theorem dX7_withoutSign_3 : decode cX7_withoutSign 3 = .ok (.ifCond .ge 8, 3) := by decide +kernel
theorem dX7_withoutSign_6 : decode cX7_withoutSign 6 = .ok (.fload_n 0, 1) := by decide +kernel
theorem dX7_withoutSign_7 : decode cX7_withoutSign 7 = .ok (.fneg, 1) := by decide +kernel
theorem dX7_withoutSign_8 : decode cX7_withoutSign 8 = .ok (.goto 4, 3) := by decide +kernel
theorem dX7_withoutSign_11 : decode cX7_withoutSign 11 = .ok (.fload_n 0, 1) := by decide +kernel
theorem dX7_withoutSign_12 : decode cX7_withoutSign 12 = .ok (.freturn, 1) := by decide +kernel
section Init
variable {i n : Nat} {f : Nat → am_C}
theorem s_Sheet_init (h0 : f i = .inr (6, [.null, .null, .int 0])) : AM mX6_init 2 96 [.ref i] (i + 1) f (fun o n' f' => o = .inl none ∧ n' = i + 3 ∧ m_Sh f' i (fun _ => 0) (fun _ => 0) 0 ∧ ∀ x, x < i → f' x = f x) := by
  show AW mX6_init 2 96 0 [some (.ref i)] [] (i + 1) f _
  refine am_aload_n 0 dX6_init_0 rfl ?_
  refine am_OI 1 dX6_init_1 lX6_3 (by decide) (Nat.le_of_ble_eq_true rfl) ?_
  refine am_aload_n 4 dX6_init_4 rfl ?_
  refine am_bipush 5 (v := 48) dX6_init_5 (by decide) ?_
  refine am_newints 7 (t := 0) (N := 48) (rc := 1) (rs := 48) dX6_init_7 ac_int rfl (by decide) (by decide) (by decide) ?_
  refine am_putfinal 9 dX6_init_9 rfl qX6_9 (by repeat (first | assumption | exact am_ue | refine am_un (by first | assumption | decide | omega) ?_)) rfl rfl (Nat.le_of_ble_eq_true rfl) ?_
  refine am_aload_n 12 dX6_init_12 rfl ?_
  refine am_bipush 13 (v := 48) dX6_init_13 (by decide) ?_
  refine am_newints 15 (t := 0) (N := 48) (rc := 0) (rs := 0) dX6_init_15 ac_int rfl (by decide) (by decide) (by decide) ?_
  refine am_putfinal 17 dX6_init_17 rfl qX6_15 (by repeat (first | assumption | exact am_ue | refine am_un (by first | assumption | decide | omega) ?_)) rfl rfl (Nat.le_of_ble_eq_true rfl) ?_
  refine am_return 20 dX6_init_20 rfl ?_
  exact ⟨rfl, rfl, ⟨am_ue, am_un (by omega) (am_un (by omega) (am_un (by omega) am_ue)), am_un (by omega) am_ue⟩, fun x hx => by rw [am_up_ne (by omega), am_up_ne (by omega), am_up_ne (by omega), am_up_ne (by omega)]⟩
theorem s_Picture_init (h0 : f i = .inr (5, [.null, .null, .null, .null, .null, .null, .int 0, .int 0])) : AM mX5_init 6 288 [.ref i] (i + 1) f (fun o n' f' => o = .inl none ∧ n' = i + 7 ∧ m_Pic f' i (fun _ => 0) (fun _ => 0) (fun _ => 0) (fun _ => 0) (fun _ => 0) (fun _ => 0) 0 0 ∧ ∀ x, x < i → f' x = f x) := by
  show AW mX5_init 6 288 0 [some (.ref i)] [] (i + 1) f _
  refine am_aload_n 0 dX5_init_0 rfl ?_
  refine am_OI 1 dX5_init_1 lX5_3 (by decide) (Nat.le_of_ble_eq_true rfl) ?_
  refine am_aload_n 4 dX5_init_4 rfl ?_
  refine am_bipush 5 (v := 48) dX5_init_5 (by decide) ?_
  refine am_newints 7 (t := 0) (N := 48) (rc := 5) (rs := 240) dX5_init_7 ac_int rfl (by decide) (by decide) (by decide) ?_
  refine am_putfinal 9 dX5_init_9 rfl qX5_9 (by repeat (first | assumption | exact am_ue | refine am_un (by first | assumption | decide | omega) ?_)) rfl rfl (Nat.le_of_ble_eq_true rfl) ?_
  refine am_aload_n 12 dX5_init_12 rfl ?_
  refine am_bipush 13 (v := 48) dX5_init_13 (by decide) ?_
  refine am_newints 15 (t := 0) (N := 48) (rc := 4) (rs := 192) dX5_init_15 ac_int rfl (by decide) (by decide) (by decide) ?_
  refine am_putfinal 17 dX5_init_17 rfl qX5_15 (by repeat (first | assumption | exact am_ue | refine am_un (by first | assumption | decide | omega) ?_)) rfl rfl (Nat.le_of_ble_eq_true rfl) ?_
  refine am_aload_n 20 dX5_init_20 rfl ?_
  refine am_bipush 21 (v := 48) dX5_init_21 (by decide) ?_
  refine am_newints 23 (t := 0) (N := 48) (rc := 3) (rs := 144) dX5_init_23 ac_int rfl (by decide) (by decide) (by decide) ?_
  refine am_putfinal 25 dX5_init_25 rfl qX5_18 (by repeat (first | assumption | exact am_ue | refine am_un (by first | assumption | decide | omega) ?_)) rfl rfl (Nat.le_of_ble_eq_true rfl) ?_
  refine am_aload_n 28 dX5_init_28 rfl ?_
  refine am_bipush 29 (v := 48) dX5_init_29 (by decide) ?_
  refine am_newints 31 (t := 0) (N := 48) (rc := 2) (rs := 96) dX5_init_31 ac_int rfl (by decide) (by decide) (by decide) ?_
  refine am_putfinal 33 dX5_init_33 rfl qX5_21 (by repeat (first | assumption | exact am_ue | refine am_un (by first | assumption | decide | omega) ?_)) rfl rfl (Nat.le_of_ble_eq_true rfl) ?_
  refine am_aload_n 36 dX5_init_36 rfl ?_
  refine am_bipush 37 (v := 48) dX5_init_37 (by decide) ?_
  refine am_newints 39 (t := 0) (N := 48) (rc := 1) (rs := 48) dX5_init_39 ac_int rfl (by decide) (by decide) (by decide) ?_
  refine am_putfinal 41 dX5_init_41 rfl qX5_24 (by repeat (first | assumption | exact am_ue | refine am_un (by first | assumption | decide | omega) ?_)) rfl rfl (Nat.le_of_ble_eq_true rfl) ?_
  refine am_aload_n 44 dX5_init_44 rfl ?_
  refine am_bipush 45 (v := 48) dX5_init_45 (by decide) ?_
  refine am_newints 47 (t := 0) (N := 48) (rc := 0) (rs := 0) dX5_init_47 ac_int rfl (by decide) (by decide) (by decide) ?_
  refine am_putfinal 49 dX5_init_49 rfl qX5_27 (by repeat (first | assumption | exact am_ue | refine am_un (by first | assumption | decide | omega) ?_)) rfl rfl (Nat.le_of_ble_eq_true rfl) ?_
  refine am_return 52 dX5_init_52 rfl ?_
  refine ⟨rfl, rfl, ⟨am_ue, ?_, ?_, ?_, ?_, ?_, ?_⟩, fun x hx => by repeat rw [am_up_ne (by omega)]⟩
  all_goals repeat (first | exact am_ue | refine am_un (by omega) ?_)
theorem s_Pairing_init (h0 : f i = .inr (4, [.null, .null, .long 0])) : AM mX4_init 2 37 [.ref i] (i + 1) f (fun o n' f' => o = .inl none ∧ n' = i + 3 ∧ m_Pr f' i (fun _ => 0) (fun _ => 0) 0 ∧ ∀ x, x < i → f' x = f x) := by
  show AW mX4_init 2 37 0 [some (.ref i)] [] (i + 1) f _
  refine am_aload_n 0 dX4_init_0 rfl ?_
  refine am_OI 1 dX4_init_1 lX4_3 (by decide) (Nat.le_of_ble_eq_true rfl) ?_
  refine am_aload_n 4 dX4_init_4 rfl ?_
  refine am_bipush 5 (v := 32) dX4_init_5 (by decide) ?_
  refine am_newlongs 7 (t := 1) (N := 32) (rc := 1) (rs := 5) dX4_init_7 ac_long rfl (by decide) (by decide) (by decide) ?_
  refine am_putfinal 9 dX4_init_9 rfl qX4_11 (by repeat (first | assumption | exact am_ue | refine am_un (by first | assumption | decide | omega) ?_)) rfl rfl (Nat.le_of_ble_eq_true rfl) ?_
  refine am_aload_n 12 dX4_init_12 rfl ?_
  refine am_iconst 13 (v := 5) dX4_init_13 (by decide) ?_
  refine am_newlongs 14 (t := 1) (N := 5) (rc := 0) (rs := 0) dX4_init_14 ac_long rfl (by decide) (by decide) (by decide) ?_
  refine am_putfinal 16 dX4_init_16 rfl qX4_15 (by repeat (first | assumption | exact am_ue | refine am_un (by first | assumption | decide | omega) ?_)) rfl rfl (Nat.le_of_ble_eq_true rfl) ?_
  refine am_return 19 dX4_init_19 rfl ?_
  exact ⟨rfl, rfl, ⟨am_ue, am_un (by omega) (am_un (by omega) (am_un (by omega) am_ue)), am_un (by omega) am_ue⟩, fun x hx => by rw [am_up_ne (by omega), am_up_ne (by omega), am_up_ne (by omega), am_up_ne (by omega)]⟩
theorem s_Area_init (h0 : f i = .inr (0, [.int 0, .int 0, .int 0, .int 0, .null])) : AM mX0_init 1 4 [.ref i] (i + 1) f (fun o n' f' => o = .inl none ∧ n' = i + 2 ∧ m_ArF f' i ∧ ∀ x, x < i → f' x = f x) := by
  show AW mX0_init 1 4 0 [some (.ref i)] [] (i + 1) f _
  refine am_aload_n 0 dX0_init_0 rfl ?_
  refine am_OI 1 dX0_init_1 lX0_3 (by decide) (Nat.le_of_ble_eq_true rfl) ?_
  refine am_aload_n 4 dX0_init_4 rfl ?_
  refine am_iconst 5 (v := 4) dX0_init_5 (by decide) ?_
  refine am_newints 6 (t := 0) (N := 4) (rc := 0) (rs := 0) dX0_init_6 ac_int rfl (by decide) (by decide) (by decide) ?_
  refine am_putfinal 8 dX0_init_8 rfl qX0_9 (by repeat (first | assumption | exact am_ue | refine am_un (by first | assumption | decide | omega) ?_)) rfl rfl (Nat.le_of_ble_eq_true rfl) ?_
  refine am_return 11 dX0_init_11 rfl ?_
  exact ⟨rfl, rfl, ⟨am_ue, am_un (by omega) am_ue⟩, fun x hx => by rw [am_up_ne (by omega), am_up_ne (by omega)]⟩
theorem s_Contact_init (h0 : f i = .inr (2, [.int 0, .int 0, .int 0, .int 0, .int 0, .int 0, .int 0, .int 0, .float 0, .float 0, .float 0, .float 0, .float 0, .float 0, .float 0, .null])) : AM mX2_init 1 5 [.ref i] (i + 1) f (fun o n' f' => o = .inl none ∧ n' = i + 2 ∧ m_CoF f' i ∧ ∀ x, x < i → f' x = f x) := by
  show AW mX2_init 1 5 0 [some (.ref i)] [] (i + 1) f _
  refine am_aload_n 0 dX2_init_0 rfl ?_
  refine am_OI 1 dX2_init_1 lX2_3 (by decide) (Nat.le_of_ble_eq_true rfl) ?_
  refine am_aload_n 4 dX2_init_4 rfl ?_
  refine am_iconst 5 (v := 5) dX2_init_5 (by decide) ?_
  refine am_newfloats 6 (t := 2) (N := 5) (rc := 0) (rs := 0) dX2_init_6 ac_float rfl (by decide) (by decide) (by decide) ?_
  refine am_putfinal 8 dX2_init_8 rfl qX2_9 (by repeat (first | assumption | exact am_ue | refine am_un (by first | assumption | decide | omega) ?_)) rfl rfl (Nat.le_of_ble_eq_true rfl) ?_
  refine am_return 11 dX2_init_11 rfl ?_
  exact ⟨rfl, rfl, ⟨am_ue, am_un (by omega) am_ue⟩, fun x hx => by rw [am_up_ne (by omega), am_up_ne (by omega)]⟩
theorem s_Areas_init (h0 : f i = .inr (1, [.null, .int 0])) : AM mX1_init 9 40 [.ref i] (i + 1) f (fun o n' f' => o = .inl none ∧ n' = i + 10 ∧ m_AsF f' i ∧ ∀ x, x < i → f' x = f x) := by
  show AW mX1_init 9 40 0 [some (.ref i), none] [] (i + 1) f _
  refine am_aload_n 0 dX1_init_0 rfl ?_
  refine am_OI 1 dX1_init_1 lX1_3 (by decide) (Nat.le_of_ble_eq_true rfl) ?_
  refine am_aload_n 4 dX1_init_4 rfl ?_
  refine am_iconst 5 (v := 4) dX1_init_5 (by decide) ?_
  refine am_anewarray 6 (t := 4) (N := 4) (rc := 8) (rs := 36) dX1_init_6 cX1_9 (by decide) rfl (by decide) (by decide) (by decide) ?_
  refine am_putfinal 9 dX1_init_9 rfl qX1_11 (by repeat (first | assumption | exact am_ue | refine am_un (by first | assumption | decide | omega) ?_)) rfl rfl (Nat.le_of_ble_eq_true rfl) ?_
  refine am_iconst 12 (v := 0) dX1_init_12 (by decide) ?_
  refine am_istore_n 13 dX1_init_13 (by decide) ?_
  refine am_for 4 (fun k (g : Nat → am_C) => (g i = .inr (1, [.ref (i + 1), .int 0]) ∧ g (i + 1) = .inl (4, 4, .inr (.inr (.inr (.inr (m_rf k (i + 2))))))) ∧ (∀ z, z < k → m_ArF g (i + 2 + 2 * z)) ∧ ∀ x, x < i → g x = f x) (fun k g => AW mX1_init (2 * (4 - k)) (9 * (4 - k)) 14 [some (.ref i), some (.int (nI k))] [] (i + 2 + 2 * k) g _) ?_ ?_ 0 _ (by omega) ⟨⟨am_ue, am_un (by omega) am_ue⟩, fun z hz => by omega, fun x hx => by rw [am_up_ne (by omega), am_up_ne (by omega)]⟩
  · rintro g ⟨⟨g0, g1⟩, g2, g3⟩
    refine am_iload_n 14 dX1_init_14 rfl ?_
    refine am_iconst 15 (v := 4) dX1_init_15 (by decide) ?_
    refine am_icmp_ge 16 38 dX1_init_16 rfl (fun c16 => ?_) (fun c16 => absurd (by decide) c16)
    refine am_return 38 dX1_init_38 rfl ?_
    exact ⟨rfl, rfl, ⟨g0, g1, g2⟩, g3⟩
  · rintro k g hk ⟨⟨g0, g1⟩, g2, g3⟩ ih
    refine AW.more (rc := 1 + (2 * (4 - (k + 1))) + 1) (rs := 4 + (9 * (4 - (k + 1))) + 5) (by omega) (by omega) ?_
    refine am_iload_n 14 dX1_init_14 rfl ?_
    refine am_iconst 15 (v := 4) dX1_init_15 (by decide) ?_
    refine am_icmp_ge 16 38 dX1_init_16 rfl (fun c16 => absurd c16 (nI_ge hk (by decide))) (fun c16 => ?_)
    refine am_aload_n 19 dX1_init_19 rfl ?_
    refine am_getfield 20 dX1_init_20 fX1_11 (by repeat (first | assumption | exact am_ue | refine am_un (by first | assumption | decide | omega) ?_)) rfl ?_
    refine am_iload_n 23 dX1_init_23 rfl ?_
    refine am_new 24 (rc := 1 + (2 * (4 - (k + 1)))) (rs := 4 + (9 * (4 - (k + 1)))) dX1_init_24 nX1_9 ?_
    refine am_dup 27 dX1_init_27 rfl ?_
    refine am_IN0 28 (mc' := 1) (ms' := 4) (rc := 2 * (4 - (k + 1))) (rs := 9 * (4 - (k + 1))) dX1_init_28 lX1_17 ⟨by decide, by decide⟩ (Nat.le_of_ble_eq_true rfl) (Nat.le_of_ble_eq_true rfl) (s_Area_init am_ue) ?_
    rintro o n1 f1 ⟨rfl, hn, b2, b3⟩
    obtain rfl : n1 = i + 2 + 2 * (k + 1) := hn.trans (by omega)
    refine ⟨_, rfl, ?_⟩
    have b1 : f1 (i + 1) = .inl (4, 4, .inr (.inr (.inr (.inr (m_rf k (i + 2)))))) := by rw [b3 _ (by omega), am_up_ne (by omega)]; exact g1
    refine am_aastore 31 (t := 4) dX1_init_31 rfl (by repeat (first | assumption | exact am_ue | refine am_un (by first | assumption | decide | omega) ?_)) b2.1 rfl (am_ix hk (by decide)) ?_
    rw [nI_clamp (n := k) (by omega), m_rf_up]
    refine am_iinc 32 (v := nI (k + 1)) dX1_init_32 rfl (nI_1 (k)) (by decide) ?_
    refine am_goto 35 (tgt := 14) dX1_init_35 rfl ?_
    refine ih _ ⟨⟨?_, am_ue⟩, fun z hz => ?_, fun x hx => ?_⟩
    · rw [am_up_ne (by omega), b3 _ (by omega), am_up_ne (by omega)]; exact g0
    · by_cases e : z = k
      · subst e
        exact b2.on fun x h1 h2 => by rw [am_up_ne (by omega)]
      · exact (g2 z (by omega)).on fun x h1 h2 => by rw [am_up_ne (by omega), b3 _ (by omega), am_up_ne (by omega)]
    · rw [am_up_ne (by omega), b3 _ (by omega), am_up_ne (by omega)]; exact g3 x hx
theorem s_Hand_init {a : Nat} (h0 : f i = .inr (3, [.null, .null, .int 0, .int 0, .int 0])) (ha : a < i) : AM mX3_init 11 110 [.ref i, .ref a] (i + 1) f (fun o n' f' => o = .inl none ∧ n' = i + 12 ∧ m_HaF f' i a ∧ ∀ x, x < i → f' x = f x) := by
  show AW mX3_init 11 110 0 [some (.ref i), some (.ref a), none] [] (i + 1) f _
  refine am_aload_n 0 dX3_init_0 rfl ?_
  refine am_OI 1 dX3_init_1 lX3_3 (by decide) (Nat.le_of_ble_eq_true rfl) ?_
  refine am_aload_n 4 dX3_init_4 rfl ?_
  refine am_iconst 5 (v := 5) dX3_init_5 (by decide) ?_
  refine am_anewarray 6 (t := 5) (N := 5) (rc := 10) (rs := 105) dX3_init_6 cX3_9 (by decide) rfl (by decide) (by decide) (by decide) ?_
  refine am_putfinal 9 dX3_init_9 rfl qX3_11 (by repeat (first | assumption | exact am_ue | refine am_un (by first | assumption | decide | omega) ?_)) rfl rfl (Nat.le_of_ble_eq_true rfl) ?_
  refine am_aload_n 12 dX3_init_12 rfl ?_
  refine am_aload_n 13 dX3_init_13 rfl ?_
  refine am_putfinal 14 dX3_init_14 rfl qX3_17 (by repeat (first | assumption | exact am_ue | refine am_un (by first | assumption | decide | omega) ?_)) rfl rfl (Nat.le_of_ble_eq_true rfl) ?_
  refine am_iconst 17 (v := 0) dX3_init_17 (by decide) ?_
  refine am_istore_n 18 dX3_init_18 (by decide) ?_
  refine am_for 5 (fun k (g : Nat → am_C) => (g i = .inr (3, [.ref (i + 1), .ref a, .int 0, .int 0, .int 0]) ∧ g (i + 1) = .inl (5, 5, .inr (.inr (.inr (.inr (m_rf k (i + 2))))))) ∧ (∀ z, z < k → m_CoF g (i + 2 + 2 * z)) ∧ ∀ x, x < i → g x = f x) (fun k g => AW mX3_init (2 * (5 - k)) (21 * (5 - k)) 19 [some (.ref i), some (.ref a), some (.int (nI k))] [] (i + 2 + 2 * k) g _) ?_ ?_ 0 _ (by omega) ⟨⟨am_ue, am_un (by omega) (am_un (by omega) am_ue)⟩, fun z hz => by omega, fun x hx => by rw [am_up_ne (by omega), am_up_ne (by omega), am_up_ne (by omega)]⟩
  · rintro g ⟨⟨g0, g1⟩, g2, g3⟩
    refine am_iload_n 19 dX3_init_19 rfl ?_
    refine am_iconst 20 (v := 5) dX3_init_20 (by decide) ?_
    refine am_icmp_ge 21 43 dX3_init_21 rfl (fun c21 => ?_) (fun c21 => absurd (by decide) c21)
    refine am_return 43 dX3_init_43 rfl ?_
    exact ⟨rfl, rfl, ⟨g0, g1, g2⟩, g3⟩
  · rintro k g hk ⟨⟨g0, g1⟩, g2, g3⟩ ih
    refine AW.more (rc := 1 + (2 * (5 - (k + 1))) + 1) (rs := 5 + (21 * (5 - (k + 1))) + 16) (by omega) (by omega) ?_
    refine am_iload_n 19 dX3_init_19 rfl ?_
    refine am_iconst 20 (v := 5) dX3_init_20 (by decide) ?_
    refine am_icmp_ge 21 43 dX3_init_21 rfl (fun c21 => absurd c21 (nI_ge hk (by decide))) (fun c21 => ?_)
    refine am_aload_n 24 dX3_init_24 rfl ?_
    refine am_getfield 25 dX3_init_25 fX3_11 (by repeat (first | assumption | exact am_ue | refine am_un (by first | assumption | decide | omega) ?_)) rfl ?_
    refine am_iload_n 28 dX3_init_28 rfl ?_
    refine am_new 29 (rc := 1 + (2 * (5 - (k + 1)))) (rs := 5 + (21 * (5 - (k + 1)))) dX3_init_29 nX3_9 ?_
    refine am_dup 32 dX3_init_32 rfl ?_
    refine am_IN0 33 (mc' := 1) (ms' := 5) (rc := 2 * (5 - (k + 1))) (rs := 21 * (5 - (k + 1))) dX3_init_33 lX3_21 ⟨by decide, by decide⟩ (Nat.le_of_ble_eq_true rfl) (Nat.le_of_ble_eq_true rfl) (s_Contact_init am_ue) ?_
    rintro o n1 f1 ⟨rfl, hn, b2, b3⟩
    obtain rfl : n1 = i + 2 + 2 * (k + 1) := hn.trans (by omega)
    refine ⟨_, rfl, ?_⟩
    have b1 : f1 (i + 1) = .inl (5, 5, .inr (.inr (.inr (.inr (m_rf k (i + 2)))))) := by rw [b3 _ (by omega), am_up_ne (by omega)]; exact g1
    refine am_aastore 36 (t := 5) dX3_init_36 rfl (by repeat (first | assumption | exact am_ue | refine am_un (by first | assumption | decide | omega) ?_)) b2.1 rfl (am_ix hk (by decide)) ?_
    rw [nI_clamp (n := k) (by omega), m_rf_up]
    refine am_iinc 37 (v := nI (k + 1)) dX3_init_37 rfl (nI_1 (k)) (by decide) ?_
    refine am_goto 40 (tgt := 19) dX3_init_40 rfl ?_
    refine ih _ ⟨⟨?_, am_ue⟩, fun z hz => ?_, fun x hx => ?_⟩
    · rw [am_up_ne (by omega), b3 _ (by omega), am_up_ne (by omega)]; exact g0
    · by_cases e : z = k
      · subst e
        exact b2.on fun x h1 h2 => by rw [am_up_ne (by omega)]
      · exact (g2 z (by omega)).on fun x h1 h2 => by rw [am_up_ne (by omega), b3 _ (by omega), am_up_ne (by omega)]
    · rw [am_up_ne (by omega), b3 _ (by omega), am_up_ne (by omega)]; exact g3 x hx
end Init
end
