/-! ===== the rows of the class's code ===== -/
theorem dX0_init_0 : decode cX0_init 0 = .ok (.aload_n 0, 1) := by decide +kernel
theorem dX0_init_1 : decode cX0_init 1 = .ok (.invokespecial 3, 3) := by decide +kernel
theorem dX0_init_4 : decode cX0_init 4 = .ok (.aload_n 0, 1) := by decide +kernel
theorem dX0_init_5 : decode cX0_init 5 = .ok (.iconst 4, 1) := by decide +kernel
theorem dX0_init_6 : decode cX0_init 6 = .ok (.newarray .int, 2) := by decide +kernel
theorem dX0_init_8 : decode cX0_init 8 = .ok (.putfield 9, 3) := by decide +kernel
theorem dX0_init_11 : decode cX0_init 11 = .ok (.return_, 1) := by decide +kernel
theorem dX0_holds_0 : decode cX0_holds 0 = .ok (.iload_n 1, 1) := by decide +kernel
theorem dX0_holds_1 : decode cX0_holds 1 = .ok (.aload_n 0, 1) := by decide +kernel
theorem dX0_holds_2 : decode cX0_holds 2 = .ok (.getfield 15, 3) := by decide +kernel
theorem dX0_holds_5 : decode cX0_holds 5 = .ok (.if_icmp .lt 31, 3) := by decide +kernel
theorem dX0_holds_8 : decode cX0_holds 8 = .ok (.iload_n 1, 1) := by decide +kernel
theorem dX0_holds_9 : decode cX0_holds 9 = .ok (.aload_n 0, 1) := by decide +kernel
theorem dX0_holds_10 : decode cX0_holds 10 = .ok (.getfield 19, 3) := by decide +kernel
theorem dX0_holds_13 : decode cX0_holds 13 = .ok (.if_icmp .gt 23, 3) := by decide +kernel
theorem dX0_holds_16 : decode cX0_holds 16 = .ok (.iload_n 2, 1) := by decide +kernel
theorem dX0_holds_17 : decode cX0_holds 17 = .ok (.aload_n 0, 1) := by decide +kernel
theorem dX0_holds_18 : decode cX0_holds 18 = .ok (.getfield 22, 3) := by decide +kernel
theorem dX0_holds_21 : decode cX0_holds 21 = .ok (.if_icmp .lt 15, 3) := by decide +kernel
theorem dX0_holds_24 : decode cX0_holds 24 = .ok (.iload_n 2, 1) := by decide +kernel
theorem dX0_holds_25 : decode cX0_holds 25 = .ok (.aload_n 0, 1) := by decide +kernel
theorem dX0_holds_26 : decode cX0_holds 26 = .ok (.getfield 25, 3) := by decide +kernel
theorem dX0_holds_29 : decode cX0_holds 29 = .ok (.if_icmp .gt 7, 3) := by decide +kernel
theorem dX0_holds_32 : decode cX0_holds 32 = .ok (.iconst 1, 1) := by decide +kernel
theorem dX0_holds_33 : decode cX0_holds 33 = .ok (.goto 4, 3) := by decide +kernel
theorem dX0_holds_36 : decode cX0_holds 36 = .ok (.iconst 0, 1) := by decide +kernel
theorem dX0_holds_37 : decode cX0_holds 37 = .ok (.ireturn, 1) := by decide +kernel
theorem dX1_init_0 : decode cX1_init 0 = .ok (.aload_n 0, 1) := by decide +kernel
theorem dX1_init_1 : decode cX1_init 1 = .ok (.invokespecial 3, 3) := by decide +kernel
theorem dX1_init_4 : decode cX1_init 4 = .ok (.aload_n 0, 1) := by decide +kernel
theorem dX1_init_5 : decode cX1_init 5 = .ok (.iconst 4, 1) := by decide +kernel
theorem dX1_init_6 : decode cX1_init 6 = .ok (.anewarray 9, 3) := by decide +kernel
theorem dX1_init_9 : decode cX1_init 9 = .ok (.putfield 11, 3) := by decide +kernel
theorem dX1_init_12 : decode cX1_init 12 = .ok (.iconst 0, 1) := by decide +kernel
theorem dX1_init_13 : decode cX1_init 13 = .ok (.istore_n 1, 1) := by decide +kernel
theorem dX1_init_14 : decode cX1_init 14 = .ok (.iload_n 1, 1) := by decide +kernel
theorem dX1_init_15 : decode cX1_init 15 = .ok (.iconst 4, 1) := by decide +kernel
theorem dX1_init_16 : decode cX1_init 16 = .ok (.if_icmp .ge 22, 3) := by decide +kernel
theorem dX1_init_19 : decode cX1_init 19 = .ok (.aload_n 0, 1) := by decide +kernel
theorem dX1_init_20 : decode cX1_init 20 = .ok (.getfield 11, 3) := by decide +kernel
theorem dX1_init_23 : decode cX1_init 23 = .ok (.iload_n 1, 1) := by decide +kernel
theorem dX1_init_24 : decode cX1_init 24 = .ok (.new 9, 3) := by decide +kernel
theorem dX1_init_27 : decode cX1_init 27 = .ok (.dup, 1) := by decide +kernel
theorem dX1_init_28 : decode cX1_init 28 = .ok (.invokespecial 17, 3) := by decide +kernel
theorem dX1_init_31 : decode cX1_init 31 = .ok (.aastore, 1) := by decide +kernel
theorem dX1_init_32 : decode cX1_init 32 = .ok (.iinc 1 1, 3) := by decide +kernel
theorem dX1_init_35 : decode cX1_init 35 = .ok (.goto (-21), 3) := by decide +kernel
theorem dX1_init_38 : decode cX1_init 38 = .ok (.return_, 1) := by decide +kernel
theorem dX1_tell_0 : decode cX1_tell 0 = .ok (.aload_n 0, 1) := by decide +kernel
theorem dX1_tell_1 : decode cX1_tell 1 = .ok (.getfield 18, 3) := by decide +kernel
theorem dX1_tell_4 : decode cX1_tell 4 = .ok (.iconst 4, 1) := by decide +kernel
theorem dX1_tell_5 : decode cX1_tell 5 = .ok (.if_icmp .lt 5, 3) := by decide +kernel
theorem dX1_tell_8 : decode cX1_tell 8 = .ok (.iconst (-1), 1) := by decide +kernel
theorem dX1_tell_9 : decode cX1_tell 9 = .ok (.ireturn, 1) := by decide +kernel
theorem dX1_tell_10 : decode cX1_tell 10 = .ok (.aload_n 0, 1) := by decide +kernel
theorem dX1_tell_11 : decode cX1_tell 11 = .ok (.getfield 11, 3) := by decide +kernel
theorem dX1_tell_14 : decode cX1_tell 14 = .ok (.aload_n 0, 1) := by decide +kernel
theorem dX1_tell_15 : decode cX1_tell 15 = .ok (.getfield 18, 3) := by decide +kernel
theorem dX1_tell_18 : decode cX1_tell 18 = .ok (.aaload, 1) := by decide +kernel
theorem dX1_tell_19 : decode cX1_tell 19 = .ok (.astore 5, 2) := by decide +kernel
theorem dX1_tell_21 : decode cX1_tell 21 = .ok (.aload 5, 2) := by decide +kernel
theorem dX1_tell_23 : decode cX1_tell 23 = .ok (.iload_n 1, 1) := by decide +kernel
theorem dX1_tell_24 : decode cX1_tell 24 = .ok (.putfield 22, 3) := by decide +kernel
theorem dX1_tell_27 : decode cX1_tell 27 = .ok (.aload 5, 2) := by decide +kernel
theorem dX1_tell_29 : decode cX1_tell 29 = .ok (.iload_n 2, 1) := by decide +kernel
theorem dX1_tell_30 : decode cX1_tell 30 = .ok (.putfield 25, 3) := by decide +kernel
theorem dX1_tell_33 : decode cX1_tell 33 = .ok (.aload 5, 2) := by decide +kernel
theorem dX1_tell_35 : decode cX1_tell 35 = .ok (.iload_n 3, 1) := by decide +kernel
theorem dX1_tell_36 : decode cX1_tell 36 = .ok (.putfield 28, 3) := by decide +kernel
theorem dX1_tell_39 : decode cX1_tell 39 = .ok (.aload 5, 2) := by decide +kernel
theorem dX1_tell_41 : decode cX1_tell 41 = .ok (.iload 4, 2) := by decide +kernel
theorem dX1_tell_43 : decode cX1_tell 43 = .ok (.putfield 31, 3) := by decide +kernel
theorem dX1_tell_46 : decode cX1_tell 46 = .ok (.aload_n 0, 1) := by decide +kernel
theorem dX1_tell_47 : decode cX1_tell 47 = .ok (.dup, 1) := by decide +kernel
theorem dX1_tell_48 : decode cX1_tell 48 = .ok (.getfield 18, 3) := by decide +kernel
theorem dX1_tell_51 : decode cX1_tell 51 = .ok (.iconst 1, 1) := by decide +kernel
theorem dX1_tell_52 : decode cX1_tell 52 = .ok (.iadd, 1) := by decide +kernel
theorem dX1_tell_53 : decode cX1_tell 53 = .ok (.putfield 18, 3) := by decide +kernel
theorem dX1_tell_56 : decode cX1_tell 56 = .ok (.aload_n 0, 1) := by decide +kernel
theorem dX1_tell_57 : decode cX1_tell 57 = .ok (.getfield 18, 3) := by decide +kernel
theorem dX1_tell_60 : decode cX1_tell 60 = .ok (.iconst 1, 1) := by decide +kernel
theorem dX1_tell_61 : decode cX1_tell 61 = .ok (.isub, 1) := by decide +kernel
theorem dX1_tell_62 : decode cX1_tell 62 = .ok (.ireturn, 1) := by decide +kernel
theorem dX1_latestAt_0 : decode cX1_latestAt 0 = .ok (.aload_n 0, 1) := by decide +kernel
theorem dX1_latestAt_1 : decode cX1_latestAt 1 = .ok (.getfield 18, 3) := by decide +kernel
theorem dX1_latestAt_4 : decode cX1_latestAt 4 = .ok (.iconst 1, 1) := by decide +kernel
theorem dX1_latestAt_5 : decode cX1_latestAt 5 = .ok (.isub, 1) := by decide +kernel
theorem dX1_latestAt_6 : decode cX1_latestAt 6 = .ok (.istore_n 2, 1) := by decide +kernel
theorem dX1_latestAt_7 : decode cX1_latestAt 7 = .ok (.iload_n 2, 1) := by decide +kernel
theorem dX1_latestAt_8 : decode cX1_latestAt 8 = .ok (.ifCond .lt 31, 3) := by decide +kernel
theorem dX1_latestAt_11 : decode cX1_latestAt 11 = .ok (.aload_n 0, 1) := by decide +kernel
theorem dX1_latestAt_12 : decode cX1_latestAt 12 = .ok (.getfield 11, 3) := by decide +kernel
theorem dX1_latestAt_15 : decode cX1_latestAt 15 = .ok (.iload_n 2, 1) := by decide +kernel
theorem dX1_latestAt_16 : decode cX1_latestAt 16 = .ok (.aaload, 1) := by decide +kernel
theorem dX1_latestAt_17 : decode cX1_latestAt 17 = .ok (.iload_n 1, 1) := by decide +kernel
theorem dX1_latestAt_18 : decode cX1_latestAt 18 = .ok (.bipush 8, 2) := by decide +kernel
theorem dX1_latestAt_20 : decode cX1_latestAt 20 = .ok (.irem, 1) := by decide +kernel
theorem dX1_latestAt_21 : decode cX1_latestAt 21 = .ok (.iload_n 1, 1) := by decide +kernel
theorem dX1_latestAt_22 : decode cX1_latestAt 22 = .ok (.bipush 8, 2) := by decide +kernel
theorem dX1_latestAt_24 : decode cX1_latestAt 24 = .ok (.idiv, 1) := by decide +kernel
theorem dX1_latestAt_25 : decode cX1_latestAt 25 = .ok (.invokevirtual 34, 3) := by decide +kernel
theorem dX1_latestAt_28 : decode cX1_latestAt 28 = .ok (.ifCond .eq 5, 3) := by decide +kernel
theorem dX1_latestAt_31 : decode cX1_latestAt 31 = .ok (.iload_n 2, 1) := by decide +kernel
theorem dX1_latestAt_32 : decode cX1_latestAt 32 = .ok (.ireturn, 1) := by decide +kernel
theorem dX1_latestAt_33 : decode cX1_latestAt 33 = .ok (.iinc 2 (-1), 3) := by decide +kernel
theorem dX1_latestAt_36 : decode cX1_latestAt 36 = .ok (.goto (-29), 3) := by decide +kernel
theorem dX1_latestAt_39 : decode cX1_latestAt 39 = .ok (.iconst (-1), 1) := by decide +kernel
theorem dX1_latestAt_40 : decode cX1_latestAt 40 = .ok (.ireturn, 1) := by decide +kernel
theorem dX1_countOf_0 : decode cX1_countOf 0 = .ok (.iload_n 1, 1) := by decide +kernel
theorem dX1_countOf_1 : decode cX1_countOf 1 = .ok (.ifCond .lt 34, 3) := by decide +kernel
theorem dX1_countOf_4 : decode cX1_countOf 4 = .ok (.iload_n 1, 1) := by decide +kernel
theorem dX1_countOf_5 : decode cX1_countOf 5 = .ok (.aload_n 0, 1) := by decide +kernel
theorem dX1_countOf_6 : decode cX1_countOf 6 = .ok (.getfield 18, 3) := by decide +kernel
theorem dX1_countOf_9 : decode cX1_countOf 9 = .ok (.if_icmp .ge 26, 3) := by decide +kernel
theorem dX1_countOf_12 : decode cX1_countOf 12 = .ok (.iload_n 2, 1) := by decide +kernel
theorem dX1_countOf_13 : decode cX1_countOf 13 = .ok (.ifCond .lt 22, 3) := by decide +kernel
theorem dX1_countOf_16 : decode cX1_countOf 16 = .ok (.iload_n 2, 1) := by decide +kernel
theorem dX1_countOf_17 : decode cX1_countOf 17 = .ok (.iconst 4, 1) := by decide +kernel
theorem dX1_countOf_18 : decode cX1_countOf 18 = .ok (.if_icmp .ge 17, 3) := by decide +kernel
theorem dX1_countOf_21 : decode cX1_countOf 21 = .ok (.aload_n 0, 1) := by decide +kernel
theorem dX1_countOf_22 : decode cX1_countOf 22 = .ok (.getfield 11, 3) := by decide +kernel
theorem dX1_countOf_25 : decode cX1_countOf 25 = .ok (.iload_n 1, 1) := by decide +kernel
theorem dX1_countOf_26 : decode cX1_countOf 26 = .ok (.aaload, 1) := by decide +kernel
theorem dX1_countOf_27 : decode cX1_countOf 27 = .ok (.getfield 38, 3) := by decide +kernel
theorem dX1_countOf_30 : decode cX1_countOf 30 = .ok (.iload_n 2, 1) := by decide +kernel
theorem dX1_countOf_31 : decode cX1_countOf 31 = .ok (.iaload, 1) := by decide +kernel
theorem dX1_countOf_32 : decode cX1_countOf 32 = .ok (.goto 4, 3) := by decide +kernel
theorem dX1_countOf_35 : decode cX1_countOf 35 = .ok (.iconst 0, 1) := by decide +kernel
theorem dX1_countOf_36 : decode cX1_countOf 36 = .ok (.ireturn, 1) := by decide +kernel
theorem dX1_count_0 : decode cX1_count 0 = .ok (.iload_n 1, 1) := by decide +kernel
theorem dX1_count_1 : decode cX1_count 1 = .ok (.ifCond .lt 35, 3) := by decide +kernel
theorem dX1_count_4 : decode cX1_count 4 = .ok (.iload_n 1, 1) := by decide +kernel
theorem dX1_count_5 : decode cX1_count 5 = .ok (.aload_n 0, 1) := by decide +kernel
theorem dX1_count_6 : decode cX1_count 6 = .ok (.getfield 18, 3) := by decide +kernel
theorem dX1_count_9 : decode cX1_count 9 = .ok (.if_icmp .ge 27, 3) := by decide +kernel
theorem dX1_count_12 : decode cX1_count 12 = .ok (.iload_n 2, 1) := by decide +kernel
theorem dX1_count_13 : decode cX1_count 13 = .ok (.ifCond .lt 23, 3) := by decide +kernel
theorem dX1_count_16 : decode cX1_count 16 = .ok (.iload_n 2, 1) := by decide +kernel
theorem dX1_count_17 : decode cX1_count 17 = .ok (.iconst 4, 1) := by decide +kernel
theorem dX1_count_18 : decode cX1_count 18 = .ok (.if_icmp .ge 18, 3) := by decide +kernel
theorem dX1_count_21 : decode cX1_count 21 = .ok (.aload_n 0, 1) := by decide +kernel
theorem dX1_count_22 : decode cX1_count 22 = .ok (.getfield 11, 3) := by decide +kernel
theorem dX1_count_25 : decode cX1_count 25 = .ok (.iload_n 1, 1) := by decide +kernel
theorem dX1_count_26 : decode cX1_count 26 = .ok (.aaload, 1) := by decide +kernel
theorem dX1_count_27 : decode cX1_count 27 = .ok (.getfield 38, 3) := by decide +kernel
theorem dX1_count_30 : decode cX1_count 30 = .ok (.iload_n 2, 1) := by decide +kernel
theorem dX1_count_31 : decode cX1_count 31 = .ok (.dup2, 1) := by decide +kernel
theorem dX1_count_32 : decode cX1_count 32 = .ok (.iaload, 1) := by decide +kernel
theorem dX1_count_33 : decode cX1_count 33 = .ok (.iload_n 3, 1) := by decide +kernel
theorem dX1_count_34 : decode cX1_count 34 = .ok (.iadd, 1) := by decide +kernel
theorem dX1_count_35 : decode cX1_count 35 = .ok (.iastore, 1) := by decide +kernel
theorem dX1_count_36 : decode cX1_count 36 = .ok (.return_, 1) := by decide +kernel
theorem dX2_init_0 : decode cX2_init 0 = .ok (.aload_n 0, 1) := by decide +kernel
theorem dX2_init_1 : decode cX2_init 1 = .ok (.invokespecial 3, 3) := by decide +kernel
theorem dX2_init_4 : decode cX2_init 4 = .ok (.aload_n 0, 1) := by decide +kernel
theorem dX2_init_5 : decode cX2_init 5 = .ok (.iconst 5, 1) := by decide +kernel
theorem dX2_init_6 : decode cX2_init 6 = .ok (.newarray .float, 2) := by decide +kernel
theorem dX2_init_8 : decode cX2_init 8 = .ok (.putfield 9, 3) := by decide +kernel
theorem dX2_init_11 : decode cX2_init 11 = .ok (.return_, 1) := by decide +kernel
theorem dX2_beginAt_0 : decode cX2_beginAt 0 = .ok (.aload_n 0, 1) := by decide +kernel
theorem dX2_beginAt_1 : decode cX2_beginAt 1 = .ok (.iconst 1, 1) := by decide +kernel
theorem dX2_beginAt_2 : decode cX2_beginAt 2 = .ok (.putfield 15, 3) := by decide +kernel
theorem dX2_beginAt_5 : decode cX2_beginAt 5 = .ok (.aload_n 0, 1) := by decide +kernel
theorem dX2_beginAt_6 : decode cX2_beginAt 6 = .ok (.iconst 0, 1) := by decide +kernel
theorem dX2_beginAt_7 : decode cX2_beginAt 7 = .ok (.putfield 19, 3) := by decide +kernel
theorem dX2_beginAt_10 : decode cX2_beginAt 10 = .ok (.aload_n 0, 1) := by decide +kernel
theorem dX2_beginAt_11 : decode cX2_beginAt 11 = .ok (.iload_n 1, 1) := by decide +kernel
theorem dX2_beginAt_12 : decode cX2_beginAt 12 = .ok (.putfield 22, 3) := by decide +kernel
theorem dX2_beginAt_15 : decode cX2_beginAt 15 = .ok (.aload_n 0, 1) := by decide +kernel
theorem dX2_beginAt_16 : decode cX2_beginAt 16 = .ok (.iload_n 2, 1) := by decide +kernel
theorem dX2_beginAt_17 : decode cX2_beginAt 17 = .ok (.putfield 26, 3) := by decide +kernel
theorem dX2_beginAt_20 : decode cX2_beginAt 20 = .ok (.aload_n 0, 1) := by decide +kernel
theorem dX2_beginAt_21 : decode cX2_beginAt 21 = .ok (.iconst 1, 1) := by decide +kernel
theorem dX2_beginAt_22 : decode cX2_beginAt 22 = .ok (.putfield 29, 3) := by decide +kernel
theorem dX2_beginAt_25 : decode cX2_beginAt 25 = .ok (.aload_n 0, 1) := by decide +kernel
theorem dX2_beginAt_26 : decode cX2_beginAt 26 = .ok (.iconst 0, 1) := by decide +kernel
theorem dX2_beginAt_27 : decode cX2_beginAt 27 = .ok (.putfield 32, 3) := by decide +kernel
theorem dX2_beginAt_30 : decode cX2_beginAt 30 = .ok (.aload_n 0, 1) := by decide +kernel
theorem dX2_beginAt_31 : decode cX2_beginAt 31 = .ok (.iconst 0, 1) := by decide +kernel
theorem dX2_beginAt_32 : decode cX2_beginAt 32 = .ok (.putfield 35, 3) := by decide +kernel
theorem dX2_beginAt_35 : decode cX2_beginAt 35 = .ok (.aload_n 0, 1) := by decide +kernel
theorem dX2_beginAt_36 : decode cX2_beginAt 36 = .ok (.iload_n 3, 1) := by decide +kernel
theorem dX2_beginAt_37 : decode cX2_beginAt 37 = .ok (.putfield 38, 3) := by decide +kernel
theorem dX2_beginAt_40 : decode cX2_beginAt 40 = .ok (.aload_n 0, 1) := by decide +kernel
theorem dX2_beginAt_41 : decode cX2_beginAt 41 = .ok (.iload_n 1, 1) := by decide +kernel
theorem dX2_beginAt_42 : decode cX2_beginAt 42 = .ok (.i2f, 1) := by decide +kernel
theorem dX2_beginAt_43 : decode cX2_beginAt 43 = .ok (.putfield 41, 3) := by decide +kernel
theorem dX2_beginAt_46 : decode cX2_beginAt 46 = .ok (.aload_n 0, 1) := by decide +kernel
theorem dX2_beginAt_47 : decode cX2_beginAt 47 = .ok (.iload_n 2, 1) := by decide +kernel
theorem dX2_beginAt_48 : decode cX2_beginAt 48 = .ok (.i2f, 1) := by decide +kernel
theorem dX2_beginAt_49 : decode cX2_beginAt 49 = .ok (.putfield 45, 3) := by decide +kernel
theorem dX2_beginAt_52 : decode cX2_beginAt 52 = .ok (.aload_n 0, 1) := by decide +kernel
theorem dX2_beginAt_53 : decode cX2_beginAt 53 = .ok (.fconst 0, 1) := by decide +kernel
theorem dX2_beginAt_54 : decode cX2_beginAt 54 = .ok (.putfield 48, 3) := by decide +kernel
theorem dX2_beginAt_57 : decode cX2_beginAt 57 = .ok (.aload_n 0, 1) := by decide +kernel
theorem dX2_beginAt_58 : decode cX2_beginAt 58 = .ok (.fconst 0, 1) := by decide +kernel
theorem dX2_beginAt_59 : decode cX2_beginAt 59 = .ok (.putfield 51, 3) := by decide +kernel
theorem dX2_beginAt_62 : decode cX2_beginAt 62 = .ok (.aload_n 0, 1) := by decide +kernel
theorem dX2_beginAt_63 : decode cX2_beginAt 63 = .ok (.fconst 0, 1) := by decide +kernel
theorem dX2_beginAt_64 : decode cX2_beginAt 64 = .ok (.putfield 54, 3) := by decide +kernel
theorem dX2_beginAt_67 : decode cX2_beginAt 67 = .ok (.aload_n 0, 1) := by decide +kernel
theorem dX2_beginAt_68 : decode cX2_beginAt 68 = .ok (.iload_n 1, 1) := by decide +kernel
theorem dX2_beginAt_69 : decode cX2_beginAt 69 = .ok (.i2f, 1) := by decide +kernel
theorem dX2_beginAt_70 : decode cX2_beginAt 70 = .ok (.putfield 57, 3) := by decide +kernel
theorem dX2_beginAt_73 : decode cX2_beginAt 73 = .ok (.aload_n 0, 1) := by decide +kernel
theorem dX2_beginAt_74 : decode cX2_beginAt 74 = .ok (.iload_n 2, 1) := by decide +kernel
theorem dX2_beginAt_75 : decode cX2_beginAt 75 = .ok (.i2f, 1) := by decide +kernel
theorem dX2_beginAt_76 : decode cX2_beginAt 76 = .ok (.putfield 60, 3) := by decide +kernel
theorem dX2_beginAt_79 : decode cX2_beginAt 79 = .ok (.return_, 1) := by decide +kernel
theorem dX2_moveTo_0 : decode cX2_moveTo 0 = .ok (.aload_n 0, 1) := by decide +kernel
theorem dX2_moveTo_1 : decode cX2_moveTo 1 = .ok (.iconst 1, 1) := by decide +kernel
theorem dX2_moveTo_2 : decode cX2_moveTo 2 = .ok (.putfield 19, 3) := by decide +kernel
theorem dX2_moveTo_5 : decode cX2_moveTo 5 = .ok (.aload_n 0, 1) := by decide +kernel
theorem dX2_moveTo_6 : decode cX2_moveTo 6 = .ok (.iload_n 1, 1) := by decide +kernel
theorem dX2_moveTo_7 : decode cX2_moveTo 7 = .ok (.putfield 22, 3) := by decide +kernel
theorem dX2_moveTo_10 : decode cX2_moveTo 10 = .ok (.aload_n 0, 1) := by decide +kernel
theorem dX2_moveTo_11 : decode cX2_moveTo 11 = .ok (.iload_n 2, 1) := by decide +kernel
theorem dX2_moveTo_12 : decode cX2_moveTo 12 = .ok (.putfield 26, 3) := by decide +kernel
theorem dX2_moveTo_15 : decode cX2_moveTo 15 = .ok (.aload_n 0, 1) := by decide +kernel
theorem dX2_moveTo_16 : decode cX2_moveTo 16 = .ok (.dup, 1) := by decide +kernel
theorem dX2_moveTo_17 : decode cX2_moveTo 17 = .ok (.getfield 29, 3) := by decide +kernel
theorem dX2_moveTo_20 : decode cX2_moveTo 20 = .ok (.iconst 1, 1) := by decide +kernel
theorem dX2_moveTo_21 : decode cX2_moveTo 21 = .ok (.iadd, 1) := by decide +kernel
theorem dX2_moveTo_22 : decode cX2_moveTo 22 = .ok (.putfield 29, 3) := by decide +kernel
theorem dX2_moveTo_25 : decode cX2_moveTo 25 = .ok (.aload_n 0, 1) := by decide +kernel
theorem dX2_moveTo_26 : decode cX2_moveTo 26 = .ok (.iconst 0, 1) := by decide +kernel
theorem dX2_moveTo_27 : decode cX2_moveTo 27 = .ok (.putfield 32, 3) := by decide +kernel
theorem dX2_moveTo_30 : decode cX2_moveTo 30 = .ok (.iload_n 3, 1) := by decide +kernel
theorem dX2_moveTo_31 : decode cX2_moveTo 31 = .ok (.i2f, 1) := by decide +kernel
theorem dX2_moveTo_32 : decode cX2_moveTo 32 = .ok (.ldc 63, 2) := by decide +kernel
theorem dX2_moveTo_34 : decode cX2_moveTo 34 = .ok (.fdiv, 1) := by decide +kernel
theorem dX2_moveTo_35 : decode cX2_moveTo 35 = .ok (.fstore 4, 2) := by decide +kernel
theorem dX2_moveTo_37 : decode cX2_moveTo 37 = .ok (.aload_n 0, 1) := by decide +kernel
theorem dX2_moveTo_38 : decode cX2_moveTo 38 = .ok (.iload_n 1, 1) := by decide +kernel
theorem dX2_moveTo_39 : decode cX2_moveTo 39 = .ok (.i2f, 1) := by decide +kernel
theorem dX2_moveTo_40 : decode cX2_moveTo 40 = .ok (.aload_n 0, 1) := by decide +kernel
theorem dX2_moveTo_41 : decode cX2_moveTo 41 = .ok (.getfield 41, 3) := by decide +kernel
theorem dX2_moveTo_44 : decode cX2_moveTo 44 = .ok (.fsub, 1) := by decide +kernel
theorem dX2_moveTo_45 : decode cX2_moveTo 45 = .ok (.fload 4, 2) := by decide +kernel
theorem dX2_moveTo_47 : decode cX2_moveTo 47 = .ok (.fmul, 1) := by decide +kernel
theorem dX2_moveTo_48 : decode cX2_moveTo 48 = .ok (.putfield 48, 3) := by decide +kernel
theorem dX2_moveTo_51 : decode cX2_moveTo 51 = .ok (.aload_n 0, 1) := by decide +kernel
theorem dX2_moveTo_52 : decode cX2_moveTo 52 = .ok (.iload_n 2, 1) := by decide +kernel
theorem dX2_moveTo_53 : decode cX2_moveTo 53 = .ok (.i2f, 1) := by decide +kernel
theorem dX2_moveTo_54 : decode cX2_moveTo 54 = .ok (.aload_n 0, 1) := by decide +kernel
theorem dX2_moveTo_55 : decode cX2_moveTo 55 = .ok (.getfield 45, 3) := by decide +kernel
theorem dX2_moveTo_58 : decode cX2_moveTo 58 = .ok (.fsub, 1) := by decide +kernel
theorem dX2_moveTo_59 : decode cX2_moveTo 59 = .ok (.fload 4, 2) := by decide +kernel
theorem dX2_moveTo_61 : decode cX2_moveTo 61 = .ok (.fmul, 1) := by decide +kernel
theorem dX2_moveTo_62 : decode cX2_moveTo 62 = .ok (.putfield 51, 3) := by decide +kernel
theorem dX2_moveTo_65 : decode cX2_moveTo 65 = .ok (.aload_n 0, 1) := by decide +kernel
theorem dX2_moveTo_66 : decode cX2_moveTo 66 = .ok (.dup, 1) := by decide +kernel
theorem dX2_moveTo_67 : decode cX2_moveTo 67 = .ok (.getfield 41, 3) := by decide +kernel
theorem dX2_moveTo_70 : decode cX2_moveTo 70 = .ok (.aload_n 0, 1) := by decide +kernel
theorem dX2_moveTo_71 : decode cX2_moveTo 71 = .ok (.getfield 48, 3) := by decide +kernel
theorem dX2_moveTo_74 : decode cX2_moveTo 74 = .ok (.fadd, 1) := by decide +kernel
theorem dX2_moveTo_75 : decode cX2_moveTo 75 = .ok (.putfield 41, 3) := by decide +kernel
theorem dX2_moveTo_78 : decode cX2_moveTo 78 = .ok (.aload_n 0, 1) := by decide +kernel
theorem dX2_moveTo_79 : decode cX2_moveTo 79 = .ok (.dup, 1) := by decide +kernel
theorem dX2_moveTo_80 : decode cX2_moveTo 80 = .ok (.getfield 45, 3) := by decide +kernel
theorem dX2_moveTo_83 : decode cX2_moveTo 83 = .ok (.aload_n 0, 1) := by decide +kernel
theorem dX2_moveTo_84 : decode cX2_moveTo 84 = .ok (.getfield 51, 3) := by decide +kernel
theorem dX2_moveTo_87 : decode cX2_moveTo 87 = .ok (.fadd, 1) := by decide +kernel
theorem dX2_moveTo_88 : decode cX2_moveTo 88 = .ok (.putfield 45, 3) := by decide +kernel
theorem dX2_moveTo_91 : decode cX2_moveTo 91 = .ok (.aload_n 0, 1) := by decide +kernel
theorem dX2_moveTo_92 : decode cX2_moveTo 92 = .ok (.getfield 41, 3) := by decide +kernel
theorem dX2_moveTo_95 : decode cX2_moveTo 95 = .ok (.aload_n 0, 1) := by decide +kernel
theorem dX2_moveTo_96 : decode cX2_moveTo 96 = .ok (.getfield 57, 3) := by decide +kernel
theorem dX2_moveTo_99 : decode cX2_moveTo 99 = .ok (.fsub, 1) := by decide +kernel
theorem dX2_moveTo_100 : decode cX2_moveTo 100 = .ok (.invokestatic 64, 3) := by decide +kernel
theorem dX2_moveTo_103 : decode cX2_moveTo 103 = .ok (.aload_n 0, 1) := by decide +kernel
theorem dX2_moveTo_104 : decode cX2_moveTo 104 = .ok (.getfield 45, 3) := by decide +kernel
theorem dX2_moveTo_107 : decode cX2_moveTo 107 = .ok (.aload_n 0, 1) := by decide +kernel
theorem dX2_moveTo_108 : decode cX2_moveTo 108 = .ok (.getfield 60, 3) := by decide +kernel
theorem dX2_moveTo_111 : decode cX2_moveTo 111 = .ok (.fsub, 1) := by decide +kernel
theorem dX2_moveTo_112 : decode cX2_moveTo 112 = .ok (.invokestatic 64, 3) := by decide +kernel
theorem dX2_moveTo_115 : decode cX2_moveTo 115 = .ok (.fadd, 1) := by decide +kernel
theorem dX2_moveTo_116 : decode cX2_moveTo 116 = .ok (.fstore 5, 2) := by decide +kernel
theorem dX2_moveTo_118 : decode cX2_moveTo 118 = .ok (.aload_n 0, 1) := by decide +kernel
theorem dX2_moveTo_119 : decode cX2_moveTo 119 = .ok (.fload 5, 2) := by decide +kernel
theorem dX2_moveTo_121 : decode cX2_moveTo 121 = .ok (.aload_n 0, 1) := by decide +kernel
theorem dX2_moveTo_122 : decode cX2_moveTo 122 = .ok (.getfield 54, 3) := by decide +kernel
theorem dX2_moveTo_125 : decode cX2_moveTo 125 = .ok (.fcmp .l, 1) := by decide +kernel
theorem dX2_moveTo_126 : decode cX2_moveTo 126 = .ok (.ifCond .le 8, 3) := by decide +kernel
theorem dX2_moveTo_129 : decode cX2_moveTo 129 = .ok (.fload 5, 2) := by decide +kernel
theorem dX2_moveTo_131 : decode cX2_moveTo 131 = .ok (.goto 7, 3) := by decide +kernel
theorem dX2_moveTo_134 : decode cX2_moveTo 134 = .ok (.aload_n 0, 1) := by decide +kernel
theorem dX2_moveTo_135 : decode cX2_moveTo 135 = .ok (.getfield 54, 3) := by decide +kernel
theorem dX2_moveTo_138 : decode cX2_moveTo 138 = .ok (.putfield 54, 3) := by decide +kernel
theorem dX2_moveTo_141 : decode cX2_moveTo 141 = .ok (.return_, 1) := by decide +kernel
theorem dX2_miss_0 : decode cX2_miss 0 = .ok (.aload_n 0, 1) := by decide +kernel
theorem dX2_miss_1 : decode cX2_miss 1 = .ok (.iconst 0, 1) := by decide +kernel
theorem dX2_miss_2 : decode cX2_miss 2 = .ok (.putfield 19, 3) := by decide +kernel
theorem dX2_miss_5 : decode cX2_miss 5 = .ok (.aload_n 0, 1) := by decide +kernel
theorem dX2_miss_6 : decode cX2_miss 6 = .ok (.dup, 1) := by decide +kernel
theorem dX2_miss_7 : decode cX2_miss 7 = .ok (.getfield 32, 3) := by decide +kernel
theorem dX2_miss_10 : decode cX2_miss 10 = .ok (.iconst 1, 1) := by decide +kernel
theorem dX2_miss_11 : decode cX2_miss 11 = .ok (.iadd, 1) := by decide +kernel
theorem dX2_miss_12 : decode cX2_miss 12 = .ok (.putfield 32, 3) := by decide +kernel
theorem dX2_miss_15 : decode cX2_miss 15 = .ok (.aload_n 0, 1) := by decide +kernel
theorem dX2_miss_16 : decode cX2_miss 16 = .ok (.fconst 0, 1) := by decide +kernel
theorem dX2_miss_17 : decode cX2_miss 17 = .ok (.putfield 48, 3) := by decide +kernel
theorem dX2_miss_20 : decode cX2_miss 20 = .ok (.aload_n 0, 1) := by decide +kernel
theorem dX2_miss_21 : decode cX2_miss 21 = .ok (.fconst 0, 1) := by decide +kernel
theorem dX2_miss_22 : decode cX2_miss 22 = .ok (.putfield 51, 3) := by decide +kernel
theorem dX2_miss_25 : decode cX2_miss 25 = .ok (.return_, 1) := by decide +kernel
theorem dX2_distanceTo_0 : decode cX2_distanceTo 0 = .ok (.aload_n 0, 1) := by decide +kernel
theorem dX2_distanceTo_1 : decode cX2_distanceTo 1 = .ok (.getfield 41, 3) := by decide +kernel
theorem dX2_distanceTo_4 : decode cX2_distanceTo 4 = .ok (.aload_n 1, 1) := by decide +kernel
theorem dX2_distanceTo_5 : decode cX2_distanceTo 5 = .ok (.getfield 41, 3) := by decide +kernel
theorem dX2_distanceTo_8 : decode cX2_distanceTo 8 = .ok (.fsub, 1) := by decide +kernel
theorem dX2_distanceTo_9 : decode cX2_distanceTo 9 = .ok (.invokestatic 64, 3) := by decide +kernel
theorem dX2_distanceTo_12 : decode cX2_distanceTo 12 = .ok (.aload_n 0, 1) := by decide +kernel
theorem dX2_distanceTo_13 : decode cX2_distanceTo 13 = .ok (.getfield 45, 3) := by decide +kernel
theorem dX2_distanceTo_16 : decode cX2_distanceTo 16 = .ok (.aload_n 1, 1) := by decide +kernel
theorem dX2_distanceTo_17 : decode cX2_distanceTo 17 = .ok (.getfield 45, 3) := by decide +kernel
theorem dX2_distanceTo_20 : decode cX2_distanceTo 20 = .ok (.fsub, 1) := by decide +kernel
theorem dX2_distanceTo_21 : decode cX2_distanceTo 21 = .ok (.invokestatic 64, 3) := by decide +kernel
theorem dX2_distanceTo_24 : decode cX2_distanceTo 24 = .ok (.fadd, 1) := by decide +kernel
theorem dX2_distanceTo_25 : decode cX2_distanceTo 25 = .ok (.freturn, 1) := by decide +kernel
theorem dX2_guessAt_0 : decode cX2_guessAt 0 = .ok (.iload_n 2, 1) := by decide +kernel
theorem dX2_guessAt_1 : decode cX2_guessAt 1 = .ok (.ifCond .eq 18, 3) := by decide +kernel
theorem dX2_guessAt_4 : decode cX2_guessAt 4 = .ok (.aload_n 0, 1) := by decide +kernel
theorem dX2_guessAt_5 : decode cX2_guessAt 5 = .ok (.getfield 45, 3) := by decide +kernel
theorem dX2_guessAt_8 : decode cX2_guessAt 8 = .ok (.aload_n 0, 1) := by decide +kernel
theorem dX2_guessAt_9 : decode cX2_guessAt 9 = .ok (.getfield 51, 3) := by decide +kernel
theorem dX2_guessAt_12 : decode cX2_guessAt 12 = .ok (.iload_n 1, 1) := by decide +kernel
theorem dX2_guessAt_13 : decode cX2_guessAt 13 = .ok (.i2f, 1) := by decide +kernel
theorem dX2_guessAt_14 : decode cX2_guessAt 14 = .ok (.fmul, 1) := by decide +kernel
theorem dX2_guessAt_15 : decode cX2_guessAt 15 = .ok (.fadd, 1) := by decide +kernel
theorem dX2_guessAt_16 : decode cX2_guessAt 16 = .ok (.goto 15, 3) := by decide +kernel
theorem dX2_guessAt_19 : decode cX2_guessAt 19 = .ok (.aload_n 0, 1) := by decide +kernel
theorem dX2_guessAt_20 : decode cX2_guessAt 20 = .ok (.getfield 41, 3) := by decide +kernel
theorem dX2_guessAt_23 : decode cX2_guessAt 23 = .ok (.aload_n 0, 1) := by decide +kernel
theorem dX2_guessAt_24 : decode cX2_guessAt 24 = .ok (.getfield 48, 3) := by decide +kernel
theorem dX2_guessAt_27 : decode cX2_guessAt 27 = .ok (.iload_n 1, 1) := by decide +kernel
theorem dX2_guessAt_28 : decode cX2_guessAt 28 = .ok (.i2f, 1) := by decide +kernel
theorem dX2_guessAt_29 : decode cX2_guessAt 29 = .ok (.fmul, 1) := by decide +kernel
theorem dX2_guessAt_30 : decode cX2_guessAt 30 = .ok (.fadd, 1) := by decide +kernel
theorem dX2_guessAt_31 : decode cX2_guessAt 31 = .ok (.fstore_n 3, 1) := by decide +kernel
theorem dX2_guessAt_32 : decode cX2_guessAt 32 = .ok (.iload_n 2, 1) := by decide +kernel
theorem dX2_guessAt_33 : decode cX2_guessAt 33 = .ok (.ifCond .eq 8, 3) := by decide +kernel
theorem dX2_guessAt_36 : decode cX2_guessAt 36 = .ok (.ldc 68, 2) := by decide +kernel
theorem dX2_guessAt_38 : decode cX2_guessAt 38 = .ok (.goto 5, 3) := by decide +kernel
theorem dX2_guessAt_41 : decode cX2_guessAt 41 = .ok (.ldc 69, 2) := by decide +kernel
theorem dX2_guessAt_43 : decode cX2_guessAt 43 = .ok (.fstore 4, 2) := by decide +kernel
theorem dX2_guessAt_45 : decode cX2_guessAt 45 = .ok (.fload_n 3, 1) := by decide +kernel
theorem dX2_guessAt_46 : decode cX2_guessAt 46 = .ok (.fconst 0, 1) := by decide +kernel
theorem dX2_guessAt_47 : decode cX2_guessAt 47 = .ok (.fcmp .g, 1) := by decide +kernel
theorem dX2_guessAt_48 : decode cX2_guessAt 48 = .ok (.ifCond .ge 5, 3) := by decide +kernel
theorem dX2_guessAt_51 : decode cX2_guessAt 51 = .ok (.fconst 0, 1) := by decide +kernel
theorem dX2_guessAt_52 : decode cX2_guessAt 52 = .ok (.freturn, 1) := by decide +kernel
theorem dX2_guessAt_53 : decode cX2_guessAt 53 = .ok (.fload_n 3, 1) := by decide +kernel
theorem dX2_guessAt_54 : decode cX2_guessAt 54 = .ok (.fload 4, 2) := by decide +kernel
theorem dX2_guessAt_56 : decode cX2_guessAt 56 = .ok (.fcmp .l, 1) := by decide +kernel
theorem dX2_guessAt_57 : decode cX2_guessAt 57 = .ok (.ifCond .le 8, 3) := by decide +kernel
theorem dX2_guessAt_60 : decode cX2_guessAt 60 = .ok (.fload 4, 2) := by decide +kernel
theorem dX2_guessAt_62 : decode cX2_guessAt 62 = .ok (.goto 4, 3) := by decide +kernel
theorem dX2_guessAt_65 : decode cX2_guessAt 65 = .ok (.fload_n 3, 1) := by decide +kernel
theorem dX2_guessAt_66 : decode cX2_guessAt 66 = .ok (.freturn, 1) := by decide +kernel
theorem dX2_canClaim_0 : decode cX2_canClaim 0 = .ok (.aload_n 0, 1) := by decide +kernel
theorem dX2_canClaim_1 : decode cX2_canClaim 1 = .ok (.getfield 15, 3) := by decide +kernel
theorem dX2_canClaim_4 : decode cX2_canClaim 4 = .ok (.ifCond .eq 21, 3) := by decide +kernel
theorem dX2_canClaim_7 : decode cX2_canClaim 7 = .ok (.aload_n 0, 1) := by decide +kernel
theorem dX2_canClaim_8 : decode cX2_canClaim 8 = .ok (.getfield 19, 3) := by decide +kernel
theorem dX2_canClaim_11 : decode cX2_canClaim 11 = .ok (.ifCond .eq 14, 3) := by decide +kernel
theorem dX2_canClaim_14 : decode cX2_canClaim 14 = .ok (.aload_n 0, 1) := by decide +kernel
theorem dX2_canClaim_15 : decode cX2_canClaim 15 = .ok (.getfield 35, 3) := by decide +kernel
theorem dX2_canClaim_18 : decode cX2_canClaim 18 = .ok (.ifCond .ne 7, 3) := by decide +kernel
theorem dX2_canClaim_21 : decode cX2_canClaim 21 = .ok (.iconst 1, 1) := by decide +kernel
theorem dX2_canClaim_22 : decode cX2_canClaim 22 = .ok (.goto 4, 3) := by decide +kernel
theorem dX2_canClaim_25 : decode cX2_canClaim 25 = .ok (.iconst 0, 1) := by decide +kernel
theorem dX2_canClaim_26 : decode cX2_canClaim 26 = .ok (.ireturn, 1) := by decide +kernel
theorem dX3_init_0 : decode cX3_init 0 = .ok (.aload_n 0, 1) := by decide +kernel
theorem dX3_init_1 : decode cX3_init 1 = .ok (.invokespecial 3, 3) := by decide +kernel
theorem dX3_init_4 : decode cX3_init 4 = .ok (.aload_n 0, 1) := by decide +kernel
theorem dX3_init_5 : decode cX3_init 5 = .ok (.iconst 5, 1) := by decide +kernel
theorem dX3_init_6 : decode cX3_init 6 = .ok (.anewarray 9, 3) := by decide +kernel
theorem dX3_init_9 : decode cX3_init 9 = .ok (.putfield 11, 3) := by decide +kernel
theorem dX3_init_12 : decode cX3_init 12 = .ok (.aload_n 0, 1) := by decide +kernel
theorem dX3_init_13 : decode cX3_init 13 = .ok (.aload_n 1, 1) := by decide +kernel
theorem dX3_init_14 : decode cX3_init 14 = .ok (.putfield 17, 3) := by decide +kernel
theorem dX3_init_17 : decode cX3_init 17 = .ok (.iconst 0, 1) := by decide +kernel
theorem dX3_init_18 : decode cX3_init 18 = .ok (.istore_n 2, 1) := by decide +kernel
theorem dX3_init_19 : decode cX3_init 19 = .ok (.iload_n 2, 1) := by decide +kernel
theorem dX3_init_20 : decode cX3_init 20 = .ok (.iconst 5, 1) := by decide +kernel
theorem dX3_init_21 : decode cX3_init 21 = .ok (.if_icmp .ge 22, 3) := by decide +kernel
theorem dX3_init_24 : decode cX3_init 24 = .ok (.aload_n 0, 1) := by decide +kernel
theorem dX3_init_25 : decode cX3_init 25 = .ok (.getfield 11, 3) := by decide +kernel
theorem dX3_init_28 : decode cX3_init 28 = .ok (.iload_n 2, 1) := by decide +kernel
theorem dX3_init_29 : decode cX3_init 29 = .ok (.new 9, 3) := by decide +kernel
theorem dX3_init_32 : decode cX3_init 32 = .ok (.dup, 1) := by decide +kernel
theorem dX3_init_33 : decode cX3_init 33 = .ok (.invokespecial 21, 3) := by decide +kernel
theorem dX3_init_36 : decode cX3_init 36 = .ok (.aastore, 1) := by decide +kernel
theorem dX3_init_37 : decode cX3_init 37 = .ok (.iinc 2 1, 3) := by decide +kernel
theorem dX3_init_40 : decode cX3_init 40 = .ok (.goto (-21), 3) := by decide +kernel
theorem dX3_init_43 : decode cX3_init 43 = .ok (.return_, 1) := by decide +kernel
theorem dX3_has_0 : decode cX3_has 0 = .ok (.iload_n 1, 1) := by decide +kernel
theorem dX3_has_1 : decode cX3_has 1 = .ok (.ifCond .lt 24, 3) := by decide +kernel
theorem dX3_has_4 : decode cX3_has 4 = .ok (.iload_n 1, 1) := by decide +kernel
theorem dX3_has_5 : decode cX3_has 5 = .ok (.iconst 5, 1) := by decide +kernel
theorem dX3_has_6 : decode cX3_has 6 = .ok (.if_icmp .ge 19, 3) := by decide +kernel
theorem dX3_has_9 : decode cX3_has 9 = .ok (.aload_n 0, 1) := by decide +kernel
theorem dX3_has_10 : decode cX3_has 10 = .ok (.getfield 11, 3) := by decide +kernel
theorem dX3_has_13 : decode cX3_has 13 = .ok (.iload_n 1, 1) := by decide +kernel
theorem dX3_has_14 : decode cX3_has 14 = .ok (.aaload, 1) := by decide +kernel
theorem dX3_has_15 : decode cX3_has 15 = .ok (.getfield 22, 3) := by decide +kernel
theorem dX3_has_18 : decode cX3_has 18 = .ok (.ifCond .eq 7, 3) := by decide +kernel
theorem dX3_has_21 : decode cX3_has 21 = .ok (.iconst 1, 1) := by decide +kernel
theorem dX3_has_22 : decode cX3_has 22 = .ok (.goto 4, 3) := by decide +kernel
theorem dX3_has_25 : decode cX3_has 25 = .ok (.iconst 0, 1) := by decide +kernel
theorem dX3_has_26 : decode cX3_has 26 = .ok (.ireturn, 1) := by decide +kernel
theorem dX3_countContacts_0 : decode cX3_countContacts 0 = .ok (.iconst 0, 1) := by decide +kernel
theorem dX3_countContacts_1 : decode cX3_countContacts 1 = .ok (.istore_n 1, 1) := by decide +kernel
theorem dX3_countContacts_2 : decode cX3_countContacts 2 = .ok (.iconst 0, 1) := by decide +kernel
theorem dX3_countContacts_3 : decode cX3_countContacts 3 = .ok (.istore_n 2, 1) := by decide +kernel
theorem dX3_countContacts_4 : decode cX3_countContacts 4 = .ok (.iload_n 2, 1) := by decide +kernel
theorem dX3_countContacts_5 : decode cX3_countContacts 5 = .ok (.iconst 5, 1) := by decide +kernel
theorem dX3_countContacts_6 : decode cX3_countContacts 6 = .ok (.if_icmp .ge 29, 3) := by decide +kernel
theorem dX3_countContacts_9 : decode cX3_countContacts 9 = .ok (.iload_n 1, 1) := by decide +kernel
theorem dX3_countContacts_10 : decode cX3_countContacts 10 = .ok (.aload_n 0, 1) := by decide +kernel
theorem dX3_countContacts_11 : decode cX3_countContacts 11 = .ok (.getfield 11, 3) := by decide +kernel
theorem dX3_countContacts_14 : decode cX3_countContacts 14 = .ok (.iload_n 2, 1) := by decide +kernel
theorem dX3_countContacts_15 : decode cX3_countContacts 15 = .ok (.aaload, 1) := by decide +kernel
theorem dX3_countContacts_16 : decode cX3_countContacts 16 = .ok (.getfield 22, 3) := by decide +kernel
theorem dX3_countContacts_19 : decode cX3_countContacts 19 = .ok (.ifCond .eq 7, 3) := by decide +kernel
theorem dX3_countContacts_22 : decode cX3_countContacts 22 = .ok (.iconst 1, 1) := by decide +kernel
theorem dX3_countContacts_23 : decode cX3_countContacts 23 = .ok (.goto 4, 3) := by decide +kernel
theorem dX3_countContacts_26 : decode cX3_countContacts 26 = .ok (.iconst 0, 1) := by decide +kernel
theorem dX3_countContacts_27 : decode cX3_countContacts 27 = .ok (.iadd, 1) := by decide +kernel
theorem dX3_countContacts_28 : decode cX3_countContacts 28 = .ok (.istore_n 1, 1) := by decide +kernel
theorem dX3_countContacts_29 : decode cX3_countContacts 29 = .ok (.iinc 2 1, 3) := by decide +kernel
theorem dX3_countContacts_32 : decode cX3_countContacts 32 = .ok (.goto (-28), 3) := by decide +kernel
theorem dX3_countContacts_35 : decode cX3_countContacts 35 = .ok (.iload_n 1, 1) := by decide +kernel
theorem dX3_countContacts_36 : decode cX3_countContacts 36 = .ok (.ireturn, 1) := by decide +kernel
theorem dX3_contactsIn_0 : decode cX3_contactsIn 0 = .ok (.iconst 0, 1) := by decide +kernel
theorem dX3_contactsIn_1 : decode cX3_contactsIn 1 = .ok (.istore_n 2, 1) := by decide +kernel
theorem dX3_contactsIn_2 : decode cX3_contactsIn 2 = .ok (.iconst 0, 1) := by decide +kernel
theorem dX3_contactsIn_3 : decode cX3_contactsIn 3 = .ok (.istore_n 3, 1) := by decide +kernel
theorem dX3_contactsIn_4 : decode cX3_contactsIn 4 = .ok (.iload_n 3, 1) := by decide +kernel
theorem dX3_contactsIn_5 : decode cX3_contactsIn 5 = .ok (.iconst 5, 1) := by decide +kernel
theorem dX3_contactsIn_6 : decode cX3_contactsIn 6 = .ok (.if_icmp .ge 42, 3) := by decide +kernel
theorem dX3_contactsIn_9 : decode cX3_contactsIn 9 = .ok (.iload_n 2, 1) := by decide +kernel
theorem dX3_contactsIn_10 : decode cX3_contactsIn 10 = .ok (.aload_n 0, 1) := by decide +kernel
theorem dX3_contactsIn_11 : decode cX3_contactsIn 11 = .ok (.getfield 11, 3) := by decide +kernel
theorem dX3_contactsIn_14 : decode cX3_contactsIn 14 = .ok (.iload_n 3, 1) := by decide +kernel
theorem dX3_contactsIn_15 : decode cX3_contactsIn 15 = .ok (.aaload, 1) := by decide +kernel
theorem dX3_contactsIn_16 : decode cX3_contactsIn 16 = .ok (.getfield 22, 3) := by decide +kernel
theorem dX3_contactsIn_19 : decode cX3_contactsIn 19 = .ok (.ifCond .eq 20, 3) := by decide +kernel
theorem dX3_contactsIn_22 : decode cX3_contactsIn 22 = .ok (.aload_n 0, 1) := by decide +kernel
theorem dX3_contactsIn_23 : decode cX3_contactsIn 23 = .ok (.getfield 11, 3) := by decide +kernel
theorem dX3_contactsIn_26 : decode cX3_contactsIn 26 = .ok (.iload_n 3, 1) := by decide +kernel
theorem dX3_contactsIn_27 : decode cX3_contactsIn 27 = .ok (.aaload, 1) := by decide +kernel
theorem dX3_contactsIn_28 : decode cX3_contactsIn 28 = .ok (.getfield 26, 3) := by decide +kernel
theorem dX3_contactsIn_31 : decode cX3_contactsIn 31 = .ok (.iload_n 1, 1) := by decide +kernel
theorem dX3_contactsIn_32 : decode cX3_contactsIn 32 = .ok (.if_icmp .ne 7, 3) := by decide +kernel
theorem dX3_contactsIn_35 : decode cX3_contactsIn 35 = .ok (.iconst 1, 1) := by decide +kernel
theorem dX3_contactsIn_36 : decode cX3_contactsIn 36 = .ok (.goto 4, 3) := by decide +kernel
theorem dX3_contactsIn_39 : decode cX3_contactsIn 39 = .ok (.iconst 0, 1) := by decide +kernel
theorem dX3_contactsIn_40 : decode cX3_contactsIn 40 = .ok (.iadd, 1) := by decide +kernel
theorem dX3_contactsIn_41 : decode cX3_contactsIn 41 = .ok (.istore_n 2, 1) := by decide +kernel
theorem dX3_contactsIn_42 : decode cX3_contactsIn 42 = .ok (.iinc 3 1, 3) := by decide +kernel
theorem dX3_contactsIn_45 : decode cX3_contactsIn 45 = .ok (.goto (-41), 3) := by decide +kernel
theorem dX3_contactsIn_48 : decode cX3_contactsIn 48 = .ok (.iload_n 2, 1) := by decide +kernel
theorem dX3_contactsIn_49 : decode cX3_contactsIn 49 = .ok (.ireturn, 1) := by decide +kernel
theorem dX3_take_0 : decode cX3_take 0 = .ok (.aload_n 0, 1) := by decide +kernel
theorem dX3_take_1 : decode cX3_take 1 = .ok (.aload_n 1, 1) := by decide +kernel
theorem dX3_take_2 : decode cX3_take 2 = .ok (.aload_n 2, 1) := by decide +kernel
theorem dX3_take_3 : decode cX3_take 3 = .ok (.iload_n 3, 1) := by decide +kernel
theorem dX3_take_4 : decode cX3_take 4 = .ok (.invokevirtual 30, 3) := by decide +kernel
theorem dX3_take_7 : decode cX3_take 7 = .ok (.aload_n 0, 1) := by decide +kernel
theorem dX3_take_8 : decode cX3_take 8 = .ok (.aload_n 2, 1) := by decide +kernel
theorem dX3_take_9 : decode cX3_take 9 = .ok (.invokevirtual 34, 3) := by decide +kernel
theorem dX3_take_12 : decode cX3_take 12 = .ok (.aload_n 0, 1) := by decide +kernel
theorem dX3_take_13 : decode cX3_take 13 = .ok (.aload_n 1, 1) := by decide +kernel
theorem dX3_take_14 : decode cX3_take 14 = .ok (.aload_n 2, 1) := by decide +kernel
theorem dX3_take_15 : decode cX3_take 15 = .ok (.invokevirtual 38, 3) := by decide +kernel
theorem dX3_take_18 : decode cX3_take 18 = .ok (.aload_n 0, 1) := by decide +kernel
theorem dX3_take_19 : decode cX3_take 19 = .ok (.invokevirtual 42, 3) := by decide +kernel
theorem dX3_take_22 : decode cX3_take 22 = .ok (.aload_n 0, 1) := by decide +kernel
theorem dX3_take_23 : decode cX3_take 23 = .ok (.invokevirtual 45, 3) := by decide +kernel
theorem dX3_take_26 : decode cX3_take 26 = .ok (.return_, 1) := by decide +kernel
theorem dX3_cancelAll_0 : decode cX3_cancelAll 0 = .ok (.iconst 0, 1) := by decide +kernel
theorem dX3_cancelAll_1 : decode cX3_cancelAll 1 = .ok (.istore_n 1, 1) := by decide +kernel
theorem dX3_cancelAll_2 : decode cX3_cancelAll 2 = .ok (.iload_n 1, 1) := by decide +kernel
theorem dX3_cancelAll_3 : decode cX3_cancelAll 3 = .ok (.iconst 5, 1) := by decide +kernel
theorem dX3_cancelAll_4 : decode cX3_cancelAll 4 = .ok (.if_icmp .ge 31, 3) := by decide +kernel
theorem dX3_cancelAll_7 : decode cX3_cancelAll 7 = .ok (.aload_n 0, 1) := by decide +kernel
theorem dX3_cancelAll_8 : decode cX3_cancelAll 8 = .ok (.getfield 11, 3) := by decide +kernel
theorem dX3_cancelAll_11 : decode cX3_cancelAll 11 = .ok (.iload_n 1, 1) := by decide +kernel
theorem dX3_cancelAll_12 : decode cX3_cancelAll 12 = .ok (.aaload, 1) := by decide +kernel
theorem dX3_cancelAll_13 : decode cX3_cancelAll 13 = .ok (.getfield 22, 3) := by decide +kernel
theorem dX3_cancelAll_16 : decode cX3_cancelAll 16 = .ok (.ifCond .eq 13, 3) := by decide +kernel
theorem dX3_cancelAll_19 : decode cX3_cancelAll 19 = .ok (.aload_n 0, 1) := by decide +kernel
theorem dX3_cancelAll_20 : decode cX3_cancelAll 20 = .ok (.aload_n 0, 1) := by decide +kernel
theorem dX3_cancelAll_21 : decode cX3_cancelAll 21 = .ok (.getfield 11, 3) := by decide +kernel
theorem dX3_cancelAll_24 : decode cX3_cancelAll 24 = .ok (.iload_n 1, 1) := by decide +kernel
theorem dX3_cancelAll_25 : decode cX3_cancelAll 25 = .ok (.aaload, 1) := by decide +kernel
theorem dX3_cancelAll_26 : decode cX3_cancelAll 26 = .ok (.invokevirtual 48, 3) := by decide +kernel
theorem dX3_cancelAll_29 : decode cX3_cancelAll 29 = .ok (.iinc 1 1, 3) := by decide +kernel
theorem dX3_cancelAll_32 : decode cX3_cancelAll 32 = .ok (.goto (-30), 3) := by decide +kernel
theorem dX3_cancelAll_35 : decode cX3_cancelAll 35 = .ok (.return_, 1) := by decide +kernel
theorem dX3_cancel_0 : decode cX3_cancel 0 = .ok (.aload_n 1, 1) := by decide +kernel
theorem dX3_cancel_1 : decode cX3_cancel 1 = .ok (.iconst 0, 1) := by decide +kernel
theorem dX3_cancel_2 : decode cX3_cancel 2 = .ok (.putfield 22, 3) := by decide +kernel
theorem dX3_cancel_5 : decode cX3_cancel 5 = .ok (.aload_n 0, 1) := by decide +kernel
theorem dX3_cancel_6 : decode cX3_cancel 6 = .ok (.dup, 1) := by decide +kernel
theorem dX3_cancel_7 : decode cX3_cancel 7 = .ok (.getfield 52, 3) := by decide +kernel
theorem dX3_cancel_10 : decode cX3_cancel 10 = .ok (.iconst 1, 1) := by decide +kernel
theorem dX3_cancel_11 : decode cX3_cancel 11 = .ok (.iadd, 1) := by decide +kernel
theorem dX3_cancel_12 : decode cX3_cancel 12 = .ok (.putfield 52, 3) := by decide +kernel
theorem dX3_cancel_15 : decode cX3_cancel 15 = .ok (.aload_n 1, 1) := by decide +kernel
theorem dX3_cancel_16 : decode cX3_cancel 16 = .ok (.getfield 55, 3) := by decide +kernel
theorem dX3_cancel_19 : decode cX3_cancel 19 = .ok (.ifCond .eq 19, 3) := by decide +kernel
theorem dX3_cancel_22 : decode cX3_cancel 22 = .ok (.aload_n 0, 1) := by decide +kernel
theorem dX3_cancel_23 : decode cX3_cancel 23 = .ok (.getfield 17, 3) := by decide +kernel
theorem dX3_cancel_26 : decode cX3_cancel 26 = .ok (.aload_n 1, 1) := by decide +kernel
theorem dX3_cancel_27 : decode cX3_cancel 27 = .ok (.getfield 26, 3) := by decide +kernel
theorem dX3_cancel_30 : decode cX3_cancel 30 = .ok (.aload_n 1, 1) := by decide +kernel
theorem dX3_cancel_31 : decode cX3_cancel 31 = .ok (.getfield 55, 3) := by decide +kernel
theorem dX3_cancel_34 : decode cX3_cancel 34 = .ok (.iconst (-1), 1) := by decide +kernel
theorem dX3_cancel_35 : decode cX3_cancel 35 = .ok (.invokevirtual 58, 3) := by decide +kernel
theorem dX3_cancel_38 : decode cX3_cancel 38 = .ok (.return_, 1) := by decide +kernel
theorem dX3_followMatched_0 : decode cX3_followMatched 0 = .ok (.iconst 0, 1) := by decide +kernel
theorem dX3_followMatched_1 : decode cX3_followMatched 1 = .ok (.istore 4, 2) := by decide +kernel
theorem dX3_followMatched_3 : decode cX3_followMatched 3 = .ok (.iload 4, 2) := by decide +kernel
theorem dX3_followMatched_5 : decode cX3_followMatched 5 = .ok (.iconst 5, 1) := by decide +kernel
theorem dX3_followMatched_6 : decode cX3_followMatched 6 = .ok (.if_icmp .ge 95, 3) := by decide +kernel
theorem dX3_followMatched_9 : decode cX3_followMatched 9 = .ok (.aload_n 2, 1) := by decide +kernel
theorem dX3_followMatched_10 : decode cX3_followMatched 10 = .ok (.iload 4, 2) := by decide +kernel
theorem dX3_followMatched_12 : decode cX3_followMatched 12 = .ok (.invokevirtual 64, 3) := by decide +kernel
theorem dX3_followMatched_15 : decode cX3_followMatched 15 = .ok (.istore 5, 2) := by decide +kernel
theorem dX3_followMatched_17 : decode cX3_followMatched 17 = .ok (.iload 5, 2) := by decide +kernel
theorem dX3_followMatched_19 : decode cX3_followMatched 19 = .ok (.ifCond .lt 76, 3) := by decide +kernel
theorem dX3_followMatched_22 : decode cX3_followMatched 22 = .ok (.iload 5, 2) := by decide +kernel
theorem dX3_followMatched_24 : decode cX3_followMatched 24 = .ok (.aload_n 1, 1) := by decide +kernel
theorem dX3_followMatched_25 : decode cX3_followMatched 25 = .ok (.getfield 70, 3) := by decide +kernel
theorem dX3_followMatched_28 : decode cX3_followMatched 28 = .ok (.if_icmp .ge 67, 3) := by decide +kernel
theorem dX3_followMatched_31 : decode cX3_followMatched 31 = .ok (.aload_n 0, 1) := by decide +kernel
theorem dX3_followMatched_32 : decode cX3_followMatched 32 = .ok (.getfield 11, 3) := by decide +kernel
theorem dX3_followMatched_35 : decode cX3_followMatched 35 = .ok (.iload 4, 2) := by decide +kernel
theorem dX3_followMatched_37 : decode cX3_followMatched 37 = .ok (.aaload, 1) := by decide +kernel
theorem dX3_followMatched_38 : decode cX3_followMatched 38 = .ok (.getfield 22, 3) := by decide +kernel
theorem dX3_followMatched_41 : decode cX3_followMatched 41 = .ok (.ifCond .ne 6, 3) := by decide +kernel
theorem dX3_followMatched_44 : decode cX3_followMatched 44 = .ok (.goto 51, 3) := by decide +kernel
theorem dX3_followMatched_47 : decode cX3_followMatched 47 = .ok (.aload_n 1, 1) := by decide +kernel
theorem dX3_followMatched_48 : decode cX3_followMatched 48 = .ok (.iload 5, 2) := by decide +kernel
theorem dX3_followMatched_50 : decode cX3_followMatched 50 = .ok (.invokevirtual 75, 3) := by decide +kernel
theorem dX3_followMatched_53 : decode cX3_followMatched 53 = .ok (.ifCond .eq 17, 3) := by decide +kernel
theorem dX3_followMatched_56 : decode cX3_followMatched 56 = .ok (.aload_n 0, 1) := by decide +kernel
theorem dX3_followMatched_57 : decode cX3_followMatched 57 = .ok (.aload_n 0, 1) := by decide +kernel
theorem dX3_followMatched_58 : decode cX3_followMatched 58 = .ok (.getfield 11, 3) := by decide +kernel
theorem dX3_followMatched_61 : decode cX3_followMatched 61 = .ok (.iload 4, 2) := by decide +kernel
theorem dX3_followMatched_63 : decode cX3_followMatched 63 = .ok (.aaload, 1) := by decide +kernel
theorem dX3_followMatched_64 : decode cX3_followMatched 64 = .ok (.invokevirtual 48, 3) := by decide +kernel
theorem dX3_followMatched_67 : decode cX3_followMatched 67 = .ok (.goto 28, 3) := by decide +kernel
theorem dX3_followMatched_70 : decode cX3_followMatched 70 = .ok (.aload_n 0, 1) := by decide +kernel
theorem dX3_followMatched_71 : decode cX3_followMatched 71 = .ok (.getfield 11, 3) := by decide +kernel
theorem dX3_followMatched_74 : decode cX3_followMatched 74 = .ok (.iload 4, 2) := by decide +kernel
theorem dX3_followMatched_76 : decode cX3_followMatched 76 = .ok (.aaload, 1) := by decide +kernel
theorem dX3_followMatched_77 : decode cX3_followMatched 77 = .ok (.aload_n 1, 1) := by decide +kernel
theorem dX3_followMatched_78 : decode cX3_followMatched 78 = .ok (.getfield 79, 3) := by decide +kernel
theorem dX3_followMatched_81 : decode cX3_followMatched 81 = .ok (.iload 5, 2) := by decide +kernel
theorem dX3_followMatched_83 : decode cX3_followMatched 83 = .ok (.iaload, 1) := by decide +kernel
theorem dX3_followMatched_84 : decode cX3_followMatched 84 = .ok (.aload_n 1, 1) := by decide +kernel
theorem dX3_followMatched_85 : decode cX3_followMatched 85 = .ok (.getfield 83, 3) := by decide +kernel
theorem dX3_followMatched_88 : decode cX3_followMatched 88 = .ok (.iload 5, 2) := by decide +kernel
theorem dX3_followMatched_90 : decode cX3_followMatched 90 = .ok (.iaload, 1) := by decide +kernel
theorem dX3_followMatched_91 : decode cX3_followMatched 91 = .ok (.iload_n 3, 1) := by decide +kernel
theorem dX3_followMatched_92 : decode cX3_followMatched 92 = .ok (.invokevirtual 86, 3) := by decide +kernel
theorem dX3_followMatched_95 : decode cX3_followMatched 95 = .ok (.iinc 4 1, 3) := by decide +kernel
theorem dX3_followMatched_98 : decode cX3_followMatched 98 = .ok (.goto (-95), 3) := by decide +kernel
theorem dX3_followMatched_101 : decode cX3_followMatched 101 = .ok (.return_, 1) := by decide +kernel
theorem dX3_missUnmatched_0 : decode cX3_missUnmatched 0 = .ok (.iconst 0, 1) := by decide +kernel
theorem dX3_missUnmatched_1 : decode cX3_missUnmatched 1 = .ok (.istore_n 2, 1) := by decide +kernel
theorem dX3_missUnmatched_2 : decode cX3_missUnmatched 2 = .ok (.iload_n 2, 1) := by decide +kernel
theorem dX3_missUnmatched_3 : decode cX3_missUnmatched 3 = .ok (.iconst 5, 1) := by decide +kernel
theorem dX3_missUnmatched_4 : decode cX3_missUnmatched 4 = .ok (.if_icmp .ge 49, 3) := by decide +kernel
theorem dX3_missUnmatched_7 : decode cX3_missUnmatched 7 = .ok (.aload_n 0, 1) := by decide +kernel
theorem dX3_missUnmatched_8 : decode cX3_missUnmatched 8 = .ok (.getfield 11, 3) := by decide +kernel
theorem dX3_missUnmatched_11 : decode cX3_missUnmatched 11 = .ok (.iload_n 2, 1) := by decide +kernel
theorem dX3_missUnmatched_12 : decode cX3_missUnmatched 12 = .ok (.aaload, 1) := by decide +kernel
theorem dX3_missUnmatched_13 : decode cX3_missUnmatched 13 = .ok (.astore_n 3, 1) := by decide +kernel
theorem dX3_missUnmatched_14 : decode cX3_missUnmatched 14 = .ok (.aload_n 3, 1) := by decide +kernel
theorem dX3_missUnmatched_15 : decode cX3_missUnmatched 15 = .ok (.getfield 22, 3) := by decide +kernel
theorem dX3_missUnmatched_18 : decode cX3_missUnmatched 18 = .ok (.ifCond .eq 29, 3) := by decide +kernel
theorem dX3_missUnmatched_21 : decode cX3_missUnmatched 21 = .ok (.aload_n 1, 1) := by decide +kernel
theorem dX3_missUnmatched_22 : decode cX3_missUnmatched 22 = .ok (.iload_n 2, 1) := by decide +kernel
theorem dX3_missUnmatched_23 : decode cX3_missUnmatched 23 = .ok (.invokevirtual 64, 3) := by decide +kernel
theorem dX3_missUnmatched_26 : decode cX3_missUnmatched 26 = .ok (.iconst (-1), 1) := by decide +kernel
theorem dX3_missUnmatched_27 : decode cX3_missUnmatched 27 = .ok (.if_icmp .ne 20, 3) := by decide +kernel
theorem dX3_missUnmatched_30 : decode cX3_missUnmatched 30 = .ok (.aload_n 3, 1) := by decide +kernel
theorem dX3_missUnmatched_31 : decode cX3_missUnmatched 31 = .ok (.invokevirtual 89, 3) := by decide +kernel
theorem dX3_missUnmatched_34 : decode cX3_missUnmatched 34 = .ok (.aload_n 3, 1) := by decide +kernel
theorem dX3_missUnmatched_35 : decode cX3_missUnmatched 35 = .ok (.getfield 92, 3) := by decide +kernel
theorem dX3_missUnmatched_38 : decode cX3_missUnmatched 38 = .ok (.iconst 2, 1) := by decide +kernel
theorem dX3_missUnmatched_39 : decode cX3_missUnmatched 39 = .ok (.if_icmp .lt 8, 3) := by decide +kernel
theorem dX3_missUnmatched_42 : decode cX3_missUnmatched 42 = .ok (.aload_n 0, 1) := by decide +kernel
theorem dX3_missUnmatched_43 : decode cX3_missUnmatched 43 = .ok (.aload_n 3, 1) := by decide +kernel
theorem dX3_missUnmatched_44 : decode cX3_missUnmatched 44 = .ok (.invokevirtual 95, 3) := by decide +kernel
theorem dX3_missUnmatched_47 : decode cX3_missUnmatched 47 = .ok (.iinc 2 1, 3) := by decide +kernel
theorem dX3_missUnmatched_50 : decode cX3_missUnmatched 50 = .ok (.goto (-48), 3) := by decide +kernel
theorem dX3_missUnmatched_53 : decode cX3_missUnmatched 53 = .ok (.return_, 1) := by decide +kernel
theorem dX3_lift_0 : decode cX3_lift 0 = .ok (.aload_n 1, 1) := by decide +kernel
theorem dX3_lift_1 : decode cX3_lift 1 = .ok (.iconst 0, 1) := by decide +kernel
theorem dX3_lift_2 : decode cX3_lift 2 = .ok (.putfield 22, 3) := by decide +kernel
theorem dX3_lift_5 : decode cX3_lift 5 = .ok (.aload_n 0, 1) := by decide +kernel
theorem dX3_lift_6 : decode cX3_lift 6 = .ok (.dup, 1) := by decide +kernel
theorem dX3_lift_7 : decode cX3_lift 7 = .ok (.getfield 98, 3) := by decide +kernel
theorem dX3_lift_10 : decode cX3_lift 10 = .ok (.iconst 1, 1) := by decide +kernel
theorem dX3_lift_11 : decode cX3_lift 11 = .ok (.iadd, 1) := by decide +kernel
theorem dX3_lift_12 : decode cX3_lift 12 = .ok (.putfield 98, 3) := by decide +kernel
theorem dX3_lift_15 : decode cX3_lift 15 = .ok (.aload_n 1, 1) := by decide +kernel
theorem dX3_lift_16 : decode cX3_lift 16 = .ok (.getfield 55, 3) := by decide +kernel
theorem dX3_lift_19 : decode cX3_lift 19 = .ok (.ifCond .ne 24, 3) := by decide +kernel
theorem dX3_lift_22 : decode cX3_lift 22 = .ok (.aload_n 1, 1) := by decide +kernel
theorem dX3_lift_23 : decode cX3_lift 23 = .ok (.getfield 101, 3) := by decide +kernel
theorem dX3_lift_26 : decode cX3_lift 26 = .ok (.iconst 4, 1) := by decide +kernel
theorem dX3_lift_27 : decode cX3_lift 27 = .ok (.if_icmp .gt 16, 3) := by decide +kernel
theorem dX3_lift_30 : decode cX3_lift 30 = .ok (.aload_n 0, 1) := by decide +kernel
theorem dX3_lift_31 : decode cX3_lift 31 = .ok (.getfield 17, 3) := by decide +kernel
theorem dX3_lift_34 : decode cX3_lift 34 = .ok (.aload_n 1, 1) := by decide +kernel
theorem dX3_lift_35 : decode cX3_lift 35 = .ok (.getfield 26, 3) := by decide +kernel
theorem dX3_lift_38 : decode cX3_lift 38 = .ok (.iconst 0, 1) := by decide +kernel
theorem dX3_lift_39 : decode cX3_lift 39 = .ok (.iconst 1, 1) := by decide +kernel
theorem dX3_lift_40 : decode cX3_lift 40 = .ok (.invokevirtual 58, 3) := by decide +kernel
theorem dX3_lift_43 : decode cX3_lift 43 = .ok (.return_, 1) := by decide +kernel
theorem dX3_beginUnmatched_0 : decode cX3_beginUnmatched 0 = .ok (.iconst 0, 1) := by decide +kernel
theorem dX3_beginUnmatched_1 : decode cX3_beginUnmatched 1 = .ok (.istore_n 3, 1) := by decide +kernel
theorem dX3_beginUnmatched_2 : decode cX3_beginUnmatched 2 = .ok (.iload_n 3, 1) := by decide +kernel
theorem dX3_beginUnmatched_3 : decode cX3_beginUnmatched 3 = .ok (.aload_n 1, 1) := by decide +kernel
theorem dX3_beginUnmatched_4 : decode cX3_beginUnmatched 4 = .ok (.getfield 70, 3) := by decide +kernel
theorem dX3_beginUnmatched_7 : decode cX3_beginUnmatched 7 = .ok (.if_icmp .ge 92, 3) := by decide +kernel
theorem dX3_beginUnmatched_10 : decode cX3_beginUnmatched 10 = .ok (.aload_n 0, 1) := by decide +kernel
theorem dX3_beginUnmatched_11 : decode cX3_beginUnmatched 11 = .ok (.invokevirtual 104, 3) := by decide +kernel
theorem dX3_beginUnmatched_14 : decode cX3_beginUnmatched 14 = .ok (.istore 4, 2) := by decide +kernel
theorem dX3_beginUnmatched_16 : decode cX3_beginUnmatched 16 = .ok (.iload 4, 2) := by decide +kernel
theorem dX3_beginUnmatched_18 : decode cX3_beginUnmatched 18 = .ok (.iconst (-1), 1) := by decide +kernel
theorem dX3_beginUnmatched_19 : decode cX3_beginUnmatched 19 = .ok (.if_icmp .eq 74, 3) := by decide +kernel
theorem dX3_beginUnmatched_22 : decode cX3_beginUnmatched 22 = .ok (.aload_n 1, 1) := by decide +kernel
theorem dX3_beginUnmatched_23 : decode cX3_beginUnmatched 23 = .ok (.iload_n 3, 1) := by decide +kernel
theorem dX3_beginUnmatched_24 : decode cX3_beginUnmatched 24 = .ok (.invokevirtual 75, 3) := by decide +kernel
theorem dX3_beginUnmatched_27 : decode cX3_beginUnmatched 27 = .ok (.ifCond .ne 66, 3) := by decide +kernel
theorem dX3_beginUnmatched_30 : decode cX3_beginUnmatched 30 = .ok (.aload_n 2, 1) := by decide +kernel
theorem dX3_beginUnmatched_31 : decode cX3_beginUnmatched 31 = .ok (.iload_n 3, 1) := by decide +kernel
theorem dX3_beginUnmatched_32 : decode cX3_beginUnmatched 32 = .ok (.invokestatic 108, 3) := by decide +kernel
theorem dX3_beginUnmatched_35 : decode cX3_beginUnmatched 35 = .ok (.ifCond .ne 58, 3) := by decide +kernel
theorem dX3_beginUnmatched_38 : decode cX3_beginUnmatched 38 = .ok (.aload_n 0, 1) := by decide +kernel
theorem dX3_beginUnmatched_39 : decode cX3_beginUnmatched 39 = .ok (.getfield 17, 3) := by decide +kernel
theorem dX3_beginUnmatched_42 : decode cX3_beginUnmatched 42 = .ok (.aload_n 1, 1) := by decide +kernel
theorem dX3_beginUnmatched_43 : decode cX3_beginUnmatched 43 = .ok (.getfield 112, 3) := by decide +kernel
theorem dX3_beginUnmatched_46 : decode cX3_beginUnmatched 46 = .ok (.iload_n 3, 1) := by decide +kernel
theorem dX3_beginUnmatched_47 : decode cX3_beginUnmatched 47 = .ok (.iaload, 1) := by decide +kernel
theorem dX3_beginUnmatched_48 : decode cX3_beginUnmatched 48 = .ok (.invokevirtual 115, 3) := by decide +kernel
theorem dX3_beginUnmatched_51 : decode cX3_beginUnmatched 51 = .ok (.istore 5, 2) := by decide +kernel
theorem dX3_beginUnmatched_53 : decode cX3_beginUnmatched 53 = .ok (.aload_n 0, 1) := by decide +kernel
theorem dX3_beginUnmatched_54 : decode cX3_beginUnmatched 54 = .ok (.getfield 11, 3) := by decide +kernel
theorem dX3_beginUnmatched_57 : decode cX3_beginUnmatched 57 = .ok (.iload 4, 2) := by decide +kernel
theorem dX3_beginUnmatched_59 : decode cX3_beginUnmatched 59 = .ok (.aaload, 1) := by decide +kernel
theorem dX3_beginUnmatched_60 : decode cX3_beginUnmatched 60 = .ok (.aload_n 1, 1) := by decide +kernel
theorem dX3_beginUnmatched_61 : decode cX3_beginUnmatched 61 = .ok (.getfield 79, 3) := by decide +kernel
theorem dX3_beginUnmatched_64 : decode cX3_beginUnmatched 64 = .ok (.iload_n 3, 1) := by decide +kernel
theorem dX3_beginUnmatched_65 : decode cX3_beginUnmatched 65 = .ok (.iaload, 1) := by decide +kernel
theorem dX3_beginUnmatched_66 : decode cX3_beginUnmatched 66 = .ok (.aload_n 1, 1) := by decide +kernel
theorem dX3_beginUnmatched_67 : decode cX3_beginUnmatched 67 = .ok (.getfield 83, 3) := by decide +kernel
theorem dX3_beginUnmatched_70 : decode cX3_beginUnmatched 70 = .ok (.iload_n 3, 1) := by decide +kernel
theorem dX3_beginUnmatched_71 : decode cX3_beginUnmatched 71 = .ok (.iaload, 1) := by decide +kernel
theorem dX3_beginUnmatched_72 : decode cX3_beginUnmatched 72 = .ok (.iload 5, 2) := by decide +kernel
theorem dX3_beginUnmatched_74 : decode cX3_beginUnmatched 74 = .ok (.invokevirtual 118, 3) := by decide +kernel
theorem dX3_beginUnmatched_77 : decode cX3_beginUnmatched 77 = .ok (.aload_n 0, 1) := by decide +kernel
theorem dX3_beginUnmatched_78 : decode cX3_beginUnmatched 78 = .ok (.dup, 1) := by decide +kernel
theorem dX3_beginUnmatched_79 : decode cX3_beginUnmatched 79 = .ok (.getfield 121, 3) := by decide +kernel
theorem dX3_beginUnmatched_82 : decode cX3_beginUnmatched 82 = .ok (.iconst 1, 1) := by decide +kernel
theorem dX3_beginUnmatched_83 : decode cX3_beginUnmatched 83 = .ok (.iadd, 1) := by decide +kernel
theorem dX3_beginUnmatched_84 : decode cX3_beginUnmatched 84 = .ok (.putfield 121, 3) := by decide +kernel
theorem dX3_beginUnmatched_87 : decode cX3_beginUnmatched 87 = .ok (.aload_n 0, 1) := by decide +kernel
theorem dX3_beginUnmatched_88 : decode cX3_beginUnmatched 88 = .ok (.iload 4, 2) := by decide +kernel
theorem dX3_beginUnmatched_90 : decode cX3_beginUnmatched 90 = .ok (.invokevirtual 124, 3) := by decide +kernel
theorem dX3_beginUnmatched_93 : decode cX3_beginUnmatched 93 = .ok (.iinc 3 1, 3) := by decide +kernel
theorem dX3_beginUnmatched_96 : decode cX3_beginUnmatched 96 = .ok (.goto (-94), 3) := by decide +kernel
theorem dX3_beginUnmatched_99 : decode cX3_beginUnmatched 99 = .ok (.return_, 1) := by decide +kernel
theorem dX3_freeName_0 : decode cX3_freeName 0 = .ok (.iconst 0, 1) := by decide +kernel
theorem dX3_freeName_1 : decode cX3_freeName 1 = .ok (.istore_n 1, 1) := by decide +kernel
theorem dX3_freeName_2 : decode cX3_freeName 2 = .ok (.iload_n 1, 1) := by decide +kernel
theorem dX3_freeName_3 : decode cX3_freeName 3 = .ok (.iconst 5, 1) := by decide +kernel
theorem dX3_freeName_4 : decode cX3_freeName 4 = .ok (.if_icmp .ge 23, 3) := by decide +kernel
theorem dX3_freeName_7 : decode cX3_freeName 7 = .ok (.aload_n 0, 1) := by decide +kernel
theorem dX3_freeName_8 : decode cX3_freeName 8 = .ok (.getfield 11, 3) := by decide +kernel
theorem dX3_freeName_11 : decode cX3_freeName 11 = .ok (.iload_n 1, 1) := by decide +kernel
theorem dX3_freeName_12 : decode cX3_freeName 12 = .ok (.aaload, 1) := by decide +kernel
theorem dX3_freeName_13 : decode cX3_freeName 13 = .ok (.getfield 22, 3) := by decide +kernel
theorem dX3_freeName_16 : decode cX3_freeName 16 = .ok (.ifCond .ne 5, 3) := by decide +kernel
theorem dX3_freeName_19 : decode cX3_freeName 19 = .ok (.iload_n 1, 1) := by decide +kernel
theorem dX3_freeName_20 : decode cX3_freeName 20 = .ok (.ireturn, 1) := by decide +kernel
theorem dX3_freeName_21 : decode cX3_freeName 21 = .ok (.iinc 1 1, 3) := by decide +kernel
theorem dX3_freeName_24 : decode cX3_freeName 24 = .ok (.goto (-22), 3) := by decide +kernel
theorem dX3_freeName_27 : decode cX3_freeName 27 = .ok (.iconst (-1), 1) := by decide +kernel
theorem dX3_freeName_28 : decode cX3_freeName 28 = .ok (.ireturn, 1) := by decide +kernel
theorem dX3_isMatchedBy_0 : decode cX3_isMatchedBy 0 = .ok (.iconst 0, 1) := by decide +kernel
theorem dX3_isMatchedBy_1 : decode cX3_isMatchedBy 1 = .ok (.istore_n 2, 1) := by decide +kernel
theorem dX3_isMatchedBy_2 : decode cX3_isMatchedBy 2 = .ok (.iload_n 2, 1) := by decide +kernel
theorem dX3_isMatchedBy_3 : decode cX3_isMatchedBy 3 = .ok (.iconst 5, 1) := by decide +kernel
theorem dX3_isMatchedBy_4 : decode cX3_isMatchedBy 4 = .ok (.if_icmp .ge 20, 3) := by decide +kernel
theorem dX3_isMatchedBy_7 : decode cX3_isMatchedBy 7 = .ok (.aload_n 0, 1) := by decide +kernel
theorem dX3_isMatchedBy_8 : decode cX3_isMatchedBy 8 = .ok (.iload_n 2, 1) := by decide +kernel
theorem dX3_isMatchedBy_9 : decode cX3_isMatchedBy 9 = .ok (.invokevirtual 64, 3) := by decide +kernel
theorem dX3_isMatchedBy_12 : decode cX3_isMatchedBy 12 = .ok (.iload_n 1, 1) := by decide +kernel
theorem dX3_isMatchedBy_13 : decode cX3_isMatchedBy 13 = .ok (.if_icmp .ne 5, 3) := by decide +kernel
theorem dX3_isMatchedBy_16 : decode cX3_isMatchedBy 16 = .ok (.iconst 1, 1) := by decide +kernel
theorem dX3_isMatchedBy_17 : decode cX3_isMatchedBy 17 = .ok (.ireturn, 1) := by decide +kernel
theorem dX3_isMatchedBy_18 : decode cX3_isMatchedBy 18 = .ok (.iinc 2 1, 3) := by decide +kernel
theorem dX3_isMatchedBy_21 : decode cX3_isMatchedBy 21 = .ok (.goto (-19), 3) := by decide +kernel
theorem dX3_isMatchedBy_24 : decode cX3_isMatchedBy 24 = .ok (.iconst 0, 1) := by decide +kernel
theorem dX3_isMatchedBy_25 : decode cX3_isMatchedBy 25 = .ok (.ireturn, 1) := by decide +kernel
theorem dX3_rememberApart_0 : decode cX3_rememberApart 0 = .ok (.iconst 0, 1) := by decide +kernel
theorem dX3_rememberApart_1 : decode cX3_rememberApart 1 = .ok (.istore_n 2, 1) := by decide +kernel
theorem dX3_rememberApart_2 : decode cX3_rememberApart 2 = .ok (.iload_n 2, 1) := by decide +kernel
theorem dX3_rememberApart_3 : decode cX3_rememberApart 3 = .ok (.iconst 5, 1) := by decide +kernel
theorem dX3_rememberApart_4 : decode cX3_rememberApart 4 = .ok (.if_icmp .ge 61, 3) := by decide +kernel
theorem dX3_rememberApart_7 : decode cX3_rememberApart 7 = .ok (.aload_n 0, 1) := by decide +kernel
theorem dX3_rememberApart_8 : decode cX3_rememberApart 8 = .ok (.getfield 11, 3) := by decide +kernel
theorem dX3_rememberApart_11 : decode cX3_rememberApart 11 = .ok (.iload_n 2, 1) := by decide +kernel
theorem dX3_rememberApart_12 : decode cX3_rememberApart 12 = .ok (.aaload, 1) := by decide +kernel
theorem dX3_rememberApart_13 : decode cX3_rememberApart 13 = .ok (.getfield 22, 3) := by decide +kernel
theorem dX3_rememberApart_16 : decode cX3_rememberApart 16 = .ok (.ifCond .eq 43, 3) := by decide +kernel
theorem dX3_rememberApart_19 : decode cX3_rememberApart 19 = .ok (.aload_n 0, 1) := by decide +kernel
theorem dX3_rememberApart_20 : decode cX3_rememberApart 20 = .ok (.getfield 11, 3) := by decide +kernel
theorem dX3_rememberApart_23 : decode cX3_rememberApart 23 = .ok (.iload_n 1, 1) := by decide +kernel
theorem dX3_rememberApart_24 : decode cX3_rememberApart 24 = .ok (.aaload, 1) := by decide +kernel
theorem dX3_rememberApart_25 : decode cX3_rememberApart 25 = .ok (.aload_n 0, 1) := by decide +kernel
theorem dX3_rememberApart_26 : decode cX3_rememberApart 26 = .ok (.getfield 11, 3) := by decide +kernel
theorem dX3_rememberApart_29 : decode cX3_rememberApart 29 = .ok (.iload_n 2, 1) := by decide +kernel
theorem dX3_rememberApart_30 : decode cX3_rememberApart 30 = .ok (.aaload, 1) := by decide +kernel
theorem dX3_rememberApart_31 : decode cX3_rememberApart 31 = .ok (.invokevirtual 128, 3) := by decide +kernel
theorem dX3_rememberApart_34 : decode cX3_rememberApart 34 = .ok (.fstore_n 3, 1) := by decide +kernel
theorem dX3_rememberApart_35 : decode cX3_rememberApart 35 = .ok (.aload_n 0, 1) := by decide +kernel
theorem dX3_rememberApart_36 : decode cX3_rememberApart 36 = .ok (.getfield 11, 3) := by decide +kernel
theorem dX3_rememberApart_39 : decode cX3_rememberApart 39 = .ok (.iload_n 1, 1) := by decide +kernel
theorem dX3_rememberApart_40 : decode cX3_rememberApart 40 = .ok (.aaload, 1) := by decide +kernel
theorem dX3_rememberApart_41 : decode cX3_rememberApart 41 = .ok (.getfield 132, 3) := by decide +kernel
theorem dX3_rememberApart_44 : decode cX3_rememberApart 44 = .ok (.iload_n 2, 1) := by decide +kernel
theorem dX3_rememberApart_45 : decode cX3_rememberApart 45 = .ok (.fload_n 3, 1) := by decide +kernel
theorem dX3_rememberApart_46 : decode cX3_rememberApart 46 = .ok (.fastore, 1) := by decide +kernel
theorem dX3_rememberApart_47 : decode cX3_rememberApart 47 = .ok (.aload_n 0, 1) := by decide +kernel
theorem dX3_rememberApart_48 : decode cX3_rememberApart 48 = .ok (.getfield 11, 3) := by decide +kernel
theorem dX3_rememberApart_51 : decode cX3_rememberApart 51 = .ok (.iload_n 2, 1) := by decide +kernel
theorem dX3_rememberApart_52 : decode cX3_rememberApart 52 = .ok (.aaload, 1) := by decide +kernel
theorem dX3_rememberApart_53 : decode cX3_rememberApart 53 = .ok (.getfield 132, 3) := by decide +kernel
theorem dX3_rememberApart_56 : decode cX3_rememberApart 56 = .ok (.iload_n 1, 1) := by decide +kernel
theorem dX3_rememberApart_57 : decode cX3_rememberApart 57 = .ok (.fload_n 3, 1) := by decide +kernel
theorem dX3_rememberApart_58 : decode cX3_rememberApart 58 = .ok (.fastore, 1) := by decide +kernel
theorem dX3_rememberApart_59 : decode cX3_rememberApart 59 = .ok (.iinc 2 1, 3) := by decide +kernel
theorem dX3_rememberApart_62 : decode cX3_rememberApart 62 = .ok (.goto (-60), 3) := by decide +kernel
theorem dX3_rememberApart_65 : decode cX3_rememberApart 65 = .ok (.return_, 1) := by decide +kernel
theorem dX3_claimPinches_0 : decode cX3_claimPinches 0 = .ok (.iconst 0, 1) := by decide +kernel
theorem dX3_claimPinches_1 : decode cX3_claimPinches 1 = .ok (.istore_n 1, 1) := by decide +kernel
theorem dX3_claimPinches_2 : decode cX3_claimPinches 2 = .ok (.iload_n 1, 1) := by decide +kernel
theorem dX3_claimPinches_3 : decode cX3_claimPinches 3 = .ok (.iconst 5, 1) := by decide +kernel
theorem dX3_claimPinches_4 : decode cX3_claimPinches 4 = .ok (.if_icmp .ge 79, 3) := by decide +kernel
theorem dX3_claimPinches_7 : decode cX3_claimPinches 7 = .ok (.iload_n 1, 1) := by decide +kernel
theorem dX3_claimPinches_8 : decode cX3_claimPinches 8 = .ok (.iconst 1, 1) := by decide +kernel
theorem dX3_claimPinches_9 : decode cX3_claimPinches 9 = .ok (.iadd, 1) := by decide +kernel
theorem dX3_claimPinches_10 : decode cX3_claimPinches 10 = .ok (.istore_n 2, 1) := by decide +kernel
theorem dX3_claimPinches_11 : decode cX3_claimPinches 11 = .ok (.iload_n 2, 1) := by decide +kernel
theorem dX3_claimPinches_12 : decode cX3_claimPinches 12 = .ok (.iconst 5, 1) := by decide +kernel
theorem dX3_claimPinches_13 : decode cX3_claimPinches 13 = .ok (.if_icmp .ge 64, 3) := by decide +kernel
theorem dX3_claimPinches_16 : decode cX3_claimPinches 16 = .ok (.aload_n 0, 1) := by decide +kernel
theorem dX3_claimPinches_17 : decode cX3_claimPinches 17 = .ok (.getfield 11, 3) := by decide +kernel
theorem dX3_claimPinches_20 : decode cX3_claimPinches 20 = .ok (.iload_n 1, 1) := by decide +kernel
theorem dX3_claimPinches_21 : decode cX3_claimPinches 21 = .ok (.aaload, 1) := by decide +kernel
theorem dX3_claimPinches_22 : decode cX3_claimPinches 22 = .ok (.invokevirtual 136, 3) := by decide +kernel
theorem dX3_claimPinches_25 : decode cX3_claimPinches 25 = .ok (.ifCond .eq 46, 3) := by decide +kernel
theorem dX3_claimPinches_28 : decode cX3_claimPinches 28 = .ok (.aload_n 0, 1) := by decide +kernel
theorem dX3_claimPinches_29 : decode cX3_claimPinches 29 = .ok (.getfield 11, 3) := by decide +kernel
theorem dX3_claimPinches_32 : decode cX3_claimPinches 32 = .ok (.iload_n 2, 1) := by decide +kernel
theorem dX3_claimPinches_33 : decode cX3_claimPinches 33 = .ok (.aaload, 1) := by decide +kernel
theorem dX3_claimPinches_34 : decode cX3_claimPinches 34 = .ok (.invokevirtual 136, 3) := by decide +kernel
theorem dX3_claimPinches_37 : decode cX3_claimPinches 37 = .ok (.ifCond .eq 34, 3) := by decide +kernel
theorem dX3_claimPinches_40 : decode cX3_claimPinches 40 = .ok (.aload_n 0, 1) := by decide +kernel
theorem dX3_claimPinches_41 : decode cX3_claimPinches 41 = .ok (.iload_n 1, 1) := by decide +kernel
theorem dX3_claimPinches_42 : decode cX3_claimPinches 42 = .ok (.iload_n 2, 1) := by decide +kernel
theorem dX3_claimPinches_43 : decode cX3_claimPinches 43 = .ok (.invokevirtual 140, 3) := by decide +kernel
theorem dX3_claimPinches_46 : decode cX3_claimPinches 46 = .ok (.ifCond .eq 25, 3) := by decide +kernel
theorem dX3_claimPinches_49 : decode cX3_claimPinches 49 = .ok (.aload_n 0, 1) := by decide +kernel
theorem dX3_claimPinches_50 : decode cX3_claimPinches 50 = .ok (.aload_n 0, 1) := by decide +kernel
theorem dX3_claimPinches_51 : decode cX3_claimPinches 51 = .ok (.getfield 11, 3) := by decide +kernel
theorem dX3_claimPinches_54 : decode cX3_claimPinches 54 = .ok (.iload_n 1, 1) := by decide +kernel
theorem dX3_claimPinches_55 : decode cX3_claimPinches 55 = .ok (.aaload, 1) := by decide +kernel
theorem dX3_claimPinches_56 : decode cX3_claimPinches 56 = .ok (.iconst 1, 1) := by decide +kernel
theorem dX3_claimPinches_57 : decode cX3_claimPinches 57 = .ok (.invokevirtual 144, 3) := by decide +kernel
theorem dX3_claimPinches_60 : decode cX3_claimPinches 60 = .ok (.aload_n 0, 1) := by decide +kernel
theorem dX3_claimPinches_61 : decode cX3_claimPinches 61 = .ok (.aload_n 0, 1) := by decide +kernel
theorem dX3_claimPinches_62 : decode cX3_claimPinches 62 = .ok (.getfield 11, 3) := by decide +kernel
theorem dX3_claimPinches_65 : decode cX3_claimPinches 65 = .ok (.iload_n 2, 1) := by decide +kernel
theorem dX3_claimPinches_66 : decode cX3_claimPinches 66 = .ok (.aaload, 1) := by decide +kernel
theorem dX3_claimPinches_67 : decode cX3_claimPinches 67 = .ok (.iconst 1, 1) := by decide +kernel
theorem dX3_claimPinches_68 : decode cX3_claimPinches 68 = .ok (.invokevirtual 144, 3) := by decide +kernel
theorem dX3_claimPinches_71 : decode cX3_claimPinches 71 = .ok (.iinc 2 1, 3) := by decide +kernel
theorem dX3_claimPinches_74 : decode cX3_claimPinches 74 = .ok (.goto (-63), 3) := by decide +kernel
theorem dX3_claimPinches_77 : decode cX3_claimPinches 77 = .ok (.iinc 1 1, 3) := by decide +kernel
theorem dX3_claimPinches_80 : decode cX3_claimPinches 80 = .ok (.goto (-78), 3) := by decide +kernel
theorem dX3_claimPinches_83 : decode cX3_claimPinches 83 = .ok (.return_, 1) := by decide +kernel
theorem dX3_isPinch_0 : decode cX3_isPinch 0 = .ok (.aload_n 0, 1) := by decide +kernel
theorem dX3_isPinch_1 : decode cX3_isPinch 1 = .ok (.getfield 11, 3) := by decide +kernel
theorem dX3_isPinch_4 : decode cX3_isPinch 4 = .ok (.iload_n 1, 1) := by decide +kernel
theorem dX3_isPinch_5 : decode cX3_isPinch 5 = .ok (.aaload, 1) := by decide +kernel
theorem dX3_isPinch_6 : decode cX3_isPinch 6 = .ok (.aload_n 0, 1) := by decide +kernel
theorem dX3_isPinch_7 : decode cX3_isPinch 7 = .ok (.getfield 11, 3) := by decide +kernel
theorem dX3_isPinch_10 : decode cX3_isPinch 10 = .ok (.iload_n 2, 1) := by decide +kernel
theorem dX3_isPinch_11 : decode cX3_isPinch 11 = .ok (.aaload, 1) := by decide +kernel
theorem dX3_isPinch_12 : decode cX3_isPinch 12 = .ok (.invokevirtual 128, 3) := by decide +kernel
theorem dX3_isPinch_15 : decode cX3_isPinch 15 = .ok (.fstore_n 3, 1) := by decide +kernel
theorem dX3_isPinch_16 : decode cX3_isPinch 16 = .ok (.fload_n 3, 1) := by decide +kernel
theorem dX3_isPinch_17 : decode cX3_isPinch 17 = .ok (.aload_n 0, 1) := by decide +kernel
theorem dX3_isPinch_18 : decode cX3_isPinch 18 = .ok (.getfield 11, 3) := by decide +kernel
theorem dX3_isPinch_21 : decode cX3_isPinch 21 = .ok (.iload_n 1, 1) := by decide +kernel
theorem dX3_isPinch_22 : decode cX3_isPinch 22 = .ok (.aaload, 1) := by decide +kernel
theorem dX3_isPinch_23 : decode cX3_isPinch 23 = .ok (.getfield 132, 3) := by decide +kernel
theorem dX3_isPinch_26 : decode cX3_isPinch 26 = .ok (.iload_n 2, 1) := by decide +kernel
theorem dX3_isPinch_27 : decode cX3_isPinch 27 = .ok (.faload, 1) := by decide +kernel
theorem dX3_isPinch_28 : decode cX3_isPinch 28 = .ok (.fsub, 1) := by decide +kernel
theorem dX3_isPinch_29 : decode cX3_isPinch 29 = .ok (.invokestatic 147, 3) := by decide +kernel
theorem dX3_isPinch_32 : decode cX3_isPinch 32 = .ok (.ldc 151, 2) := by decide +kernel
theorem dX3_isPinch_34 : decode cX3_isPinch 34 = .ok (.fcmp .l, 1) := by decide +kernel
theorem dX3_isPinch_35 : decode cX3_isPinch 35 = .ok (.ifCond .le 7, 3) := by decide +kernel
theorem dX3_isPinch_38 : decode cX3_isPinch 38 = .ok (.iconst 1, 1) := by decide +kernel
theorem dX3_isPinch_39 : decode cX3_isPinch 39 = .ok (.goto 4, 3) := by decide +kernel
theorem dX3_isPinch_42 : decode cX3_isPinch 42 = .ok (.iconst 0, 1) := by decide +kernel
theorem dX3_isPinch_43 : decode cX3_isPinch 43 = .ok (.ireturn, 1) := by decide +kernel
theorem dX3_claimAlone_0 : decode cX3_claimAlone 0 = .ok (.iconst 0, 1) := by decide +kernel
theorem dX3_claimAlone_1 : decode cX3_claimAlone 1 = .ok (.istore_n 1, 1) := by decide +kernel
theorem dX3_claimAlone_2 : decode cX3_claimAlone 2 = .ok (.iload_n 1, 1) := by decide +kernel
theorem dX3_claimAlone_3 : decode cX3_claimAlone 3 = .ok (.iconst 5, 1) := by decide +kernel
theorem dX3_claimAlone_4 : decode cX3_claimAlone 4 = .ok (.if_icmp .ge 64, 3) := by decide +kernel
theorem dX3_claimAlone_7 : decode cX3_claimAlone 7 = .ok (.aload_n 0, 1) := by decide +kernel
theorem dX3_claimAlone_8 : decode cX3_claimAlone 8 = .ok (.getfield 11, 3) := by decide +kernel
theorem dX3_claimAlone_11 : decode cX3_claimAlone 11 = .ok (.iload_n 1, 1) := by decide +kernel
theorem dX3_claimAlone_12 : decode cX3_claimAlone 12 = .ok (.aaload, 1) := by decide +kernel
theorem dX3_claimAlone_13 : decode cX3_claimAlone 13 = .ok (.astore_n 2, 1) := by decide +kernel
theorem dX3_claimAlone_14 : decode cX3_claimAlone 14 = .ok (.aload_n 2, 1) := by decide +kernel
theorem dX3_claimAlone_15 : decode cX3_claimAlone 15 = .ok (.invokevirtual 136, 3) := by decide +kernel
theorem dX3_claimAlone_18 : decode cX3_claimAlone 18 = .ok (.ifCond .eq 22, 3) := by decide +kernel
theorem dX3_claimAlone_21 : decode cX3_claimAlone 21 = .ok (.aload_n 2, 1) := by decide +kernel
theorem dX3_claimAlone_22 : decode cX3_claimAlone 22 = .ok (.getfield 152, 3) := by decide +kernel
theorem dX3_claimAlone_25 : decode cX3_claimAlone 25 = .ok (.ldc 156, 2) := by decide +kernel
theorem dX3_claimAlone_27 : decode cX3_claimAlone 27 = .ok (.fcmp .l, 1) := by decide +kernel
theorem dX3_claimAlone_28 : decode cX3_claimAlone 28 = .ok (.ifCond .le 12, 3) := by decide +kernel
theorem dX3_claimAlone_31 : decode cX3_claimAlone 31 = .ok (.aload_n 0, 1) := by decide +kernel
theorem dX3_claimAlone_32 : decode cX3_claimAlone 32 = .ok (.aload_n 2, 1) := by decide +kernel
theorem dX3_claimAlone_33 : decode cX3_claimAlone 33 = .ok (.iconst 2, 1) := by decide +kernel
theorem dX3_claimAlone_34 : decode cX3_claimAlone 34 = .ok (.invokevirtual 144, 3) := by decide +kernel
theorem dX3_claimAlone_37 : decode cX3_claimAlone 37 = .ok (.goto 25, 3) := by decide +kernel
theorem dX3_claimAlone_40 : decode cX3_claimAlone 40 = .ok (.aload_n 2, 1) := by decide +kernel
theorem dX3_claimAlone_41 : decode cX3_claimAlone 41 = .ok (.invokevirtual 136, 3) := by decide +kernel
theorem dX3_claimAlone_44 : decode cX3_claimAlone 44 = .ok (.ifCond .eq 18, 3) := by decide +kernel
theorem dX3_claimAlone_47 : decode cX3_claimAlone 47 = .ok (.aload_n 2, 1) := by decide +kernel
theorem dX3_claimAlone_48 : decode cX3_claimAlone 48 = .ok (.getfield 101, 3) := by decide +kernel
theorem dX3_claimAlone_51 : decode cX3_claimAlone 51 = .ok (.bipush 8, 2) := by decide +kernel
theorem dX3_claimAlone_53 : decode cX3_claimAlone 53 = .ok (.if_icmp .lt 9, 3) := by decide +kernel
theorem dX3_claimAlone_56 : decode cX3_claimAlone 56 = .ok (.aload_n 0, 1) := by decide +kernel
theorem dX3_claimAlone_57 : decode cX3_claimAlone 57 = .ok (.aload_n 2, 1) := by decide +kernel
theorem dX3_claimAlone_58 : decode cX3_claimAlone 58 = .ok (.iconst 3, 1) := by decide +kernel
theorem dX3_claimAlone_59 : decode cX3_claimAlone 59 = .ok (.invokevirtual 144, 3) := by decide +kernel
theorem dX3_claimAlone_62 : decode cX3_claimAlone 62 = .ok (.iinc 1 1, 3) := by decide +kernel
theorem dX3_claimAlone_65 : decode cX3_claimAlone 65 = .ok (.goto (-63), 3) := by decide +kernel
theorem dX3_claimAlone_68 : decode cX3_claimAlone 68 = .ok (.return_, 1) := by decide +kernel
theorem dX3_claim_0 : decode cX3_claim 0 = .ok (.aload_n 1, 1) := by decide +kernel
theorem dX3_claim_1 : decode cX3_claim 1 = .ok (.iload_n 2, 1) := by decide +kernel
theorem dX3_claim_2 : decode cX3_claim 2 = .ok (.putfield 55, 3) := by decide +kernel
theorem dX3_claim_5 : decode cX3_claim 5 = .ok (.aload_n 0, 1) := by decide +kernel
theorem dX3_claim_6 : decode cX3_claim 6 = .ok (.getfield 17, 3) := by decide +kernel
theorem dX3_claim_9 : decode cX3_claim 9 = .ok (.aload_n 1, 1) := by decide +kernel
theorem dX3_claim_10 : decode cX3_claim 10 = .ok (.getfield 26, 3) := by decide +kernel
theorem dX3_claim_13 : decode cX3_claim 13 = .ok (.iload_n 2, 1) := by decide +kernel
theorem dX3_claim_14 : decode cX3_claim 14 = .ok (.iconst 1, 1) := by decide +kernel
theorem dX3_claim_15 : decode cX3_claim 15 = .ok (.invokevirtual 58, 3) := by decide +kernel
theorem dX3_claim_18 : decode cX3_claim 18 = .ok (.return_, 1) := by decide +kernel
theorem dX4_init_0 : decode cX4_init 0 = .ok (.aload_n 0, 1) := by decide +kernel
theorem dX4_init_1 : decode cX4_init 1 = .ok (.invokespecial 3, 3) := by decide +kernel
theorem dX4_init_4 : decode cX4_init 4 = .ok (.aload_n 0, 1) := by decide +kernel
theorem dX4_init_5 : decode cX4_init 5 = .ok (.bipush 32, 2) := by decide +kernel
theorem dX4_init_7 : decode cX4_init 7 = .ok (.newarray .long, 2) := by decide +kernel
theorem dX4_init_9 : decode cX4_init 9 = .ok (.putfield 11, 3) := by decide +kernel
theorem dX4_init_12 : decode cX4_init 12 = .ok (.aload_n 0, 1) := by decide +kernel
theorem dX4_init_13 : decode cX4_init 13 = .ok (.iconst 5, 1) := by decide +kernel
theorem dX4_init_14 : decode cX4_init 14 = .ok (.newarray .long, 2) := by decide +kernel
theorem dX4_init_16 : decode cX4_init 16 = .ok (.putfield 15, 3) := by decide +kernel
theorem dX4_init_19 : decode cX4_init 19 = .ok (.return_, 1) := by decide +kernel
theorem dX4_pair_0 : decode cX4_pair 0 = .ok (.aload_n 0, 1) := by decide +kernel
theorem dX4_pair_1 : decode cX4_pair 1 = .ok (.getfield 11, 3) := by decide +kernel
theorem dX4_pair_4 : decode cX4_pair 4 = .ok (.iconst 0, 1) := by decide +kernel
theorem dX4_pair_5 : decode cX4_pair 5 = .ok (.lconst 0, 1) := by decide +kernel
theorem dX4_pair_6 : decode cX4_pair 6 = .ok (.lastore, 1) := by decide +kernel
theorem dX4_pair_7 : decode cX4_pair 7 = .ok (.iconst 1, 1) := by decide +kernel
theorem dX4_pair_8 : decode cX4_pair 8 = .ok (.istore_n 3, 1) := by decide +kernel
theorem dX4_pair_9 : decode cX4_pair 9 = .ok (.iload_n 3, 1) := by decide +kernel
theorem dX4_pair_10 : decode cX4_pair 10 = .ok (.bipush 32, 2) := by decide +kernel
theorem dX4_pair_12 : decode cX4_pair 12 = .ok (.if_icmp .ge 18, 3) := by decide +kernel
theorem dX4_pair_15 : decode cX4_pair 15 = .ok (.aload_n 0, 1) := by decide +kernel
theorem dX4_pair_16 : decode cX4_pair 16 = .ok (.getfield 11, 3) := by decide +kernel
theorem dX4_pair_19 : decode cX4_pair 19 = .ok (.iload_n 3, 1) := by decide +kernel
theorem dX4_pair_20 : decode cX4_pair 20 = .ok (.ldc2_w 18, 3) := by decide +kernel
theorem dX4_pair_23 : decode cX4_pair 23 = .ok (.lastore, 1) := by decide +kernel
theorem dX4_pair_24 : decode cX4_pair 24 = .ok (.iinc 3 1, 3) := by decide +kernel
theorem dX4_pair_27 : decode cX4_pair 27 = .ok (.goto (-18), 3) := by decide +kernel
theorem dX4_pair_30 : decode cX4_pair 30 = .ok (.iconst 0, 1) := by decide +kernel
theorem dX4_pair_31 : decode cX4_pair 31 = .ok (.istore_n 3, 1) := by decide +kernel
theorem dX4_pair_32 : decode cX4_pair 32 = .ok (.iload_n 3, 1) := by decide +kernel
theorem dX4_pair_33 : decode cX4_pair 33 = .ok (.aload_n 1, 1) := by decide +kernel
theorem dX4_pair_34 : decode cX4_pair 34 = .ok (.getfield 20, 3) := by decide +kernel
theorem dX4_pair_37 : decode cX4_pair 37 = .ok (.if_icmp .ge 46, 3) := by decide +kernel
theorem dX4_pair_40 : decode cX4_pair 40 = .ok (.iconst 0, 1) := by decide +kernel
theorem dX4_pair_41 : decode cX4_pair 41 = .ok (.istore 4, 2) := by decide +kernel
theorem dX4_pair_43 : decode cX4_pair 43 = .ok (.iload 4, 2) := by decide +kernel
theorem dX4_pair_45 : decode cX4_pair 45 = .ok (.iconst 5, 1) := by decide +kernel
theorem dX4_pair_46 : decode cX4_pair 46 = .ok (.if_icmp .ge 27, 3) := by decide +kernel
theorem dX4_pair_49 : decode cX4_pair 49 = .ok (.aload_n 0, 1) := by decide +kernel
theorem dX4_pair_50 : decode cX4_pair 50 = .ok (.getfield 15, 3) := by decide +kernel
theorem dX4_pair_53 : decode cX4_pair 53 = .ok (.iload 4, 2) := by decide +kernel
theorem dX4_pair_55 : decode cX4_pair 55 = .ok (.aload_n 2, 1) := by decide +kernel
theorem dX4_pair_56 : decode cX4_pair 56 = .ok (.iload 4, 2) := by decide +kernel
theorem dX4_pair_58 : decode cX4_pair 58 = .ok (.aaload, 1) := by decide +kernel
theorem dX4_pair_59 : decode cX4_pair 59 = .ok (.iload 4, 2) := by decide +kernel
theorem dX4_pair_61 : decode cX4_pair 61 = .ok (.aload_n 1, 1) := by decide +kernel
theorem dX4_pair_62 : decode cX4_pair 62 = .ok (.iload_n 3, 1) := by decide +kernel
theorem dX4_pair_63 : decode cX4_pair 63 = .ok (.invokestatic 26, 3) := by decide +kernel
theorem dX4_pair_66 : decode cX4_pair 66 = .ok (.lastore, 1) := by decide +kernel
theorem dX4_pair_67 : decode cX4_pair 67 = .ok (.iinc 4 1, 3) := by decide +kernel
theorem dX4_pair_70 : decode cX4_pair 70 = .ok (.goto (-27), 3) := by decide +kernel
theorem dX4_pair_73 : decode cX4_pair 73 = .ok (.aload_n 0, 1) := by decide +kernel
theorem dX4_pair_74 : decode cX4_pair 74 = .ok (.invokevirtual 30, 3) := by decide +kernel
theorem dX4_pair_77 : decode cX4_pair 77 = .ok (.iinc 3 1, 3) := by decide +kernel
theorem dX4_pair_80 : decode cX4_pair 80 = .ok (.goto (-48), 3) := by decide +kernel
theorem dX4_pair_83 : decode cX4_pair 83 = .ok (.aload_n 0, 1) := by decide +kernel
theorem dX4_pair_84 : decode cX4_pair 84 = .ok (.ldc2_w 18, 3) := by decide +kernel
theorem dX4_pair_87 : decode cX4_pair 87 = .ok (.putfield 33, 3) := by decide +kernel
theorem dX4_pair_90 : decode cX4_pair 90 = .ok (.iconst 0, 1) := by decide +kernel
theorem dX4_pair_91 : decode cX4_pair 91 = .ok (.istore_n 3, 1) := by decide +kernel
theorem dX4_pair_92 : decode cX4_pair 92 = .ok (.iload_n 3, 1) := by decide +kernel
theorem dX4_pair_93 : decode cX4_pair 93 = .ok (.bipush 32, 2) := by decide +kernel
theorem dX4_pair_95 : decode cX4_pair 95 = .ok (.if_icmp .ge 31, 3) := by decide +kernel
theorem dX4_pair_98 : decode cX4_pair 98 = .ok (.aload_n 0, 1) := by decide +kernel
theorem dX4_pair_99 : decode cX4_pair 99 = .ok (.aload_n 0, 1) := by decide +kernel
theorem dX4_pair_100 : decode cX4_pair 100 = .ok (.getfield 33, 3) := by decide +kernel
theorem dX4_pair_103 : decode cX4_pair 103 = .ok (.aload_n 0, 1) := by decide +kernel
theorem dX4_pair_104 : decode cX4_pair 104 = .ok (.getfield 11, 3) := by decide +kernel
theorem dX4_pair_107 : decode cX4_pair 107 = .ok (.iload_n 3, 1) := by decide +kernel
theorem dX4_pair_108 : decode cX4_pair 108 = .ok (.laload, 1) := by decide +kernel
theorem dX4_pair_109 : decode cX4_pair 109 = .ok (.iload_n 3, 1) := by decide +kernel
theorem dX4_pair_110 : decode cX4_pair 110 = .ok (.invokestatic 37, 3) := by decide +kernel
theorem dX4_pair_113 : decode cX4_pair 113 = .ok (.ladd, 1) := by decide +kernel
theorem dX4_pair_114 : decode cX4_pair 114 = .ok (.invokestatic 41, 3) := by decide +kernel
theorem dX4_pair_117 : decode cX4_pair 117 = .ok (.putfield 33, 3) := by decide +kernel
theorem dX4_pair_120 : decode cX4_pair 120 = .ok (.iinc 3 1, 3) := by decide +kernel
theorem dX4_pair_123 : decode cX4_pair 123 = .ok (.goto (-31), 3) := by decide +kernel
theorem dX4_pair_126 : decode cX4_pair 126 = .ok (.return_, 1) := by decide +kernel
theorem dX4_peakOf_0 : decode cX4_peakOf 0 = .ok (.aload_n 0, 1) := by decide +kernel
theorem dX4_peakOf_1 : decode cX4_peakOf 1 = .ok (.getfield 33, 3) := by decide +kernel
theorem dX4_peakOf_4 : decode cX4_peakOf 4 = .ok (.iload_n 1, 1) := by decide +kernel
theorem dX4_peakOf_5 : decode cX4_peakOf 5 = .ok (.invokestatic 47, 3) := by decide +kernel
theorem dX4_peakOf_8 : decode cX4_peakOf 8 = .ok (.lshr, 1) := by decide +kernel
theorem dX4_peakOf_9 : decode cX4_peakOf 9 = .ok (.l2i, 1) := by decide +kernel
theorem dX4_peakOf_10 : decode cX4_peakOf 10 = .ok (.bipush 63, 2) := by decide +kernel
theorem dX4_peakOf_12 : decode cX4_peakOf 12 = .ok (.iand, 1) := by decide +kernel
theorem dX4_peakOf_13 : decode cX4_peakOf 13 = .ok (.istore_n 2, 1) := by decide +kernel
theorem dX4_peakOf_14 : decode cX4_peakOf 14 = .ok (.iload_n 2, 1) := by decide +kernel
theorem dX4_peakOf_15 : decode cX4_peakOf 15 = .ok (.bipush 63, 2) := by decide +kernel
theorem dX4_peakOf_17 : decode cX4_peakOf 17 = .ok (.if_icmp .ne 7, 3) := by decide +kernel
theorem dX4_peakOf_20 : decode cX4_peakOf 20 = .ok (.iconst (-1), 1) := by decide +kernel
theorem dX4_peakOf_21 : decode cX4_peakOf 21 = .ok (.goto 4, 3) := by decide +kernel
theorem dX4_peakOf_24 : decode cX4_peakOf 24 = .ok (.iload_n 2, 1) := by decide +kernel
theorem dX4_peakOf_25 : decode cX4_peakOf 25 = .ok (.ireturn, 1) := by decide +kernel
theorem dX4_digitOf_0 : decode cX4_digitOf 0 = .ok (.bipush 6, 2) := by decide +kernel
theorem dX4_digitOf_2 : decode cX4_digitOf 2 = .ok (.iconst 4, 1) := by decide +kernel
theorem dX4_digitOf_3 : decode cX4_digitOf 3 = .ok (.iload_n 0, 1) := by decide +kernel
theorem dX4_digitOf_4 : decode cX4_digitOf 4 = .ok (.isub, 1) := by decide +kernel
theorem dX4_digitOf_5 : decode cX4_digitOf 5 = .ok (.imul, 1) := by decide +kernel
theorem dX4_digitOf_6 : decode cX4_digitOf 6 = .ok (.ireturn, 1) := by decide +kernel
theorem dX4_weightOf_0 : decode cX4_weightOf 0 = .ok (.aload_n 2, 1) := by decide +kernel
theorem dX4_weightOf_1 : decode cX4_weightOf 1 = .ok (.getfield 51, 3) := by decide +kernel
theorem dX4_weightOf_4 : decode cX4_weightOf 4 = .ok (.iload_n 3, 1) := by decide +kernel
theorem dX4_weightOf_5 : decode cX4_weightOf 5 = .ok (.iaload, 1) := by decide +kernel
theorem dX4_weightOf_6 : decode cX4_weightOf 6 = .ok (.aload_n 0, 1) := by decide +kernel
theorem dX4_weightOf_7 : decode cX4_weightOf 7 = .ok (.getfield 55, 3) := by decide +kernel
theorem dX4_weightOf_10 : decode cX4_weightOf 10 = .ok (.isub, 1) := by decide +kernel
theorem dX4_weightOf_11 : decode cX4_weightOf 11 = .ok (.i2l, 1) := by decide +kernel
theorem dX4_weightOf_12 : decode cX4_weightOf 12 = .ok (.lstore 4, 2) := by decide +kernel
theorem dX4_weightOf_14 : decode cX4_weightOf 14 = .ok (.aload_n 2, 1) := by decide +kernel
theorem dX4_weightOf_15 : decode cX4_weightOf 15 = .ok (.getfield 60, 3) := by decide +kernel
theorem dX4_weightOf_18 : decode cX4_weightOf 18 = .ok (.iload_n 3, 1) := by decide +kernel
theorem dX4_weightOf_19 : decode cX4_weightOf 19 = .ok (.iaload, 1) := by decide +kernel
theorem dX4_weightOf_20 : decode cX4_weightOf 20 = .ok (.aload_n 0, 1) := by decide +kernel
theorem dX4_weightOf_21 : decode cX4_weightOf 21 = .ok (.getfield 63, 3) := by decide +kernel
theorem dX4_weightOf_24 : decode cX4_weightOf 24 = .ok (.isub, 1) := by decide +kernel
theorem dX4_weightOf_25 : decode cX4_weightOf 25 = .ok (.i2l, 1) := by decide +kernel
theorem dX4_weightOf_26 : decode cX4_weightOf 26 = .ok (.lstore 6, 2) := by decide +kernel
theorem dX4_weightOf_28 : decode cX4_weightOf 28 = .ok (.lload 4, 2) := by decide +kernel
theorem dX4_weightOf_30 : decode cX4_weightOf 30 = .ok (.lload 4, 2) := by decide +kernel
theorem dX4_weightOf_32 : decode cX4_weightOf 32 = .ok (.lmul, 1) := by decide +kernel
theorem dX4_weightOf_33 : decode cX4_weightOf 33 = .ok (.lload 6, 2) := by decide +kernel
theorem dX4_weightOf_35 : decode cX4_weightOf 35 = .ok (.lload 6, 2) := by decide +kernel
theorem dX4_weightOf_37 : decode cX4_weightOf 37 = .ok (.lmul, 1) := by decide +kernel
theorem dX4_weightOf_38 : decode cX4_weightOf 38 = .ok (.ladd, 1) := by decide +kernel
theorem dX4_weightOf_39 : decode cX4_weightOf 39 = .ok (.lstore 8, 2) := by decide +kernel
theorem dX4_weightOf_41 : decode cX4_weightOf 41 = .ok (.aload_n 0, 1) := by decide +kernel
theorem dX4_weightOf_42 : decode cX4_weightOf 42 = .ok (.getfield 66, 3) := by decide +kernel
theorem dX4_weightOf_45 : decode cX4_weightOf 45 = .ok (.ifCond .eq 12, 3) := by decide +kernel
theorem dX4_weightOf_48 : decode cX4_weightOf 48 = .ok (.lload 8, 2) := by decide +kernel
theorem dX4_weightOf_50 : decode cX4_weightOf 50 = .ok (.ldc2_w 70, 3) := by decide +kernel
theorem dX4_weightOf_53 : decode cX4_weightOf 53 = .ok (.lcmp, 1) := by decide +kernel
theorem dX4_weightOf_54 : decode cX4_weightOf 54 = .ok (.ifCond .le 7, 3) := by decide +kernel
theorem dX4_weightOf_57 : decode cX4_weightOf 57 = .ok (.ldc2_w 18, 3) := by decide +kernel
theorem dX4_weightOf_60 : decode cX4_weightOf 60 = .ok (.lreturn, 1) := by decide +kernel
theorem dX4_weightOf_61 : decode cX4_weightOf 61 = .ok (.lload 8, 2) := by decide +kernel
theorem dX4_weightOf_63 : decode cX4_weightOf 63 = .ok (.bipush 30, 2) := by decide +kernel
theorem dX4_weightOf_65 : decode cX4_weightOf 65 = .ok (.lshl, 1) := by decide +kernel
theorem dX4_weightOf_66 : decode cX4_weightOf 66 = .ok (.iload_n 3, 1) := by decide +kernel
theorem dX4_weightOf_67 : decode cX4_weightOf 67 = .ok (.i2l, 1) := by decide +kernel
theorem dX4_weightOf_68 : decode cX4_weightOf 68 = .ok (.iload_n 1, 1) := by decide +kernel
theorem dX4_weightOf_69 : decode cX4_weightOf 69 = .ok (.invokestatic 47, 3) := by decide +kernel
theorem dX4_weightOf_72 : decode cX4_weightOf 72 = .ok (.lshl, 1) := by decide +kernel
theorem dX4_weightOf_73 : decode cX4_weightOf 73 = .ok (.ladd, 1) := by decide +kernel
theorem dX4_weightOf_74 : decode cX4_weightOf 74 = .ok (.lreturn, 1) := by decide +kernel
theorem dX4_offerPeak_0 : decode cX4_offerPeak 0 = .ok (.bipush 31, 2) := by decide +kernel
theorem dX4_offerPeak_2 : decode cX4_offerPeak 2 = .ok (.istore_n 1, 1) := by decide +kernel
theorem dX4_offerPeak_3 : decode cX4_offerPeak 3 = .ok (.iload_n 1, 1) := by decide +kernel
theorem dX4_offerPeak_4 : decode cX4_offerPeak 4 = .ok (.ifCond .le 89, 3) := by decide +kernel
theorem dX4_offerPeak_7 : decode cX4_offerPeak 7 = .ok (.iconst 0, 1) := by decide +kernel
theorem dX4_offerPeak_8 : decode cX4_offerPeak 8 = .ok (.istore_n 2, 1) := by decide +kernel
theorem dX4_offerPeak_9 : decode cX4_offerPeak 9 = .ok (.iload_n 2, 1) := by decide +kernel
theorem dX4_offerPeak_10 : decode cX4_offerPeak 10 = .ok (.iconst 5, 1) := by decide +kernel
theorem dX4_offerPeak_11 : decode cX4_offerPeak 11 = .ok (.if_icmp .ge 76, 3) := by decide +kernel
theorem dX4_offerPeak_14 : decode cX4_offerPeak 14 = .ok (.iload_n 1, 1) := by decide +kernel
theorem dX4_offerPeak_15 : decode cX4_offerPeak 15 = .ok (.iconst 1, 1) := by decide +kernel
theorem dX4_offerPeak_16 : decode cX4_offerPeak 16 = .ok (.iload_n 2, 1) := by decide +kernel
theorem dX4_offerPeak_17 : decode cX4_offerPeak 17 = .ok (.ishl, 1) := by decide +kernel
theorem dX4_offerPeak_18 : decode cX4_offerPeak 18 = .ok (.iconst (-1), 1) := by decide +kernel
theorem dX4_offerPeak_19 : decode cX4_offerPeak 19 = .ok (.ixor, 1) := by decide +kernel
theorem dX4_offerPeak_20 : decode cX4_offerPeak 20 = .ok (.iand, 1) := by decide +kernel
theorem dX4_offerPeak_21 : decode cX4_offerPeak 21 = .ok (.istore_n 3, 1) := by decide +kernel
theorem dX4_offerPeak_22 : decode cX4_offerPeak 22 = .ok (.iload_n 3, 1) := by decide +kernel
theorem dX4_offerPeak_23 : decode cX4_offerPeak 23 = .ok (.iload_n 1, 1) := by decide +kernel
theorem dX4_offerPeak_24 : decode cX4_offerPeak 24 = .ok (.if_icmp .eq 57, 3) := by decide +kernel
theorem dX4_offerPeak_27 : decode cX4_offerPeak 27 = .ok (.aload_n 0, 1) := by decide +kernel
theorem dX4_offerPeak_28 : decode cX4_offerPeak 28 = .ok (.getfield 15, 3) := by decide +kernel
theorem dX4_offerPeak_31 : decode cX4_offerPeak 31 = .ok (.iload_n 2, 1) := by decide +kernel
theorem dX4_offerPeak_32 : decode cX4_offerPeak 32 = .ok (.laload, 1) := by decide +kernel
theorem dX4_offerPeak_33 : decode cX4_offerPeak 33 = .ok (.ldc2_w 18, 3) := by decide +kernel
theorem dX4_offerPeak_36 : decode cX4_offerPeak 36 = .ok (.lcmp, 1) := by decide +kernel
theorem dX4_offerPeak_37 : decode cX4_offerPeak 37 = .ok (.ifCond .ge 44, 3) := by decide +kernel
theorem dX4_offerPeak_40 : decode cX4_offerPeak 40 = .ok (.aload_n 0, 1) := by decide +kernel
theorem dX4_offerPeak_41 : decode cX4_offerPeak 41 = .ok (.getfield 11, 3) := by decide +kernel
theorem dX4_offerPeak_44 : decode cX4_offerPeak 44 = .ok (.iload_n 3, 1) := by decide +kernel
theorem dX4_offerPeak_45 : decode cX4_offerPeak 45 = .ok (.laload, 1) := by decide +kernel
theorem dX4_offerPeak_46 : decode cX4_offerPeak 46 = .ok (.ldc2_w 18, 3) := by decide +kernel
theorem dX4_offerPeak_49 : decode cX4_offerPeak 49 = .ok (.lcmp, 1) := by decide +kernel
theorem dX4_offerPeak_50 : decode cX4_offerPeak 50 = .ok (.ifCond .ge 31, 3) := by decide +kernel
theorem dX4_offerPeak_53 : decode cX4_offerPeak 53 = .ok (.aload_n 0, 1) := by decide +kernel
theorem dX4_offerPeak_54 : decode cX4_offerPeak 54 = .ok (.getfield 11, 3) := by decide +kernel
theorem dX4_offerPeak_57 : decode cX4_offerPeak 57 = .ok (.iload_n 1, 1) := by decide +kernel
theorem dX4_offerPeak_58 : decode cX4_offerPeak 58 = .ok (.aload_n 0, 1) := by decide +kernel
theorem dX4_offerPeak_59 : decode cX4_offerPeak 59 = .ok (.getfield 11, 3) := by decide +kernel
theorem dX4_offerPeak_62 : decode cX4_offerPeak 62 = .ok (.iload_n 1, 1) := by decide +kernel
theorem dX4_offerPeak_63 : decode cX4_offerPeak 63 = .ok (.laload, 1) := by decide +kernel
theorem dX4_offerPeak_64 : decode cX4_offerPeak 64 = .ok (.aload_n 0, 1) := by decide +kernel
theorem dX4_offerPeak_65 : decode cX4_offerPeak 65 = .ok (.getfield 11, 3) := by decide +kernel
theorem dX4_offerPeak_68 : decode cX4_offerPeak 68 = .ok (.iload_n 3, 1) := by decide +kernel
theorem dX4_offerPeak_69 : decode cX4_offerPeak 69 = .ok (.laload, 1) := by decide +kernel
theorem dX4_offerPeak_70 : decode cX4_offerPeak 70 = .ok (.aload_n 0, 1) := by decide +kernel
theorem dX4_offerPeak_71 : decode cX4_offerPeak 71 = .ok (.getfield 15, 3) := by decide +kernel
theorem dX4_offerPeak_74 : decode cX4_offerPeak 74 = .ok (.iload_n 2, 1) := by decide +kernel
theorem dX4_offerPeak_75 : decode cX4_offerPeak 75 = .ok (.laload, 1) := by decide +kernel
theorem dX4_offerPeak_76 : decode cX4_offerPeak 76 = .ok (.ladd, 1) := by decide +kernel
theorem dX4_offerPeak_77 : decode cX4_offerPeak 77 = .ok (.invokestatic 41, 3) := by decide +kernel
theorem dX4_offerPeak_80 : decode cX4_offerPeak 80 = .ok (.lastore, 1) := by decide +kernel
theorem dX4_offerPeak_81 : decode cX4_offerPeak 81 = .ok (.iinc 2 1, 3) := by decide +kernel
theorem dX4_offerPeak_84 : decode cX4_offerPeak 84 = .ok (.goto (-75), 3) := by decide +kernel
theorem dX4_offerPeak_87 : decode cX4_offerPeak 87 = .ok (.iinc 1 (-1), 3) := by decide +kernel
theorem dX4_offerPeak_90 : decode cX4_offerPeak 90 = .ok (.goto (-87), 3) := by decide +kernel
theorem dX4_offerPeak_93 : decode cX4_offerPeak 93 = .ok (.return_, 1) := by decide +kernel
theorem dX4_weightOfRest_0 : decode cX4_weightOfRest 0 = .ok (.lconst 0, 1) := by decide +kernel
theorem dX4_weightOfRest_1 : decode cX4_weightOfRest 1 = .ok (.lstore_n 1, 1) := by decide +kernel
theorem dX4_weightOfRest_2 : decode cX4_weightOfRest 2 = .ok (.iconst 0, 1) := by decide +kernel
theorem dX4_weightOfRest_3 : decode cX4_weightOfRest 3 = .ok (.istore_n 3, 1) := by decide +kernel
theorem dX4_weightOfRest_4 : decode cX4_weightOfRest 4 = .ok (.iload_n 3, 1) := by decide +kernel
theorem dX4_weightOfRest_5 : decode cX4_weightOfRest 5 = .ok (.iconst 5, 1) := by decide +kernel
theorem dX4_weightOfRest_6 : decode cX4_weightOfRest 6 = .ok (.if_icmp .ge 32, 3) := by decide +kernel
theorem dX4_weightOfRest_9 : decode cX4_weightOfRest 9 = .ok (.iload_n 0, 1) := by decide +kernel
theorem dX4_weightOfRest_10 : decode cX4_weightOfRest 10 = .ok (.iconst 1, 1) := by decide +kernel
theorem dX4_weightOfRest_11 : decode cX4_weightOfRest 11 = .ok (.iload_n 3, 1) := by decide +kernel
theorem dX4_weightOfRest_12 : decode cX4_weightOfRest 12 = .ok (.ishl, 1) := by decide +kernel
theorem dX4_weightOfRest_13 : decode cX4_weightOfRest 13 = .ok (.iand, 1) := by decide +kernel
theorem dX4_weightOfRest_14 : decode cX4_weightOfRest 14 = .ok (.ifCond .ne 18, 3) := by decide +kernel
theorem dX4_weightOfRest_17 : decode cX4_weightOfRest 17 = .ok (.lload_n 1, 1) := by decide +kernel
theorem dX4_weightOfRest_18 : decode cX4_weightOfRest 18 = .ok (.ldc2_w 72, 3) := by decide +kernel
theorem dX4_weightOfRest_21 : decode cX4_weightOfRest 21 = .ok (.ldc2_w 74, 3) := by decide +kernel
theorem dX4_weightOfRest_24 : decode cX4_weightOfRest 24 = .ok (.iload_n 3, 1) := by decide +kernel
theorem dX4_weightOfRest_25 : decode cX4_weightOfRest 25 = .ok (.invokestatic 47, 3) := by decide +kernel
theorem dX4_weightOfRest_28 : decode cX4_weightOfRest 28 = .ok (.lshl, 1) := by decide +kernel
theorem dX4_weightOfRest_29 : decode cX4_weightOfRest 29 = .ok (.ladd, 1) := by decide +kernel
theorem dX4_weightOfRest_30 : decode cX4_weightOfRest 30 = .ok (.ladd, 1) := by decide +kernel
theorem dX4_weightOfRest_31 : decode cX4_weightOfRest 31 = .ok (.lstore_n 1, 1) := by decide +kernel
theorem dX4_weightOfRest_32 : decode cX4_weightOfRest 32 = .ok (.iinc 3 1, 3) := by decide +kernel
theorem dX4_weightOfRest_35 : decode cX4_weightOfRest 35 = .ok (.goto (-31), 3) := by decide +kernel
theorem dX4_weightOfRest_38 : decode cX4_weightOfRest 38 = .ok (.lload_n 1, 1) := by decide +kernel
theorem dX4_weightOfRest_39 : decode cX4_weightOfRest 39 = .ok (.lreturn, 1) := by decide +kernel
theorem dX7_init_0 : decode cX7_init 0 = .ok (.aload_n 0, 1) := by decide +kernel
theorem dX7_init_1 : decode cX7_init 1 = .ok (.invokespecial 1, 3) := by decide +kernel
theorem dX7_init_4 : decode cX7_init 4 = .ok (.aload_n 0, 1) := by decide +kernel
theorem dX7_init_5 : decode cX7_init 5 = .ok (.new 7, 3) := by decide +kernel
theorem dX7_init_8 : decode cX7_init 8 = .ok (.dup, 1) := by decide +kernel
theorem dX7_init_9 : decode cX7_init 9 = .ok (.invokespecial 9, 3) := by decide +kernel
theorem dX7_init_12 : decode cX7_init 12 = .ok (.putfield 10, 3) := by decide +kernel
theorem dX7_init_15 : decode cX7_init 15 = .ok (.aload_n 0, 1) := by decide +kernel
theorem dX7_init_16 : decode cX7_init 16 = .ok (.new 16, 3) := by decide +kernel
theorem dX7_init_19 : decode cX7_init 19 = .ok (.dup, 1) := by decide +kernel
theorem dX7_init_20 : decode cX7_init 20 = .ok (.invokespecial 18, 3) := by decide +kernel
theorem dX7_init_23 : decode cX7_init 23 = .ok (.putfield 19, 3) := by decide +kernel
theorem dX7_init_26 : decode cX7_init 26 = .ok (.aload_n 0, 1) := by decide +kernel
theorem dX7_init_27 : decode cX7_init 27 = .ok (.new 7, 3) := by decide +kernel
theorem dX7_init_30 : decode cX7_init 30 = .ok (.dup, 1) := by decide +kernel
theorem dX7_init_31 : decode cX7_init 31 = .ok (.invokespecial 9, 3) := by decide +kernel
theorem dX7_init_34 : decode cX7_init 34 = .ok (.putfield 23, 3) := by decide +kernel
theorem dX7_init_37 : decode cX7_init 37 = .ok (.aload_n 0, 1) := by decide +kernel
theorem dX7_init_38 : decode cX7_init 38 = .ok (.new 16, 3) := by decide +kernel
theorem dX7_init_41 : decode cX7_init 41 = .ok (.dup, 1) := by decide +kernel
theorem dX7_init_42 : decode cX7_init 42 = .ok (.invokespecial 18, 3) := by decide +kernel
theorem dX7_init_45 : decode cX7_init 45 = .ok (.putfield 26, 3) := by decide +kernel
theorem dX7_init_48 : decode cX7_init 48 = .ok (.aload_n 0, 1) := by decide +kernel
theorem dX7_init_49 : decode cX7_init 49 = .ok (.new 29, 3) := by decide +kernel
theorem dX7_init_52 : decode cX7_init 52 = .ok (.dup, 1) := by decide +kernel
theorem dX7_init_53 : decode cX7_init 53 = .ok (.invokespecial 31, 3) := by decide +kernel
theorem dX7_init_56 : decode cX7_init 56 = .ok (.putfield 32, 3) := by decide +kernel
theorem dX7_init_59 : decode cX7_init 59 = .ok (.aload_n 0, 1) := by decide +kernel
theorem dX7_init_60 : decode cX7_init 60 = .ok (.new 36, 3) := by decide +kernel
theorem dX7_init_63 : decode cX7_init 63 = .ok (.dup, 1) := by decide +kernel
theorem dX7_init_64 : decode cX7_init 64 = .ok (.invokespecial 38, 3) := by decide +kernel
theorem dX7_init_67 : decode cX7_init 67 = .ok (.putfield 39, 3) := by decide +kernel
theorem dX7_init_70 : decode cX7_init 70 = .ok (.aload_n 0, 1) := by decide +kernel
theorem dX7_init_71 : decode cX7_init 71 = .ok (.new 43, 3) := by decide +kernel
theorem dX7_init_74 : decode cX7_init 74 = .ok (.dup, 1) := by decide +kernel
theorem dX7_init_75 : decode cX7_init 75 = .ok (.aload_n 0, 1) := by decide +kernel
theorem dX7_init_76 : decode cX7_init 76 = .ok (.getfield 39, 3) := by decide +kernel
theorem dX7_init_79 : decode cX7_init 79 = .ok (.invokespecial 45, 3) := by decide +kernel
theorem dX7_init_82 : decode cX7_init 82 = .ok (.putfield 48, 3) := by decide +kernel
theorem dX7_init_85 : decode cX7_init 85 = .ok (.aload_n 0, 1) := by decide +kernel
theorem dX7_init_86 : decode cX7_init 86 = .ok (.iconst 4, 1) := by decide +kernel
theorem dX7_init_87 : decode cX7_init 87 = .ok (.putfield 52, 3) := by decide +kernel
theorem dX7_init_90 : decode cX7_init 90 = .ok (.aload_n 0, 1) := by decide +kernel
theorem dX7_init_91 : decode cX7_init 91 = .ok (.bipush 12, 2) := by decide +kernel
theorem dX7_init_93 : decode cX7_init 93 = .ok (.putfield 56, 3) := by decide +kernel
theorem dX7_init_96 : decode cX7_init 96 = .ok (.return_, 1) := by decide +kernel
theorem dX7_area_0 : decode cX7_area 0 = .ok (.iload_n 1, 1) := by decide +kernel
theorem dX7_area_1 : decode cX7_area 1 = .ok (.ifCond .lt 31, 3) := by decide +kernel
theorem dX7_area_4 : decode cX7_area 4 = .ok (.iload_n 2, 1) := by decide +kernel
theorem dX7_area_5 : decode cX7_area 5 = .ok (.iload_n 1, 1) := by decide +kernel
theorem dX7_area_6 : decode cX7_area 6 = .ok (.if_icmp .lt 26, 3) := by decide +kernel
theorem dX7_area_9 : decode cX7_area 9 = .ok (.iload_n 2, 1) := by decide +kernel
theorem dX7_area_10 : decode cX7_area 10 = .ok (.bipush 8, 2) := by decide +kernel
theorem dX7_area_12 : decode cX7_area 12 = .ok (.if_icmp .ge 20, 3) := by decide +kernel
theorem dX7_area_15 : decode cX7_area 15 = .ok (.iload_n 3, 1) := by decide +kernel
theorem dX7_area_16 : decode cX7_area 16 = .ok (.ifCond .lt 16, 3) := by decide +kernel
theorem dX7_area_19 : decode cX7_area 19 = .ok (.iload 4, 2) := by decide +kernel
theorem dX7_area_21 : decode cX7_area 21 = .ok (.iload_n 3, 1) := by decide +kernel
theorem dX7_area_22 : decode cX7_area 22 = .ok (.if_icmp .lt 10, 3) := by decide +kernel
theorem dX7_area_25 : decode cX7_area 25 = .ok (.iload 4, 2) := by decide +kernel
theorem dX7_area_27 : decode cX7_area 27 = .ok (.bipush 6, 2) := by decide +kernel
theorem dX7_area_29 : decode cX7_area 29 = .ok (.if_icmp .lt 13, 3) := by decide +kernel
theorem dX7_area_32 : decode cX7_area 32 = .ok (.new 59, 3) := by decide +kernel
theorem dX7_area_35 : decode cX7_area 35 = .ok (.dup, 1) := by decide +kernel
theorem dX7_area_36 : decode cX7_area 36 = .ok (.ldc 61, 2) := by decide +kernel
theorem dX7_area_38 : decode cX7_area 38 = .ok (.invokespecial 63, 3) := by decide +kernel
theorem dX7_area_41 : decode cX7_area 41 = .ok (.athrow, 1) := by decide +kernel
theorem dX7_area_42 : decode cX7_area 42 = .ok (.aload_n 0, 1) := by decide +kernel
theorem dX7_area_43 : decode cX7_area 43 = .ok (.getfield 39, 3) := by decide +kernel
theorem dX7_area_46 : decode cX7_area 46 = .ok (.getfield 66, 3) := by decide +kernel
theorem dX7_area_49 : decode cX7_area 49 = .ok (.iconst 4, 1) := by decide +kernel
theorem dX7_area_50 : decode cX7_area 50 = .ok (.if_icmp .lt 13, 3) := by decide +kernel
theorem dX7_area_53 : decode cX7_area 53 = .ok (.new 69, 3) := by decide +kernel
theorem dX7_area_56 : decode cX7_area 56 = .ok (.dup, 1) := by decide +kernel
theorem dX7_area_57 : decode cX7_area 57 = .ok (.ldc 71, 2) := by decide +kernel
theorem dX7_area_59 : decode cX7_area 59 = .ok (.invokespecial 73, 3) := by decide +kernel
theorem dX7_area_62 : decode cX7_area 62 = .ok (.athrow, 1) := by decide +kernel
theorem dX7_area_63 : decode cX7_area 63 = .ok (.aload_n 0, 1) := by decide +kernel
theorem dX7_area_64 : decode cX7_area 64 = .ok (.getfield 39, 3) := by decide +kernel
theorem dX7_area_67 : decode cX7_area 67 = .ok (.iload_n 1, 1) := by decide +kernel
theorem dX7_area_68 : decode cX7_area 68 = .ok (.iload_n 2, 1) := by decide +kernel
theorem dX7_area_69 : decode cX7_area 69 = .ok (.iload_n 3, 1) := by decide +kernel
theorem dX7_area_70 : decode cX7_area 70 = .ok (.iload 4, 2) := by decide +kernel
theorem dX7_area_72 : decode cX7_area 72 = .ok (.invokevirtual 74, 3) := by decide +kernel
theorem dX7_area_75 : decode cX7_area 75 = .ok (.ireturn, 1) := by decide +kernel
theorem dX7_dial_0 : decode cX7_dial 0 = .ok (.iload_n 1, 1) := by decide +kernel
theorem dX7_dial_1 : decode cX7_dial 1 = .ok (.iconst 1, 1) := by decide +kernel
theorem dX7_dial_2 : decode cX7_dial 2 = .ok (.if_icmp .lt 8, 3) := by decide +kernel
theorem dX7_dial_5 : decode cX7_dial 5 = .ok (.iload_n 1, 1) := by decide +kernel
theorem dX7_dial_6 : decode cX7_dial 6 = .ok (.iconst 4, 1) := by decide +kernel
theorem dX7_dial_7 : decode cX7_dial 7 = .ok (.if_icmp .le 13, 3) := by decide +kernel
theorem dX7_dial_10 : decode cX7_dial 10 = .ok (.new 59, 3) := by decide +kernel
theorem dX7_dial_13 : decode cX7_dial 13 = .ok (.dup, 1) := by decide +kernel
theorem dX7_dial_14 : decode cX7_dial 14 = .ok (.ldc 78, 2) := by decide +kernel
theorem dX7_dial_16 : decode cX7_dial 16 = .ok (.invokespecial 63, 3) := by decide +kernel
theorem dX7_dial_19 : decode cX7_dial 19 = .ok (.athrow, 1) := by decide +kernel
theorem dX7_dial_20 : decode cX7_dial 20 = .ok (.aload_n 0, 1) := by decide +kernel
theorem dX7_dial_21 : decode cX7_dial 21 = .ok (.getfield 52, 3) := by decide +kernel
theorem dX7_dial_24 : decode cX7_dial 24 = .ok (.istore_n 2, 1) := by decide +kernel
theorem dX7_dial_25 : decode cX7_dial 25 = .ok (.aload_n 0, 1) := by decide +kernel
theorem dX7_dial_26 : decode cX7_dial 26 = .ok (.iload_n 1, 1) := by decide +kernel
theorem dX7_dial_27 : decode cX7_dial 27 = .ok (.putfield 52, 3) := by decide +kernel
theorem dX7_dial_30 : decode cX7_dial 30 = .ok (.iload_n 2, 1) := by decide +kernel
theorem dX7_dial_31 : decode cX7_dial 31 = .ok (.ireturn, 1) := by decide +kernel
theorem dX7_limit_0 : decode cX7_limit 0 = .ok (.iload_n 1, 1) := by decide +kernel
theorem dX7_limit_1 : decode cX7_limit 1 = .ok (.iconst 1, 1) := by decide +kernel
theorem dX7_limit_2 : decode cX7_limit 2 = .ok (.if_icmp .lt 9, 3) := by decide +kernel
theorem dX7_limit_5 : decode cX7_limit 5 = .ok (.iload_n 1, 1) := by decide +kernel
theorem dX7_limit_6 : decode cX7_limit 6 = .ok (.bipush 30, 2) := by decide +kernel
theorem dX7_limit_8 : decode cX7_limit 8 = .ok (.if_icmp .le 13, 3) := by decide +kernel
theorem dX7_limit_11 : decode cX7_limit 11 = .ok (.new 59, 3) := by decide +kernel
theorem dX7_limit_14 : decode cX7_limit 14 = .ok (.dup, 1) := by decide +kernel
theorem dX7_limit_15 : decode cX7_limit 15 = .ok (.ldc 80, 2) := by decide +kernel
theorem dX7_limit_17 : decode cX7_limit 17 = .ok (.invokespecial 63, 3) := by decide +kernel
theorem dX7_limit_20 : decode cX7_limit 20 = .ok (.athrow, 1) := by decide +kernel
theorem dX7_limit_21 : decode cX7_limit 21 = .ok (.aload_n 0, 1) := by decide +kernel
theorem dX7_limit_22 : decode cX7_limit 22 = .ok (.getfield 56, 3) := by decide +kernel
theorem dX7_limit_25 : decode cX7_limit 25 = .ok (.istore_n 2, 1) := by decide +kernel
theorem dX7_limit_26 : decode cX7_limit 26 = .ok (.aload_n 0, 1) := by decide +kernel
theorem dX7_limit_27 : decode cX7_limit 27 = .ok (.iload_n 1, 1) := by decide +kernel
theorem dX7_limit_28 : decode cX7_limit 28 = .ok (.putfield 56, 3) := by decide +kernel
theorem dX7_limit_31 : decode cX7_limit 31 = .ok (.iload_n 2, 1) := by decide +kernel
theorem dX7_limit_32 : decode cX7_limit 32 = .ok (.ireturn, 1) := by decide +kernel
theorem dX7_heat_0 : decode cX7_heat 0 = .ok (.iload_n 1, 1) := by decide +kernel
theorem dX7_heat_1 : decode cX7_heat 1 = .ok (.bipush (-30), 2) := by decide +kernel
theorem dX7_heat_3 : decode cX7_heat 3 = .ok (.if_icmp .lt 9, 3) := by decide +kernel
theorem dX7_heat_6 : decode cX7_heat 6 = .ok (.iload_n 1, 1) := by decide +kernel
theorem dX7_heat_7 : decode cX7_heat 7 = .ok (.bipush 30, 2) := by decide +kernel
theorem dX7_heat_9 : decode cX7_heat 9 = .ok (.if_icmp .le 13, 3) := by decide +kernel
theorem dX7_heat_12 : decode cX7_heat 12 = .ok (.new 59, 3) := by decide +kernel
theorem dX7_heat_15 : decode cX7_heat 15 = .ok (.dup, 1) := by decide +kernel
theorem dX7_heat_16 : decode cX7_heat 16 = .ok (.ldc 82, 2) := by decide +kernel
theorem dX7_heat_18 : decode cX7_heat 18 = .ok (.invokespecial 63, 3) := by decide +kernel
theorem dX7_heat_21 : decode cX7_heat 21 = .ok (.athrow, 1) := by decide +kernel
theorem dX7_heat_22 : decode cX7_heat 22 = .ok (.aload_n 0, 1) := by decide +kernel
theorem dX7_heat_23 : decode cX7_heat 23 = .ok (.getfield 10, 3) := by decide +kernel
theorem dX7_heat_26 : decode cX7_heat 26 = .ok (.getfield 84, 3) := by decide +kernel
theorem dX7_heat_29 : decode cX7_heat 29 = .ok (.istore_n 2, 1) := by decide +kernel
theorem dX7_heat_30 : decode cX7_heat 30 = .ok (.aload_n 0, 1) := by decide +kernel
theorem dX7_heat_31 : decode cX7_heat 31 = .ok (.getfield 10, 3) := by decide +kernel
theorem dX7_heat_34 : decode cX7_heat 34 = .ok (.iload_n 1, 1) := by decide +kernel
theorem dX7_heat_35 : decode cX7_heat 35 = .ok (.putfield 84, 3) := by decide +kernel
theorem dX7_heat_38 : decode cX7_heat 38 = .ok (.aload_n 0, 1) := by decide +kernel
theorem dX7_heat_39 : decode cX7_heat 39 = .ok (.getfield 19, 3) := by decide +kernel
theorem dX7_heat_42 : decode cX7_heat 42 = .ok (.aload_n 0, 1) := by decide +kernel
theorem dX7_heat_43 : decode cX7_heat 43 = .ok (.getfield 10, 3) := by decide +kernel
theorem dX7_heat_46 : decode cX7_heat 46 = .ok (.invokevirtual 87, 3) := by decide +kernel
theorem dX7_heat_49 : decode cX7_heat 49 = .ok (.iload_n 2, 1) := by decide +kernel
theorem dX7_heat_50 : decode cX7_heat 50 = .ok (.ireturn, 1) := by decide +kernel
theorem dX7_press_0 : decode cX7_press 0 = .ok (.iload_n 1, 1) := by decide +kernel
theorem dX7_press_1 : decode cX7_press 1 = .ok (.iload_n 2, 1) := by decide +kernel
theorem dX7_press_2 : decode cX7_press 2 = .ok (.invokestatic 91, 3) := by decide +kernel
theorem dX7_press_5 : decode cX7_press 5 = .ok (.iload_n 3, 1) := by decide +kernel
theorem dX7_press_6 : decode cX7_press 6 = .ok (.invokestatic 95, 3) := by decide +kernel
theorem dX7_press_9 : decode cX7_press 9 = .ok (.aload_n 0, 1) := by decide +kernel
theorem dX7_press_10 : decode cX7_press 10 = .ok (.getfield 10, 3) := by decide +kernel
theorem dX7_press_13 : decode cX7_press 13 = .ok (.iload_n 1, 1) := by decide +kernel
theorem dX7_press_14 : decode cX7_press 14 = .ok (.iload_n 2, 1) := by decide +kernel
theorem dX7_press_15 : decode cX7_press 15 = .ok (.iload_n 3, 1) := by decide +kernel
theorem dX7_press_16 : decode cX7_press 16 = .ok (.invokevirtual 99, 3) := by decide +kernel
theorem dX7_press_19 : decode cX7_press 19 = .ok (.aload_n 0, 1) := by decide +kernel
theorem dX7_press_20 : decode cX7_press 20 = .ok (.getfield 19, 3) := by decide +kernel
theorem dX7_press_23 : decode cX7_press 23 = .ok (.aload_n 0, 1) := by decide +kernel
theorem dX7_press_24 : decode cX7_press 24 = .ok (.getfield 10, 3) := by decide +kernel
theorem dX7_press_27 : decode cX7_press 27 = .ok (.invokevirtual 87, 3) := by decide +kernel
theorem dX7_press_30 : decode cX7_press 30 = .ok (.aload_n 0, 1) := by decide +kernel
theorem dX7_press_31 : decode cX7_press 31 = .ok (.getfield 19, 3) := by decide +kernel
theorem dX7_press_34 : decode cX7_press 34 = .ok (.getfield 103, 3) := by decide +kernel
theorem dX7_press_37 : decode cX7_press 37 = .ok (.iload_n 2, 1) := by decide +kernel
theorem dX7_press_38 : decode cX7_press 38 = .ok (.bipush 8, 2) := by decide +kernel
theorem dX7_press_40 : decode cX7_press 40 = .ok (.imul, 1) := by decide +kernel
theorem dX7_press_41 : decode cX7_press 41 = .ok (.iload_n 1, 1) := by decide +kernel
theorem dX7_press_42 : decode cX7_press 42 = .ok (.iadd, 1) := by decide +kernel
theorem dX7_press_43 : decode cX7_press 43 = .ok (.iaload, 1) := by decide +kernel
theorem dX7_press_44 : decode cX7_press 44 = .ok (.ireturn, 1) := by decide +kernel
theorem dX7_noise_0 : decode cX7_noise 0 = .ok (.iload_n 1, 1) := by decide +kernel
theorem dX7_noise_1 : decode cX7_noise 1 = .ok (.invokestatic 107, 3) := by decide +kernel
theorem dX7_noise_4 : decode cX7_noise 4 = .ok (.iload_n 2, 1) := by decide +kernel
theorem dX7_noise_5 : decode cX7_noise 5 = .ok (.bipush (-40), 2) := by decide +kernel
theorem dX7_noise_7 : decode cX7_noise 7 = .ok (.if_icmp .lt 9, 3) := by decide +kernel
theorem dX7_noise_10 : decode cX7_noise 10 = .ok (.iload_n 2, 1) := by decide +kernel
theorem dX7_noise_11 : decode cX7_noise 11 = .ok (.bipush 40, 2) := by decide +kernel
theorem dX7_noise_13 : decode cX7_noise 13 = .ok (.if_icmp .le 13, 3) := by decide +kernel
theorem dX7_noise_16 : decode cX7_noise 16 = .ok (.new 59, 3) := by decide +kernel
theorem dX7_noise_19 : decode cX7_noise 19 = .ok (.dup, 1) := by decide +kernel
theorem dX7_noise_20 : decode cX7_noise 20 = .ok (.ldc 110, 2) := by decide +kernel
theorem dX7_noise_22 : decode cX7_noise 22 = .ok (.invokespecial 63, 3) := by decide +kernel
theorem dX7_noise_25 : decode cX7_noise 25 = .ok (.athrow, 1) := by decide +kernel
theorem dX7_noise_26 : decode cX7_noise 26 = .ok (.aload_n 0, 1) := by decide +kernel
theorem dX7_noise_27 : decode cX7_noise 27 = .ok (.getfield 10, 3) := by decide +kernel
theorem dX7_noise_30 : decode cX7_noise 30 = .ok (.iload_n 1, 1) := by decide +kernel
theorem dX7_noise_31 : decode cX7_noise 31 = .ok (.iload_n 2, 1) := by decide +kernel
theorem dX7_noise_32 : decode cX7_noise 32 = .ok (.invokevirtual 112, 3) := by decide +kernel
theorem dX7_noise_35 : decode cX7_noise 35 = .ok (.aload_n 0, 1) := by decide +kernel
theorem dX7_noise_36 : decode cX7_noise 36 = .ok (.getfield 19, 3) := by decide +kernel
theorem dX7_noise_39 : decode cX7_noise 39 = .ok (.aload_n 0, 1) := by decide +kernel
theorem dX7_noise_40 : decode cX7_noise 40 = .ok (.getfield 10, 3) := by decide +kernel
theorem dX7_noise_43 : decode cX7_noise 43 = .ok (.invokevirtual 87, 3) := by decide +kernel
theorem dX7_noise_46 : decode cX7_noise 46 = .ok (.aload_n 0, 1) := by decide +kernel
theorem dX7_noise_47 : decode cX7_noise 47 = .ok (.getfield 19, 3) := by decide +kernel
theorem dX7_noise_50 : decode cX7_noise 50 = .ok (.getfield 115, 3) := by decide +kernel
theorem dX7_noise_53 : decode cX7_noise 53 = .ok (.ireturn, 1) := by decide +kernel
theorem dX7_frame_0 : decode cX7_frame 0 = .ok (.aload_n 0, 1) := by decide +kernel
theorem dX7_frame_1 : decode cX7_frame 1 = .ok (.getfield 19, 3) := by decide +kernel
theorem dX7_frame_4 : decode cX7_frame 4 = .ok (.getfield 115, 3) := by decide +kernel
theorem dX7_frame_7 : decode cX7_frame 7 = .ok (.aload_n 0, 1) := by decide +kernel
theorem dX7_frame_8 : decode cX7_frame 8 = .ok (.getfield 56, 3) := by decide +kernel
theorem dX7_frame_11 : decode cX7_frame 11 = .ok (.if_icmp .le 7, 3) := by decide +kernel
theorem dX7_frame_14 : decode cX7_frame 14 = .ok (.iconst 1, 1) := by decide +kernel
theorem dX7_frame_15 : decode cX7_frame 15 = .ok (.goto 4, 3) := by decide +kernel
theorem dX7_frame_18 : decode cX7_frame 18 = .ok (.iconst 0, 1) := by decide +kernel
theorem dX7_frame_19 : decode cX7_frame 19 = .ok (.istore_n 1, 1) := by decide +kernel
theorem dX7_frame_20 : decode cX7_frame 20 = .ok (.iload_n 1, 1) := by decide +kernel
theorem dX7_frame_21 : decode cX7_frame 21 = .ok (.ifCond .eq 16, 3) := by decide +kernel
theorem dX7_frame_24 : decode cX7_frame 24 = .ok (.aload_n 0, 1) := by decide +kernel
theorem dX7_frame_25 : decode cX7_frame 25 = .ok (.dup, 1) := by decide +kernel
theorem dX7_frame_26 : decode cX7_frame 26 = .ok (.getfield 118, 3) := by decide +kernel
theorem dX7_frame_29 : decode cX7_frame 29 = .ok (.iconst 1, 1) := by decide +kernel
theorem dX7_frame_30 : decode cX7_frame 30 = .ok (.iadd, 1) := by decide +kernel
theorem dX7_frame_31 : decode cX7_frame 31 = .ok (.putfield 118, 3) := by decide +kernel
theorem dX7_frame_34 : decode cX7_frame 34 = .ok (.goto 50, 3) := by decide +kernel
theorem dX7_frame_37 : decode cX7_frame 37 = .ok (.aload_n 0, 1) := by decide +kernel
theorem dX7_frame_38 : decode cX7_frame 38 = .ok (.dup, 1) := by decide +kernel
theorem dX7_frame_39 : decode cX7_frame 39 = .ok (.getfield 121, 3) := by decide +kernel
theorem dX7_frame_42 : decode cX7_frame 42 = .ok (.iconst 1, 1) := by decide +kernel
theorem dX7_frame_43 : decode cX7_frame 43 = .ok (.iadd, 1) := by decide +kernel
theorem dX7_frame_44 : decode cX7_frame 44 = .ok (.putfield 121, 3) := by decide +kernel
theorem dX7_frame_47 : decode cX7_frame 47 = .ok (.aload_n 0, 1) := by decide +kernel
theorem dX7_frame_48 : decode cX7_frame 48 = .ok (.getfield 32, 3) := by decide +kernel
theorem dX7_frame_51 : decode cX7_frame 51 = .ok (.aload_n 0, 1) := by decide +kernel
theorem dX7_frame_52 : decode cX7_frame 52 = .ok (.getfield 19, 3) := by decide +kernel
theorem dX7_frame_55 : decode cX7_frame 55 = .ok (.aload_n 0, 1) := by decide +kernel
theorem dX7_frame_56 : decode cX7_frame 56 = .ok (.getfield 48, 3) := by decide +kernel
theorem dX7_frame_59 : decode cX7_frame 59 = .ok (.getfield 124, 3) := by decide +kernel
theorem dX7_frame_62 : decode cX7_frame 62 = .ok (.invokevirtual 128, 3) := by decide +kernel
theorem dX7_frame_65 : decode cX7_frame 65 = .ok (.aload_n 0, 1) := by decide +kernel
theorem dX7_frame_66 : decode cX7_frame 66 = .ok (.getfield 48, 3) := by decide +kernel
theorem dX7_frame_69 : decode cX7_frame 69 = .ok (.aload_n 0, 1) := by decide +kernel
theorem dX7_frame_70 : decode cX7_frame 70 = .ok (.getfield 19, 3) := by decide +kernel
theorem dX7_frame_73 : decode cX7_frame 73 = .ok (.aload_n 0, 1) := by decide +kernel
theorem dX7_frame_74 : decode cX7_frame 74 = .ok (.getfield 32, 3) := by decide +kernel
theorem dX7_frame_77 : decode cX7_frame 77 = .ok (.aload_n 0, 1) := by decide +kernel
theorem dX7_frame_78 : decode cX7_frame 78 = .ok (.getfield 52, 3) := by decide +kernel
theorem dX7_frame_81 : decode cX7_frame 81 = .ok (.invokevirtual 132, 3) := by decide +kernel
theorem dX7_frame_84 : decode cX7_frame 84 = .ok (.aload_n 0, 1) := by decide +kernel
theorem dX7_frame_85 : decode cX7_frame 85 = .ok (.getfield 10, 3) := by decide +kernel
theorem dX7_frame_88 : decode cX7_frame 88 = .ok (.aload_n 0, 1) := by decide +kernel
theorem dX7_frame_89 : decode cX7_frame 89 = .ok (.getfield 19, 3) := by decide +kernel
theorem dX7_frame_92 : decode cX7_frame 92 = .ok (.invokevirtual 136, 3) := by decide +kernel
theorem dX7_frame_95 : decode cX7_frame 95 = .ok (.aload_n 0, 1) := by decide +kernel
theorem dX7_frame_96 : decode cX7_frame 96 = .ok (.getfield 10, 3) := by decide +kernel
theorem dX7_frame_99 : decode cX7_frame 99 = .ok (.invokevirtual 140, 3) := by decide +kernel
theorem dX7_frame_102 : decode cX7_frame 102 = .ok (.aload_n 0, 1) := by decide +kernel
theorem dX7_frame_103 : decode cX7_frame 103 = .ok (.getfield 19, 3) := by decide +kernel
theorem dX7_frame_106 : decode cX7_frame 106 = .ok (.aload_n 0, 1) := by decide +kernel
theorem dX7_frame_107 : decode cX7_frame 107 = .ok (.getfield 10, 3) := by decide +kernel
theorem dX7_frame_110 : decode cX7_frame 110 = .ok (.invokevirtual 87, 3) := by decide +kernel
theorem dX7_frame_113 : decode cX7_frame 113 = .ok (.iload_n 1, 1) := by decide +kernel
theorem dX7_frame_114 : decode cX7_frame 114 = .ok (.ifCond .eq 8, 3) := by decide +kernel
theorem dX7_frame_117 : decode cX7_frame 117 = .ok (.bipush (-2), 2) := by decide +kernel
theorem dX7_frame_119 : decode cX7_frame 119 = .ok (.goto 10, 3) := by decide +kernel
theorem dX7_frame_122 : decode cX7_frame 122 = .ok (.aload_n 0, 1) := by decide +kernel
theorem dX7_frame_123 : decode cX7_frame 123 = .ok (.getfield 48, 3) := by decide +kernel
theorem dX7_frame_126 : decode cX7_frame 126 = .ok (.invokevirtual 143, 3) := by decide +kernel
theorem dX7_frame_129 : decode cX7_frame 129 = .ok (.ireturn, 1) := by decide +kernel
theorem dX7_wipe_0 : decode cX7_wipe 0 = .ok (.aload_n 0, 1) := by decide +kernel
theorem dX7_wipe_1 : decode cX7_wipe 1 = .ok (.getfield 48, 3) := by decide +kernel
theorem dX7_wipe_4 : decode cX7_wipe 4 = .ok (.invokevirtual 143, 3) := by decide +kernel
theorem dX7_wipe_7 : decode cX7_wipe 7 = .ok (.istore_n 1, 1) := by decide +kernel
theorem dX7_wipe_8 : decode cX7_wipe 8 = .ok (.aload_n 0, 1) := by decide +kernel
theorem dX7_wipe_9 : decode cX7_wipe 9 = .ok (.getfield 48, 3) := by decide +kernel
theorem dX7_wipe_12 : decode cX7_wipe 12 = .ok (.invokevirtual 147, 3) := by decide +kernel
theorem dX7_wipe_15 : decode cX7_wipe 15 = .ok (.aload_n 0, 1) := by decide +kernel
theorem dX7_wipe_16 : decode cX7_wipe 16 = .ok (.getfield 10, 3) := by decide +kernel
theorem dX7_wipe_19 : decode cX7_wipe 19 = .ok (.invokevirtual 150, 3) := by decide +kernel
theorem dX7_wipe_22 : decode cX7_wipe 22 = .ok (.aload_n 0, 1) := by decide +kernel
theorem dX7_wipe_23 : decode cX7_wipe 23 = .ok (.getfield 10, 3) := by decide +kernel
theorem dX7_wipe_26 : decode cX7_wipe 26 = .ok (.invokevirtual 140, 3) := by decide +kernel
theorem dX7_wipe_29 : decode cX7_wipe 29 = .ok (.aload_n 0, 1) := by decide +kernel
theorem dX7_wipe_30 : decode cX7_wipe 30 = .ok (.getfield 19, 3) := by decide +kernel
theorem dX7_wipe_33 : decode cX7_wipe 33 = .ok (.aload_n 0, 1) := by decide +kernel
theorem dX7_wipe_34 : decode cX7_wipe 34 = .ok (.getfield 10, 3) := by decide +kernel
theorem dX7_wipe_37 : decode cX7_wipe 37 = .ok (.invokevirtual 87, 3) := by decide +kernel
theorem dX7_wipe_40 : decode cX7_wipe 40 = .ok (.iload_n 1, 1) := by decide +kernel
theorem dX7_wipe_41 : decode cX7_wipe 41 = .ok (.ireturn, 1) := by decide +kernel
theorem dX7_ofCell_0 : decode cX7_ofCell 0 = .ok (.iload_n 1, 1) := by decide +kernel
theorem dX7_ofCell_1 : decode cX7_ofCell 1 = .ok (.iload_n 2, 1) := by decide +kernel
theorem dX7_ofCell_2 : decode cX7_ofCell 2 = .ok (.invokestatic 91, 3) := by decide +kernel
theorem dX7_ofCell_5 : decode cX7_ofCell 5 = .ok (.iload_n 3, 1) := by decide +kernel
theorem dX7_ofCell_6 : decode cX7_ofCell 6 = .ok (.iconst 4, 1) := by decide +kernel
theorem dX7_ofCell_7 : decode cX7_ofCell 7 = .ok (.invokestatic 153, 3) := by decide +kernel
theorem dX7_ofCell_10 : decode cX7_ofCell 10 = .ok (.aload_n 0, 1) := by decide +kernel
theorem dX7_ofCell_11 : decode cX7_ofCell 11 = .ok (.iload_n 2, 1) := by decide +kernel
theorem dX7_ofCell_12 : decode cX7_ofCell 12 = .ok (.bipush 8, 2) := by decide +kernel
theorem dX7_ofCell_14 : decode cX7_ofCell 14 = .ok (.imul, 1) := by decide +kernel
theorem dX7_ofCell_15 : decode cX7_ofCell 15 = .ok (.iload_n 1, 1) := by decide +kernel
theorem dX7_ofCell_16 : decode cX7_ofCell 16 = .ok (.iadd, 1) := by decide +kernel
theorem dX7_ofCell_17 : decode cX7_ofCell 17 = .ok (.iload_n 3, 1) := by decide +kernel
theorem dX7_ofCell_18 : decode cX7_ofCell 18 = .ok (.invokevirtual 156, 3) := by decide +kernel
theorem dX7_ofCell_21 : decode cX7_ofCell 21 = .ok (.ireturn, 1) := by decide +kernel
theorem dX7_ofPeak_0 : decode cX7_ofPeak 0 = .ok (.iload_n 1, 1) := by decide +kernel
theorem dX7_ofPeak_1 : decode cX7_ofPeak 1 = .ok (.ifCond .lt 14, 3) := by decide +kernel
theorem dX7_ofPeak_4 : decode cX7_ofPeak 4 = .ok (.iload_n 1, 1) := by decide +kernel
theorem dX7_ofPeak_5 : decode cX7_ofPeak 5 = .ok (.aload_n 0, 1) := by decide +kernel
theorem dX7_ofPeak_6 : decode cX7_ofPeak 6 = .ok (.getfield 19, 3) := by decide +kernel
theorem dX7_ofPeak_9 : decode cX7_ofPeak 9 = .ok (.getfield 160, 3) := by decide +kernel
theorem dX7_ofPeak_12 : decode cX7_ofPeak 12 = .ok (.if_icmp .lt 13, 3) := by decide +kernel
theorem dX7_ofPeak_15 : decode cX7_ofPeak 15 = .ok (.new 163, 3) := by decide +kernel
theorem dX7_ofPeak_18 : decode cX7_ofPeak 18 = .ok (.dup, 1) := by decide +kernel
theorem dX7_ofPeak_19 : decode cX7_ofPeak 19 = .ok (.ldc 165, 2) := by decide +kernel
theorem dX7_ofPeak_21 : decode cX7_ofPeak 21 = .ok (.invokespecial 167, 3) := by decide +kernel
theorem dX7_ofPeak_24 : decode cX7_ofPeak 24 = .ok (.athrow, 1) := by decide +kernel
theorem dX7_ofPeak_25 : decode cX7_ofPeak 25 = .ok (.iload_n 2, 1) := by decide +kernel
theorem dX7_ofPeak_26 : decode cX7_ofPeak 26 = .ok (.iconst 4, 1) := by decide +kernel
theorem dX7_ofPeak_27 : decode cX7_ofPeak 27 = .ok (.invokestatic 153, 3) := by decide +kernel
theorem dX7_ofPeak_30 : decode cX7_ofPeak 30 = .ok (.aload_n 0, 1) := by decide +kernel
theorem dX7_ofPeak_31 : decode cX7_ofPeak 31 = .ok (.iload_n 1, 1) := by decide +kernel
theorem dX7_ofPeak_32 : decode cX7_ofPeak 32 = .ok (.iload_n 2, 1) := by decide +kernel
theorem dX7_ofPeak_33 : decode cX7_ofPeak 33 = .ok (.invokevirtual 168, 3) := by decide +kernel
theorem dX7_ofPeak_36 : decode cX7_ofPeak 36 = .ok (.ireturn, 1) := by decide +kernel
theorem dX7_ofContact_0 : decode cX7_ofContact 0 = .ok (.aload_n 0, 1) := by decide +kernel
theorem dX7_ofContact_1 : decode cX7_ofContact 1 = .ok (.iload_n 1, 1) := by decide +kernel
theorem dX7_ofContact_2 : decode cX7_ofContact 2 = .ok (.invokevirtual 171, 3) := by decide +kernel
theorem dX7_ofContact_5 : decode cX7_ofContact 5 = .ok (.iload_n 2, 1) := by decide +kernel
theorem dX7_ofContact_6 : decode cX7_ofContact 6 = .ok (.iconst 5, 1) := by decide +kernel
theorem dX7_ofContact_7 : decode cX7_ofContact 7 = .ok (.invokestatic 153, 3) := by decide +kernel
theorem dX7_ofContact_10 : decode cX7_ofContact 10 = .ok (.aload_n 0, 1) := by decide +kernel
theorem dX7_ofContact_11 : decode cX7_ofContact 11 = .ok (.getfield 48, 3) := by decide +kernel
theorem dX7_ofContact_14 : decode cX7_ofContact 14 = .ok (.getfield 124, 3) := by decide +kernel
theorem dX7_ofContact_17 : decode cX7_ofContact 17 = .ok (.iload_n 1, 1) := by decide +kernel
theorem dX7_ofContact_18 : decode cX7_ofContact 18 = .ok (.aaload, 1) := by decide +kernel
theorem dX7_ofContact_19 : decode cX7_ofContact 19 = .ok (.iload_n 2, 1) := by decide +kernel
theorem dX7_ofContact_20 : decode cX7_ofContact 20 = .ok (.invokestatic 174, 3) := by decide +kernel
theorem dX7_ofContact_23 : decode cX7_ofContact 23 = .ok (.ireturn, 1) := by decide +kernel
theorem dX7_where_0 : decode cX7_where 0 = .ok (.aload_n 0, 1) := by decide +kernel
theorem dX7_where_1 : decode cX7_where 1 = .ok (.iload_n 1, 1) := by decide +kernel
theorem dX7_where_2 : decode cX7_where 2 = .ok (.invokevirtual 171, 3) := by decide +kernel
theorem dX7_where_5 : decode cX7_where 5 = .ok (.iload_n 2, 1) := by decide +kernel
theorem dX7_where_6 : decode cX7_where 6 = .ok (.iconst 4, 1) := by decide +kernel
theorem dX7_where_7 : decode cX7_where 7 = .ok (.invokestatic 153, 3) := by decide +kernel
theorem dX7_where_10 : decode cX7_where 10 = .ok (.aload_n 0, 1) := by decide +kernel
theorem dX7_where_11 : decode cX7_where 11 = .ok (.getfield 48, 3) := by decide +kernel
theorem dX7_where_14 : decode cX7_where 14 = .ok (.getfield 124, 3) := by decide +kernel
theorem dX7_where_17 : decode cX7_where 17 = .ok (.iload_n 1, 1) := by decide +kernel
theorem dX7_where_18 : decode cX7_where 18 = .ok (.aaload, 1) := by decide +kernel
theorem dX7_where_19 : decode cX7_where 19 = .ok (.iload_n 2, 1) := by decide +kernel
theorem dX7_where_20 : decode cX7_where 20 = .ok (.invokestatic 178, 3) := by decide +kernel
theorem dX7_where_23 : decode cX7_where 23 = .ok (.dreturn, 1) := by decide +kernel
theorem dX7_apart_0 : decode cX7_apart 0 = .ok (.aload_n 0, 1) := by decide +kernel
theorem dX7_apart_1 : decode cX7_apart 1 = .ok (.iload_n 1, 1) := by decide +kernel
theorem dX7_apart_2 : decode cX7_apart 2 = .ok (.invokevirtual 171, 3) := by decide +kernel
theorem dX7_apart_5 : decode cX7_apart 5 = .ok (.aload_n 0, 1) := by decide +kernel
theorem dX7_apart_6 : decode cX7_apart 6 = .ok (.iload_n 2, 1) := by decide +kernel
theorem dX7_apart_7 : decode cX7_apart 7 = .ok (.invokevirtual 171, 3) := by decide +kernel
theorem dX7_apart_10 : decode cX7_apart 10 = .ok (.aload_n 0, 1) := by decide +kernel
theorem dX7_apart_11 : decode cX7_apart 11 = .ok (.getfield 48, 3) := by decide +kernel
theorem dX7_apart_14 : decode cX7_apart 14 = .ok (.getfield 124, 3) := by decide +kernel
theorem dX7_apart_17 : decode cX7_apart 17 = .ok (.iload_n 1, 1) := by decide +kernel
theorem dX7_apart_18 : decode cX7_apart 18 = .ok (.aaload, 1) := by decide +kernel
theorem dX7_apart_19 : decode cX7_apart 19 = .ok (.aload_n 0, 1) := by decide +kernel
theorem dX7_apart_20 : decode cX7_apart 20 = .ok (.getfield 48, 3) := by decide +kernel
theorem dX7_apart_23 : decode cX7_apart 23 = .ok (.getfield 124, 3) := by decide +kernel
theorem dX7_apart_26 : decode cX7_apart 26 = .ok (.iload_n 2, 1) := by decide +kernel
theorem dX7_apart_27 : decode cX7_apart 27 = .ok (.aaload, 1) := by decide +kernel
theorem dX7_apart_28 : decode cX7_apart 28 = .ok (.invokevirtual 182, 3) := by decide +kernel
theorem dX7_apart_31 : decode cX7_apart 31 = .ok (.f2d, 1) := by decide +kernel
theorem dX7_apart_32 : decode cX7_apart 32 = .ok (.dreturn, 1) := by decide +kernel
theorem dX7_ofRow_0 : decode cX7_ofRow 0 = .ok (.iload_n 1, 1) := by decide +kernel
theorem dX7_ofRow_1 : decode cX7_ofRow 1 = .ok (.invokestatic 107, 3) := by decide +kernel
theorem dX7_ofRow_4 : decode cX7_ofRow 4 = .ok (.iload_n 2, 1) := by decide +kernel
theorem dX7_ofRow_5 : decode cX7_ofRow 5 = .ok (.iconst 2, 1) := by decide +kernel
theorem dX7_ofRow_6 : decode cX7_ofRow 6 = .ok (.invokestatic 153, 3) := by decide +kernel
theorem dX7_ofRow_9 : decode cX7_ofRow 9 = .ok (.aload_n 0, 1) := by decide +kernel
theorem dX7_ofRow_10 : decode cX7_ofRow 10 = .ok (.iload_n 1, 1) := by decide +kernel
theorem dX7_ofRow_11 : decode cX7_ofRow 11 = .ok (.iload_n 2, 1) := by decide +kernel
theorem dX7_ofRow_12 : decode cX7_ofRow 12 = .ok (.invokevirtual 188, 3) := by decide +kernel
theorem dX7_ofRow_15 : decode cX7_ofRow 15 = .ok (.ireturn, 1) := by decide +kernel
theorem dX7_ofArea_0 : decode cX7_ofArea 0 = .ok (.iload_n 1, 1) := by decide +kernel
theorem dX7_ofArea_1 : decode cX7_ofArea 1 = .ok (.ifCond .lt 14, 3) := by decide +kernel
theorem dX7_ofArea_4 : decode cX7_ofArea 4 = .ok (.iload_n 1, 1) := by decide +kernel
theorem dX7_ofArea_5 : decode cX7_ofArea 5 = .ok (.aload_n 0, 1) := by decide +kernel
theorem dX7_ofArea_6 : decode cX7_ofArea 6 = .ok (.getfield 39, 3) := by decide +kernel
theorem dX7_ofArea_9 : decode cX7_ofArea 9 = .ok (.getfield 66, 3) := by decide +kernel
theorem dX7_ofArea_12 : decode cX7_ofArea 12 = .ok (.if_icmp .lt 13, 3) := by decide +kernel
theorem dX7_ofArea_15 : decode cX7_ofArea 15 = .ok (.new 163, 3) := by decide +kernel
theorem dX7_ofArea_18 : decode cX7_ofArea 18 = .ok (.dup, 1) := by decide +kernel
theorem dX7_ofArea_19 : decode cX7_ofArea 19 = .ok (.ldc 61, 2) := by decide +kernel
theorem dX7_ofArea_21 : decode cX7_ofArea 21 = .ok (.invokespecial 167, 3) := by decide +kernel
theorem dX7_ofArea_24 : decode cX7_ofArea 24 = .ok (.athrow, 1) := by decide +kernel
theorem dX7_ofArea_25 : decode cX7_ofArea 25 = .ok (.iload_n 2, 1) := by decide +kernel
theorem dX7_ofArea_26 : decode cX7_ofArea 26 = .ok (.iconst 4, 1) := by decide +kernel
theorem dX7_ofArea_27 : decode cX7_ofArea 27 = .ok (.invokestatic 153, 3) := by decide +kernel
theorem dX7_ofArea_30 : decode cX7_ofArea 30 = .ok (.aload_n 0, 1) := by decide +kernel
theorem dX7_ofArea_31 : decode cX7_ofArea 31 = .ok (.iload_n 1, 1) := by decide +kernel
theorem dX7_ofArea_32 : decode cX7_ofArea 32 = .ok (.iload_n 2, 1) := by decide +kernel
theorem dX7_ofArea_33 : decode cX7_ofArea 33 = .ok (.invokevirtual 191, 3) := by decide +kernel
theorem dX7_ofArea_36 : decode cX7_ofArea 36 = .ok (.ireturn, 1) := by decide +kernel
theorem dX7_many_0 : decode cX7_many 0 = .ok (.iload_n 1, 1) := by decide +kernel
theorem dX7_many_1 : decode cX7_many 1 = .ok (.bipush 9, 2) := by decide +kernel
theorem dX7_many_3 : decode cX7_many 3 = .ok (.invokestatic 153, 3) := by decide +kernel
theorem dX7_many_6 : decode cX7_many 6 = .ok (.aload_n 0, 1) := by decide +kernel
theorem dX7_many_7 : decode cX7_many 7 = .ok (.iload_n 1, 1) := by decide +kernel
theorem dX7_many_8 : decode cX7_many 8 = .ok (.invokevirtual 194, 3) := by decide +kernel
theorem dX7_many_11 : decode cX7_many 11 = .ok (.ireturn, 1) := by decide +kernel
theorem dX7_guess_0 : decode cX7_guess 0 = .ok (.aload_n 0, 1) := by decide +kernel
theorem dX7_guess_1 : decode cX7_guess 1 = .ok (.iload_n 1, 1) := by decide +kernel
theorem dX7_guess_2 : decode cX7_guess 2 = .ok (.invokevirtual 171, 3) := by decide +kernel
theorem dX7_guess_5 : decode cX7_guess 5 = .ok (.iload_n 2, 1) := by decide +kernel
theorem dX7_guess_6 : decode cX7_guess 6 = .ok (.ifCond .lt 9, 3) := by decide +kernel
theorem dX7_guess_9 : decode cX7_guess 9 = .ok (.iload_n 2, 1) := by decide +kernel
theorem dX7_guess_10 : decode cX7_guess 10 = .ok (.bipush 9, 2) := by decide +kernel
theorem dX7_guess_12 : decode cX7_guess 12 = .ok (.if_icmp .le 13, 3) := by decide +kernel
theorem dX7_guess_15 : decode cX7_guess 15 = .ok (.new 59, 3) := by decide +kernel
theorem dX7_guess_18 : decode cX7_guess 18 = .ok (.dup, 1) := by decide +kernel
theorem dX7_guess_19 : decode cX7_guess 19 = .ok (.ldc 198, 2) := by decide +kernel
theorem dX7_guess_21 : decode cX7_guess 21 = .ok (.invokespecial 63, 3) := by decide +kernel
theorem dX7_guess_24 : decode cX7_guess 24 = .ok (.athrow, 1) := by decide +kernel
theorem dX7_guess_25 : decode cX7_guess 25 = .ok (.aload_n 0, 1) := by decide +kernel
theorem dX7_guess_26 : decode cX7_guess 26 = .ok (.getfield 48, 3) := by decide +kernel
theorem dX7_guess_29 : decode cX7_guess 29 = .ok (.getfield 124, 3) := by decide +kernel
theorem dX7_guess_32 : decode cX7_guess 32 = .ok (.iload_n 1, 1) := by decide +kernel
theorem dX7_guess_33 : decode cX7_guess 33 = .ok (.aaload, 1) := by decide +kernel
theorem dX7_guess_34 : decode cX7_guess 34 = .ok (.iload_n 2, 1) := by decide +kernel
theorem dX7_guess_35 : decode cX7_guess 35 = .ok (.iload_n 3, 1) := by decide +kernel
theorem dX7_guess_36 : decode cX7_guess 36 = .ok (.invokevirtual 200, 3) := by decide +kernel
theorem dX7_guess_39 : decode cX7_guess 39 = .ok (.f2d, 1) := by decide +kernel
theorem dX7_guess_40 : decode cX7_guess 40 = .ok (.dreturn, 1) := by decide +kernel
theorem dX7_wouldMatch_0 : decode cX7_wouldMatch 0 = .ok (.aload_n 0, 1) := by decide +kernel
theorem dX7_wouldMatch_1 : decode cX7_wouldMatch 1 = .ok (.iload_n 1, 1) := by decide +kernel
theorem dX7_wouldMatch_2 : decode cX7_wouldMatch 2 = .ok (.invokevirtual 171, 3) := by decide +kernel
theorem dX7_wouldMatch_5 : decode cX7_wouldMatch 5 = .ok (.aload_n 0, 1) := by decide +kernel
theorem dX7_wouldMatch_6 : decode cX7_wouldMatch 6 = .ok (.aload_n 0, 1) := by decide +kernel
theorem dX7_wouldMatch_7 : decode cX7_wouldMatch 7 = .ok (.getfield 19, 3) := by decide +kernel
theorem dX7_wouldMatch_10 : decode cX7_wouldMatch 10 = .ok (.iload_n 1, 1) := by decide +kernel
theorem dX7_wouldMatch_11 : decode cX7_wouldMatch 11 = .ok (.invokevirtual 204, 3) := by decide +kernel
theorem dX7_wouldMatch_14 : decode cX7_wouldMatch 14 = .ok (.ireturn, 1) := by decide +kernel
theorem dX7_calmIn_0 : decode cX7_calmIn 0 = .ok (.aload_n 0, 1) := by decide +kernel
theorem dX7_calmIn_1 : decode cX7_calmIn 1 = .ok (.getfield 23, 3) := by decide +kernel
theorem dX7_calmIn_4 : decode cX7_calmIn 4 = .ok (.aload_n 0, 1) := by decide +kernel
theorem dX7_calmIn_5 : decode cX7_calmIn 5 = .ok (.getfield 10, 3) := by decide +kernel
theorem dX7_calmIn_8 : decode cX7_calmIn 8 = .ok (.invokevirtual 208, 3) := by decide +kernel
theorem dX7_calmIn_11 : decode cX7_calmIn 11 = .ok (.aload_n 0, 1) := by decide +kernel
theorem dX7_calmIn_12 : decode cX7_calmIn 12 = .ok (.getfield 23, 3) := by decide +kernel
theorem dX7_calmIn_15 : decode cX7_calmIn 15 = .ok (.invokevirtual 140, 3) := by decide +kernel
theorem dX7_calmIn_18 : decode cX7_calmIn 18 = .ok (.iconst 0, 1) := by decide +kernel
theorem dX7_calmIn_19 : decode cX7_calmIn 19 = .ok (.istore_n 1, 1) := by decide +kernel
theorem dX7_calmIn_20 : decode cX7_calmIn 20 = .ok (.iload_n 1, 1) := by decide +kernel
theorem dX7_calmIn_21 : decode cX7_calmIn 21 = .ok (.bipush 60, 2) := by decide +kernel
theorem dX7_calmIn_23 : decode cX7_calmIn 23 = .ok (.if_icmp .gt 43, 3) := by decide +kernel
theorem dX7_calmIn_26 : decode cX7_calmIn 26 = .ok (.aload_n 0, 1) := by decide +kernel
theorem dX7_calmIn_27 : decode cX7_calmIn 27 = .ok (.getfield 26, 3) := by decide +kernel
theorem dX7_calmIn_30 : decode cX7_calmIn 30 = .ok (.aload_n 0, 1) := by decide +kernel
theorem dX7_calmIn_31 : decode cX7_calmIn 31 = .ok (.getfield 23, 3) := by decide +kernel
theorem dX7_calmIn_34 : decode cX7_calmIn 34 = .ok (.invokevirtual 87, 3) := by decide +kernel
theorem dX7_calmIn_37 : decode cX7_calmIn 37 = .ok (.aload_n 0, 1) := by decide +kernel
theorem dX7_calmIn_38 : decode cX7_calmIn 38 = .ok (.getfield 26, 3) := by decide +kernel
theorem dX7_calmIn_41 : decode cX7_calmIn 41 = .ok (.invokevirtual 211, 3) := by decide +kernel
theorem dX7_calmIn_44 : decode cX7_calmIn 44 = .ok (.ifCond .eq 5, 3) := by decide +kernel
theorem dX7_calmIn_47 : decode cX7_calmIn 47 = .ok (.iload_n 1, 1) := by decide +kernel
theorem dX7_calmIn_48 : decode cX7_calmIn 48 = .ok (.ireturn, 1) := by decide +kernel
theorem dX7_calmIn_49 : decode cX7_calmIn 49 = .ok (.aload_n 0, 1) := by decide +kernel
theorem dX7_calmIn_50 : decode cX7_calmIn 50 = .ok (.getfield 23, 3) := by decide +kernel
theorem dX7_calmIn_53 : decode cX7_calmIn 53 = .ok (.aload_n 0, 1) := by decide +kernel
theorem dX7_calmIn_54 : decode cX7_calmIn 54 = .ok (.getfield 26, 3) := by decide +kernel
theorem dX7_calmIn_57 : decode cX7_calmIn 57 = .ok (.invokevirtual 136, 3) := by decide +kernel
theorem dX7_calmIn_60 : decode cX7_calmIn 60 = .ok (.iinc 1 1, 3) := by decide +kernel
theorem dX7_calmIn_63 : decode cX7_calmIn 63 = .ok (.goto (-43), 3) := by decide +kernel
theorem dX7_calmIn_66 : decode cX7_calmIn 66 = .ok (.iconst (-1), 1) := by decide +kernel
theorem dX7_calmIn_67 : decode cX7_calmIn 67 = .ok (.ireturn, 1) := by decide +kernel
theorem dX7_keepBy_0 : decode cX7_keepBy 0 = .ok (.aload_n 0, 1) := by decide +kernel
theorem dX7_keepBy_1 : decode cX7_keepBy 1 = .ok (.iload_n 1, 1) := by decide +kernel
theorem dX7_keepBy_2 : decode cX7_keepBy 2 = .ok (.invokevirtual 171, 3) := by decide +kernel
theorem dX7_keepBy_5 : decode cX7_keepBy 5 = .ok (.iload_n 2, 1) := by decide +kernel
theorem dX7_keepBy_6 : decode cX7_keepBy 6 = .ok (.invokestatic 95, 3) := by decide +kernel
theorem dX7_keepBy_9 : decode cX7_keepBy 9 = .ok (.iconst 0, 1) := by decide +kernel
theorem dX7_keepBy_10 : decode cX7_keepBy 10 = .ok (.istore_n 3, 1) := by decide +kernel
theorem dX7_keepBy_11 : decode cX7_keepBy 11 = .ok (.iload_n 3, 1) := by decide +kernel
theorem dX7_keepBy_12 : decode cX7_keepBy 12 = .ok (.bipush 48, 2) := by decide +kernel
theorem dX7_keepBy_14 : decode cX7_keepBy 14 = .ok (.if_icmp .ge 21, 3) := by decide +kernel
theorem dX7_keepBy_17 : decode cX7_keepBy 17 = .ok (.aload_n 0, 1) := by decide +kernel
theorem dX7_keepBy_18 : decode cX7_keepBy 18 = .ok (.iload_n 1, 1) := by decide +kernel
theorem dX7_keepBy_19 : decode cX7_keepBy 19 = .ok (.iload_n 3, 1) := by decide +kernel
theorem dX7_keepBy_20 : decode cX7_keepBy 20 = .ok (.iload_n 2, 1) := by decide +kernel
theorem dX7_keepBy_21 : decode cX7_keepBy 21 = .ok (.invokevirtual 215, 3) := by decide +kernel
theorem dX7_keepBy_24 : decode cX7_keepBy 24 = .ok (.ifCond .eq 5, 3) := by decide +kernel
theorem dX7_keepBy_27 : decode cX7_keepBy 27 = .ok (.iload_n 3, 1) := by decide +kernel
theorem dX7_keepBy_28 : decode cX7_keepBy 28 = .ok (.ireturn, 1) := by decide +kernel
theorem dX7_keepBy_29 : decode cX7_keepBy 29 = .ok (.iinc 3 1, 3) := by decide +kernel
theorem dX7_keepBy_32 : decode cX7_keepBy 32 = .ok (.goto (-21), 3) := by decide +kernel
theorem dX7_keepBy_35 : decode cX7_keepBy 35 = .ok (.iconst (-1), 1) := by decide +kernel
theorem dX7_keepBy_36 : decode cX7_keepBy 36 = .ok (.ireturn, 1) := by decide +kernel
theorem dX7_digest_0 : decode cX7_digest 0 = .ok (.ldc2_w 219, 3) := by decide +kernel
theorem dX7_digest_3 : decode cX7_digest 3 = .ok (.lstore_n 1, 1) := by decide +kernel
theorem dX7_digest_4 : decode cX7_digest 4 = .ok (.iconst 0, 1) := by decide +kernel
theorem dX7_digest_5 : decode cX7_digest 5 = .ok (.istore_n 3, 1) := by decide +kernel
theorem dX7_digest_6 : decode cX7_digest 6 = .ok (.iload_n 3, 1) := by decide +kernel
theorem dX7_digest_7 : decode cX7_digest 7 = .ok (.bipush 9, 2) := by decide +kernel
theorem dX7_digest_9 : decode cX7_digest 9 = .ok (.if_icmp .gt 20, 3) := by decide +kernel
theorem dX7_digest_12 : decode cX7_digest 12 = .ok (.lload_n 1, 1) := by decide +kernel
theorem dX7_digest_13 : decode cX7_digest 13 = .ok (.aload_n 0, 1) := by decide +kernel
theorem dX7_digest_14 : decode cX7_digest 14 = .ok (.iload_n 3, 1) := by decide +kernel
theorem dX7_digest_15 : decode cX7_digest 15 = .ok (.invokevirtual 194, 3) := by decide +kernel
theorem dX7_digest_18 : decode cX7_digest 18 = .ok (.i2l, 1) := by decide +kernel
theorem dX7_digest_19 : decode cX7_digest 19 = .ok (.invokestatic 221, 3) := by decide +kernel
theorem dX7_digest_22 : decode cX7_digest 22 = .ok (.lstore_n 1, 1) := by decide +kernel
theorem dX7_digest_23 : decode cX7_digest 23 = .ok (.iinc 3 1, 3) := by decide +kernel
theorem dX7_digest_26 : decode cX7_digest 26 = .ok (.goto (-20), 3) := by decide +kernel
theorem dX7_digest_29 : decode cX7_digest 29 = .ok (.iconst 0, 1) := by decide +kernel
theorem dX7_digest_30 : decode cX7_digest 30 = .ok (.istore_n 3, 1) := by decide +kernel
theorem dX7_digest_31 : decode cX7_digest 31 = .ok (.iload_n 3, 1) := by decide +kernel
theorem dX7_digest_32 : decode cX7_digest 32 = .ok (.bipush 48, 2) := by decide +kernel
theorem dX7_digest_34 : decode cX7_digest 34 = .ok (.if_icmp .ge 33, 3) := by decide +kernel
theorem dX7_digest_37 : decode cX7_digest 37 = .ok (.lload_n 1, 1) := by decide +kernel
theorem dX7_digest_38 : decode cX7_digest 38 = .ok (.aload_n 0, 1) := by decide +kernel
theorem dX7_digest_39 : decode cX7_digest 39 = .ok (.iload_n 3, 1) := by decide +kernel
theorem dX7_digest_40 : decode cX7_digest 40 = .ok (.iconst 1, 1) := by decide +kernel
theorem dX7_digest_41 : decode cX7_digest 41 = .ok (.invokevirtual 156, 3) := by decide +kernel
theorem dX7_digest_44 : decode cX7_digest 44 = .ok (.i2l, 1) := by decide +kernel
theorem dX7_digest_45 : decode cX7_digest 45 = .ok (.invokestatic 221, 3) := by decide +kernel
theorem dX7_digest_48 : decode cX7_digest 48 = .ok (.lstore_n 1, 1) := by decide +kernel
theorem dX7_digest_49 : decode cX7_digest 49 = .ok (.lload_n 1, 1) := by decide +kernel
theorem dX7_digest_50 : decode cX7_digest 50 = .ok (.aload_n 0, 1) := by decide +kernel
theorem dX7_digest_51 : decode cX7_digest 51 = .ok (.iload_n 3, 1) := by decide +kernel
theorem dX7_digest_52 : decode cX7_digest 52 = .ok (.iconst 2, 1) := by decide +kernel
theorem dX7_digest_53 : decode cX7_digest 53 = .ok (.invokevirtual 156, 3) := by decide +kernel
theorem dX7_digest_56 : decode cX7_digest 56 = .ok (.i2l, 1) := by decide +kernel
theorem dX7_digest_57 : decode cX7_digest 57 = .ok (.invokestatic 221, 3) := by decide +kernel
theorem dX7_digest_60 : decode cX7_digest 60 = .ok (.lstore_n 1, 1) := by decide +kernel
theorem dX7_digest_61 : decode cX7_digest 61 = .ok (.iinc 3 1, 3) := by decide +kernel
theorem dX7_digest_64 : decode cX7_digest 64 = .ok (.goto (-33), 3) := by decide +kernel
theorem dX7_digest_67 : decode cX7_digest 67 = .ok (.iconst 0, 1) := by decide +kernel
theorem dX7_digest_68 : decode cX7_digest 68 = .ok (.istore_n 3, 1) := by decide +kernel
theorem dX7_digest_69 : decode cX7_digest 69 = .ok (.iload_n 3, 1) := by decide +kernel
theorem dX7_digest_70 : decode cX7_digest 70 = .ok (.aload_n 0, 1) := by decide +kernel
theorem dX7_digest_71 : decode cX7_digest 71 = .ok (.getfield 19, 3) := by decide +kernel
theorem dX7_digest_74 : decode cX7_digest 74 = .ok (.getfield 160, 3) := by decide +kernel
theorem dX7_digest_77 : decode cX7_digest 77 = .ok (.if_icmp .ge 37, 3) := by decide +kernel
theorem dX7_digest_80 : decode cX7_digest 80 = .ok (.iconst 0, 1) := by decide +kernel
theorem dX7_digest_81 : decode cX7_digest 81 = .ok (.istore 4, 2) := by decide +kernel
theorem dX7_digest_83 : decode cX7_digest 83 = .ok (.iload 4, 2) := by decide +kernel
theorem dX7_digest_85 : decode cX7_digest 85 = .ok (.iconst 4, 1) := by decide +kernel
theorem dX7_digest_86 : decode cX7_digest 86 = .ok (.if_icmp .gt 22, 3) := by decide +kernel
theorem dX7_digest_89 : decode cX7_digest 89 = .ok (.lload_n 1, 1) := by decide +kernel
theorem dX7_digest_90 : decode cX7_digest 90 = .ok (.aload_n 0, 1) := by decide +kernel
theorem dX7_digest_91 : decode cX7_digest 91 = .ok (.iload_n 3, 1) := by decide +kernel
theorem dX7_digest_92 : decode cX7_digest 92 = .ok (.iload 4, 2) := by decide +kernel
theorem dX7_digest_94 : decode cX7_digest 94 = .ok (.invokevirtual 168, 3) := by decide +kernel
theorem dX7_digest_97 : decode cX7_digest 97 = .ok (.i2l, 1) := by decide +kernel
theorem dX7_digest_98 : decode cX7_digest 98 = .ok (.invokestatic 221, 3) := by decide +kernel
theorem dX7_digest_101 : decode cX7_digest 101 = .ok (.lstore_n 1, 1) := by decide +kernel
theorem dX7_digest_102 : decode cX7_digest 102 = .ok (.iinc 4 1, 3) := by decide +kernel
theorem dX7_digest_105 : decode cX7_digest 105 = .ok (.goto (-22), 3) := by decide +kernel
theorem dX7_digest_108 : decode cX7_digest 108 = .ok (.iinc 3 1, 3) := by decide +kernel
theorem dX7_digest_111 : decode cX7_digest 111 = .ok (.goto (-42), 3) := by decide +kernel
theorem dX7_digest_114 : decode cX7_digest 114 = .ok (.iconst 0, 1) := by decide +kernel
theorem dX7_digest_115 : decode cX7_digest 115 = .ok (.istore_n 3, 1) := by decide +kernel
theorem dX7_digest_116 : decode cX7_digest 116 = .ok (.iload_n 3, 1) := by decide +kernel
theorem dX7_digest_117 : decode cX7_digest 117 = .ok (.iconst 5, 1) := by decide +kernel
theorem dX7_digest_118 : decode cX7_digest 118 = .ok (.if_icmp .ge 31, 3) := by decide +kernel
theorem dX7_digest_121 : decode cX7_digest 121 = .ok (.aload_n 0, 1) := by decide +kernel
theorem dX7_digest_122 : decode cX7_digest 122 = .ok (.getfield 48, 3) := by decide +kernel
theorem dX7_digest_125 : decode cX7_digest 125 = .ok (.iload_n 3, 1) := by decide +kernel
theorem dX7_digest_126 : decode cX7_digest 126 = .ok (.invokevirtual 225, 3) := by decide +kernel
theorem dX7_digest_129 : decode cX7_digest 129 = .ok (.ifCond .eq 12, 3) := by decide +kernel
theorem dX7_digest_132 : decode cX7_digest 132 = .ok (.aload_n 0, 1) := by decide +kernel
theorem dX7_digest_133 : decode cX7_digest 133 = .ok (.lload_n 1, 1) := by decide +kernel
theorem dX7_digest_134 : decode cX7_digest 134 = .ok (.iload_n 3, 1) := by decide +kernel
theorem dX7_digest_135 : decode cX7_digest 135 = .ok (.invokevirtual 229, 3) := by decide +kernel
theorem dX7_digest_138 : decode cX7_digest 138 = .ok (.goto 4, 3) := by decide +kernel
theorem dX7_digest_141 : decode cX7_digest 141 = .ok (.lload_n 1, 1) := by decide +kernel
theorem dX7_digest_142 : decode cX7_digest 142 = .ok (.lstore_n 1, 1) := by decide +kernel
theorem dX7_digest_143 : decode cX7_digest 143 = .ok (.iinc 3 1, 3) := by decide +kernel
theorem dX7_digest_146 : decode cX7_digest 146 = .ok (.goto (-30), 3) := by decide +kernel
theorem dX7_digest_149 : decode cX7_digest 149 = .ok (.iconst 0, 1) := by decide +kernel
theorem dX7_digest_150 : decode cX7_digest 150 = .ok (.istore_n 3, 1) := by decide +kernel
theorem dX7_digest_151 : decode cX7_digest 151 = .ok (.iload_n 3, 1) := by decide +kernel
theorem dX7_digest_152 : decode cX7_digest 152 = .ok (.aload_n 0, 1) := by decide +kernel
theorem dX7_digest_153 : decode cX7_digest 153 = .ok (.getfield 39, 3) := by decide +kernel
theorem dX7_digest_156 : decode cX7_digest 156 = .ok (.getfield 66, 3) := by decide +kernel
theorem dX7_digest_159 : decode cX7_digest 159 = .ok (.if_icmp .ge 37, 3) := by decide +kernel
theorem dX7_digest_162 : decode cX7_digest 162 = .ok (.iconst 0, 1) := by decide +kernel
theorem dX7_digest_163 : decode cX7_digest 163 = .ok (.istore 4, 2) := by decide +kernel
theorem dX7_digest_165 : decode cX7_digest 165 = .ok (.iload 4, 2) := by decide +kernel
theorem dX7_digest_167 : decode cX7_digest 167 = .ok (.iconst 4, 1) := by decide +kernel
theorem dX7_digest_168 : decode cX7_digest 168 = .ok (.if_icmp .gt 22, 3) := by decide +kernel
theorem dX7_digest_171 : decode cX7_digest 171 = .ok (.lload_n 1, 1) := by decide +kernel
theorem dX7_digest_172 : decode cX7_digest 172 = .ok (.aload_n 0, 1) := by decide +kernel
theorem dX7_digest_173 : decode cX7_digest 173 = .ok (.iload_n 3, 1) := by decide +kernel
theorem dX7_digest_174 : decode cX7_digest 174 = .ok (.iload 4, 2) := by decide +kernel
theorem dX7_digest_176 : decode cX7_digest 176 = .ok (.invokevirtual 191, 3) := by decide +kernel
theorem dX7_digest_179 : decode cX7_digest 179 = .ok (.i2l, 1) := by decide +kernel
theorem dX7_digest_180 : decode cX7_digest 180 = .ok (.invokestatic 221, 3) := by decide +kernel
theorem dX7_digest_183 : decode cX7_digest 183 = .ok (.lstore_n 1, 1) := by decide +kernel
theorem dX7_digest_184 : decode cX7_digest 184 = .ok (.iinc 4 1, 3) := by decide +kernel
theorem dX7_digest_187 : decode cX7_digest 187 = .ok (.goto (-22), 3) := by decide +kernel
theorem dX7_digest_190 : decode cX7_digest 190 = .ok (.iinc 3 1, 3) := by decide +kernel
theorem dX7_digest_193 : decode cX7_digest 193 = .ok (.goto (-42), 3) := by decide +kernel
theorem dX7_digest_196 : decode cX7_digest 196 = .ok (.iconst 0, 1) := by decide +kernel
theorem dX7_digest_197 : decode cX7_digest 197 = .ok (.istore_n 3, 1) := by decide +kernel
theorem dX7_digest_198 : decode cX7_digest 198 = .ok (.iload_n 3, 1) := by decide +kernel
theorem dX7_digest_199 : decode cX7_digest 199 = .ok (.bipush 6, 2) := by decide +kernel
theorem dX7_digest_201 : decode cX7_digest 201 = .ok (.if_icmp .ge 37, 3) := by decide +kernel
theorem dX7_digest_204 : decode cX7_digest 204 = .ok (.iconst 0, 1) := by decide +kernel
theorem dX7_digest_205 : decode cX7_digest 205 = .ok (.istore 4, 2) := by decide +kernel
theorem dX7_digest_207 : decode cX7_digest 207 = .ok (.iload 4, 2) := by decide +kernel
theorem dX7_digest_209 : decode cX7_digest 209 = .ok (.iconst 2, 1) := by decide +kernel
theorem dX7_digest_210 : decode cX7_digest 210 = .ok (.if_icmp .gt 22, 3) := by decide +kernel
theorem dX7_digest_213 : decode cX7_digest 213 = .ok (.lload_n 1, 1) := by decide +kernel
theorem dX7_digest_214 : decode cX7_digest 214 = .ok (.aload_n 0, 1) := by decide +kernel
theorem dX7_digest_215 : decode cX7_digest 215 = .ok (.iload_n 3, 1) := by decide +kernel
theorem dX7_digest_216 : decode cX7_digest 216 = .ok (.iload 4, 2) := by decide +kernel
theorem dX7_digest_218 : decode cX7_digest 218 = .ok (.invokevirtual 188, 3) := by decide +kernel
theorem dX7_digest_221 : decode cX7_digest 221 = .ok (.i2l, 1) := by decide +kernel
theorem dX7_digest_222 : decode cX7_digest 222 = .ok (.invokestatic 221, 3) := by decide +kernel
theorem dX7_digest_225 : decode cX7_digest 225 = .ok (.lstore_n 1, 1) := by decide +kernel
theorem dX7_digest_226 : decode cX7_digest 226 = .ok (.iinc 4 1, 3) := by decide +kernel
theorem dX7_digest_229 : decode cX7_digest 229 = .ok (.goto (-22), 3) := by decide +kernel
theorem dX7_digest_232 : decode cX7_digest 232 = .ok (.iinc 3 1, 3) := by decide +kernel
theorem dX7_digest_235 : decode cX7_digest 235 = .ok (.goto (-37), 3) := by decide +kernel
theorem dX7_digest_238 : decode cX7_digest 238 = .ok (.lload_n 1, 1) := by decide +kernel
theorem dX7_digest_239 : decode cX7_digest 239 = .ok (.aload_n 0, 1) := by decide +kernel
theorem dX7_digest_240 : decode cX7_digest 240 = .ok (.invokevirtual 233, 3) := by decide +kernel
theorem dX7_digest_243 : decode cX7_digest 243 = .ok (.i2l, 1) := by decide +kernel
theorem dX7_digest_244 : decode cX7_digest 244 = .ok (.invokestatic 221, 3) := by decide +kernel
theorem dX7_digest_247 : decode cX7_digest 247 = .ok (.lreturn, 1) := by decide +kernel
theorem dX7_checkCell_0 : decode cX7_checkCell 0 = .ok (.iload_n 0, 1) := by decide +kernel
theorem dX7_checkCell_1 : decode cX7_checkCell 1 = .ok (.ifCond .lt 9, 3) := by decide +kernel
theorem dX7_checkCell_4 : decode cX7_checkCell 4 = .ok (.iload_n 0, 1) := by decide +kernel
theorem dX7_checkCell_5 : decode cX7_checkCell 5 = .ok (.bipush 8, 2) := by decide +kernel
theorem dX7_checkCell_7 : decode cX7_checkCell 7 = .ok (.if_icmp .lt 13, 3) := by decide +kernel
theorem dX7_checkCell_10 : decode cX7_checkCell 10 = .ok (.new 163, 3) := by decide +kernel
theorem dX7_checkCell_13 : decode cX7_checkCell 13 = .ok (.dup, 1) := by decide +kernel
theorem dX7_checkCell_14 : decode cX7_checkCell 14 = .ok (.ldc 236, 2) := by decide +kernel
theorem dX7_checkCell_16 : decode cX7_checkCell 16 = .ok (.invokespecial 167, 3) := by decide +kernel
theorem dX7_checkCell_19 : decode cX7_checkCell 19 = .ok (.athrow, 1) := by decide +kernel
theorem dX7_checkCell_20 : decode cX7_checkCell 20 = .ok (.iload_n 1, 1) := by decide +kernel
theorem dX7_checkCell_21 : decode cX7_checkCell 21 = .ok (.invokestatic 107, 3) := by decide +kernel
theorem dX7_checkCell_24 : decode cX7_checkCell 24 = .ok (.return_, 1) := by decide +kernel
theorem dX7_checkRow_0 : decode cX7_checkRow 0 = .ok (.iload_n 0, 1) := by decide +kernel
theorem dX7_checkRow_1 : decode cX7_checkRow 1 = .ok (.ifCond .lt 9, 3) := by decide +kernel
theorem dX7_checkRow_4 : decode cX7_checkRow 4 = .ok (.iload_n 0, 1) := by decide +kernel
theorem dX7_checkRow_5 : decode cX7_checkRow 5 = .ok (.bipush 6, 2) := by decide +kernel
theorem dX7_checkRow_7 : decode cX7_checkRow 7 = .ok (.if_icmp .lt 13, 3) := by decide +kernel
theorem dX7_checkRow_10 : decode cX7_checkRow 10 = .ok (.new 163, 3) := by decide +kernel
theorem dX7_checkRow_13 : decode cX7_checkRow 13 = .ok (.dup, 1) := by decide +kernel
theorem dX7_checkRow_14 : decode cX7_checkRow 14 = .ok (.ldc 238, 2) := by decide +kernel
theorem dX7_checkRow_16 : decode cX7_checkRow 16 = .ok (.invokespecial 167, 3) := by decide +kernel
theorem dX7_checkRow_19 : decode cX7_checkRow 19 = .ok (.athrow, 1) := by decide +kernel
theorem dX7_checkRow_20 : decode cX7_checkRow 20 = .ok (.return_, 1) := by decide +kernel
theorem dX7_checkStrength_0 : decode cX7_checkStrength 0 = .ok (.iload_n 0, 1) := by decide +kernel
theorem dX7_checkStrength_1 : decode cX7_checkStrength 1 = .ok (.iconst 1, 1) := by decide +kernel
theorem dX7_checkStrength_2 : decode cX7_checkStrength 2 = .ok (.if_icmp .lt 10, 3) := by decide +kernel
theorem dX7_checkStrength_5 : decode cX7_checkStrength 5 = .ok (.iload_n 0, 1) := by decide +kernel
theorem dX7_checkStrength_6 : decode cX7_checkStrength 6 = .ok (.sipush 200, 3) := by decide +kernel
theorem dX7_checkStrength_9 : decode cX7_checkStrength 9 = .ok (.if_icmp .le 13, 3) := by decide +kernel
theorem dX7_checkStrength_12 : decode cX7_checkStrength 12 = .ok (.new 59, 3) := by decide +kernel
theorem dX7_checkStrength_15 : decode cX7_checkStrength 15 = .ok (.dup, 1) := by decide +kernel
theorem dX7_checkStrength_16 : decode cX7_checkStrength 16 = .ok (.ldc 240, 2) := by decide +kernel
theorem dX7_checkStrength_18 : decode cX7_checkStrength 18 = .ok (.invokespecial 63, 3) := by decide +kernel
theorem dX7_checkStrength_21 : decode cX7_checkStrength 21 = .ok (.athrow, 1) := by decide +kernel
theorem dX7_checkStrength_22 : decode cX7_checkStrength 22 = .ok (.return_, 1) := by decide +kernel
theorem dX7_checkWhat_0 : decode cX7_checkWhat 0 = .ok (.iload_n 0, 1) := by decide +kernel
theorem dX7_checkWhat_1 : decode cX7_checkWhat 1 = .ok (.ifCond .lt 8, 3) := by decide +kernel
theorem dX7_checkWhat_4 : decode cX7_checkWhat 4 = .ok (.iload_n 0, 1) := by decide +kernel
theorem dX7_checkWhat_5 : decode cX7_checkWhat 5 = .ok (.iload_n 1, 1) := by decide +kernel
theorem dX7_checkWhat_6 : decode cX7_checkWhat 6 = .ok (.if_icmp .le 13, 3) := by decide +kernel
theorem dX7_checkWhat_9 : decode cX7_checkWhat 9 = .ok (.new 59, 3) := by decide +kernel
theorem dX7_checkWhat_12 : decode cX7_checkWhat 12 = .ok (.dup, 1) := by decide +kernel
theorem dX7_checkWhat_13 : decode cX7_checkWhat 13 = .ok (.ldc 242, 2) := by decide +kernel
theorem dX7_checkWhat_15 : decode cX7_checkWhat 15 = .ok (.invokespecial 63, 3) := by decide +kernel
theorem dX7_checkWhat_18 : decode cX7_checkWhat 18 = .ok (.athrow, 1) := by decide +kernel
theorem dX7_checkWhat_19 : decode cX7_checkWhat 19 = .ok (.return_, 1) := by decide +kernel
theorem dX7_checkName_0 : decode cX7_checkName 0 = .ok (.aload_n 0, 1) := by decide +kernel
theorem dX7_checkName_1 : decode cX7_checkName 1 = .ok (.getfield 48, 3) := by decide +kernel
theorem dX7_checkName_4 : decode cX7_checkName 4 = .ok (.iload_n 1, 1) := by decide +kernel
theorem dX7_checkName_5 : decode cX7_checkName 5 = .ok (.invokevirtual 225, 3) := by decide +kernel
theorem dX7_checkName_8 : decode cX7_checkName 8 = .ok (.ifCond .ne 13, 3) := by decide +kernel
theorem dX7_checkName_11 : decode cX7_checkName 11 = .ok (.new 163, 3) := by decide +kernel
theorem dX7_checkName_14 : decode cX7_checkName 14 = .ok (.dup, 1) := by decide +kernel
theorem dX7_checkName_15 : decode cX7_checkName 15 = .ok (.ldc 244, 2) := by decide +kernel
theorem dX7_checkName_17 : decode cX7_checkName 17 = .ok (.invokespecial 167, 3) := by decide +kernel
theorem dX7_checkName_20 : decode cX7_checkName 20 = .ok (.athrow, 1) := by decide +kernel
theorem dX7_checkName_21 : decode cX7_checkName 21 = .ok (.return_, 1) := by decide +kernel
theorem dX7_cellAnswer_0 : decode cX7_cellAnswer 0 = .ok (.iload_n 2, 1) := by decide +kernel
theorem dX7_cellAnswer_1 : decode cX7_cellAnswer 1 = .ok (.tableswitch 77 0 3 #[31, 40, 50, 60], 31) := by decide +kernel
theorem dX7_cellAnswer_32 : decode cX7_cellAnswer 32 = .ok (.aload_n 0, 1) := by decide +kernel
theorem dX7_cellAnswer_33 : decode cX7_cellAnswer 33 = .ok (.getfield 10, 3) := by decide +kernel
theorem dX7_cellAnswer_36 : decode cX7_cellAnswer 36 = .ok (.iload_n 1, 1) := by decide +kernel
theorem dX7_cellAnswer_37 : decode cX7_cellAnswer 37 = .ok (.invokevirtual 246, 3) := by decide +kernel
theorem dX7_cellAnswer_40 : decode cX7_cellAnswer 40 = .ok (.ireturn, 1) := by decide +kernel
theorem dX7_cellAnswer_41 : decode cX7_cellAnswer 41 = .ok (.aload_n 0, 1) := by decide +kernel
theorem dX7_cellAnswer_42 : decode cX7_cellAnswer 42 = .ok (.getfield 10, 3) := by decide +kernel
theorem dX7_cellAnswer_45 : decode cX7_cellAnswer 45 = .ok (.getfield 249, 3) := by decide +kernel
theorem dX7_cellAnswer_48 : decode cX7_cellAnswer 48 = .ok (.iload_n 1, 1) := by decide +kernel
theorem dX7_cellAnswer_49 : decode cX7_cellAnswer 49 = .ok (.iaload, 1) := by decide +kernel
theorem dX7_cellAnswer_50 : decode cX7_cellAnswer 50 = .ok (.ireturn, 1) := by decide +kernel
theorem dX7_cellAnswer_51 : decode cX7_cellAnswer 51 = .ok (.aload_n 0, 1) := by decide +kernel
theorem dX7_cellAnswer_52 : decode cX7_cellAnswer 52 = .ok (.getfield 19, 3) := by decide +kernel
theorem dX7_cellAnswer_55 : decode cX7_cellAnswer 55 = .ok (.getfield 103, 3) := by decide +kernel
theorem dX7_cellAnswer_58 : decode cX7_cellAnswer 58 = .ok (.iload_n 1, 1) := by decide +kernel
theorem dX7_cellAnswer_59 : decode cX7_cellAnswer 59 = .ok (.iaload, 1) := by decide +kernel
theorem dX7_cellAnswer_60 : decode cX7_cellAnswer 60 = .ok (.ireturn, 1) := by decide +kernel
theorem dX7_cellAnswer_61 : decode cX7_cellAnswer 61 = .ok (.aload_n 0, 1) := by decide +kernel
theorem dX7_cellAnswer_62 : decode cX7_cellAnswer 62 = .ok (.getfield 19, 3) := by decide +kernel
theorem dX7_cellAnswer_65 : decode cX7_cellAnswer 65 = .ok (.iload_n 1, 1) := by decide +kernel
theorem dX7_cellAnswer_66 : decode cX7_cellAnswer 66 = .ok (.invokevirtual 252, 3) := by decide +kernel
theorem dX7_cellAnswer_69 : decode cX7_cellAnswer 69 = .ok (.ifCond .eq 7, 3) := by decide +kernel
theorem dX7_cellAnswer_72 : decode cX7_cellAnswer 72 = .ok (.iconst 1, 1) := by decide +kernel
theorem dX7_cellAnswer_73 : decode cX7_cellAnswer 73 = .ok (.goto 4, 3) := by decide +kernel
theorem dX7_cellAnswer_76 : decode cX7_cellAnswer 76 = .ok (.iconst 0, 1) := by decide +kernel
theorem dX7_cellAnswer_77 : decode cX7_cellAnswer 77 = .ok (.ireturn, 1) := by decide +kernel
theorem dX7_cellAnswer_78 : decode cX7_cellAnswer 78 = .ok (.aload_n 0, 1) := by decide +kernel
theorem dX7_cellAnswer_79 : decode cX7_cellAnswer 79 = .ok (.getfield 19, 3) := by decide +kernel
theorem dX7_cellAnswer_82 : decode cX7_cellAnswer 82 = .ok (.getfield 255, 3) := by decide +kernel
theorem dX7_cellAnswer_85 : decode cX7_cellAnswer 85 = .ok (.iload_n 1, 1) := by decide +kernel
theorem dX7_cellAnswer_86 : decode cX7_cellAnswer 86 = .ok (.iaload, 1) := by decide +kernel
theorem dX7_cellAnswer_87 : decode cX7_cellAnswer 87 = .ok (.ireturn, 1) := by decide +kernel
theorem dX7_peakAnswer_0 : decode cX7_peakAnswer 0 = .ok (.iload_n 2, 1) := by decide +kernel
theorem dX7_peakAnswer_1 : decode cX7_peakAnswer 1 = .ok (.tableswitch 70 0 3 #[31, 41, 51, 61], 31) := by decide +kernel
theorem dX7_peakAnswer_32 : decode cX7_peakAnswer 32 = .ok (.aload_n 0, 1) := by decide +kernel
theorem dX7_peakAnswer_33 : decode cX7_peakAnswer 33 = .ok (.getfield 19, 3) := by decide +kernel
theorem dX7_peakAnswer_36 : decode cX7_peakAnswer 36 = .ok (.getfield 258, 3) := by decide +kernel
theorem dX7_peakAnswer_39 : decode cX7_peakAnswer 39 = .ok (.iload_n 1, 1) := by decide +kernel
theorem dX7_peakAnswer_40 : decode cX7_peakAnswer 40 = .ok (.iaload, 1) := by decide +kernel
theorem dX7_peakAnswer_41 : decode cX7_peakAnswer 41 = .ok (.ireturn, 1) := by decide +kernel
theorem dX7_peakAnswer_42 : decode cX7_peakAnswer 42 = .ok (.aload_n 0, 1) := by decide +kernel
theorem dX7_peakAnswer_43 : decode cX7_peakAnswer 43 = .ok (.getfield 19, 3) := by decide +kernel
theorem dX7_peakAnswer_46 : decode cX7_peakAnswer 46 = .ok (.getfield 261, 3) := by decide +kernel
theorem dX7_peakAnswer_49 : decode cX7_peakAnswer 49 = .ok (.iload_n 1, 1) := by decide +kernel
theorem dX7_peakAnswer_50 : decode cX7_peakAnswer 50 = .ok (.iaload, 1) := by decide +kernel
theorem dX7_peakAnswer_51 : decode cX7_peakAnswer 51 = .ok (.ireturn, 1) := by decide +kernel
theorem dX7_peakAnswer_52 : decode cX7_peakAnswer 52 = .ok (.aload_n 0, 1) := by decide +kernel
theorem dX7_peakAnswer_53 : decode cX7_peakAnswer 53 = .ok (.getfield 19, 3) := by decide +kernel
theorem dX7_peakAnswer_56 : decode cX7_peakAnswer 56 = .ok (.getfield 264, 3) := by decide +kernel
theorem dX7_peakAnswer_59 : decode cX7_peakAnswer 59 = .ok (.iload_n 1, 1) := by decide +kernel
theorem dX7_peakAnswer_60 : decode cX7_peakAnswer 60 = .ok (.iaload, 1) := by decide +kernel
theorem dX7_peakAnswer_61 : decode cX7_peakAnswer 61 = .ok (.ireturn, 1) := by decide +kernel
theorem dX7_peakAnswer_62 : decode cX7_peakAnswer 62 = .ok (.aload_n 0, 1) := by decide +kernel
theorem dX7_peakAnswer_63 : decode cX7_peakAnswer 63 = .ok (.getfield 19, 3) := by decide +kernel
theorem dX7_peakAnswer_66 : decode cX7_peakAnswer 66 = .ok (.iload_n 1, 1) := by decide +kernel
theorem dX7_peakAnswer_67 : decode cX7_peakAnswer 67 = .ok (.invokevirtual 267, 3) := by decide +kernel
theorem dX7_peakAnswer_70 : decode cX7_peakAnswer 70 = .ok (.ireturn, 1) := by decide +kernel
theorem dX7_peakAnswer_71 : decode cX7_peakAnswer 71 = .ok (.aload_n 0, 1) := by decide +kernel
theorem dX7_peakAnswer_72 : decode cX7_peakAnswer 72 = .ok (.getfield 19, 3) := by decide +kernel
theorem dX7_peakAnswer_75 : decode cX7_peakAnswer 75 = .ok (.iload_n 1, 1) := by decide +kernel
theorem dX7_peakAnswer_76 : decode cX7_peakAnswer 76 = .ok (.invokevirtual 270, 3) := by decide +kernel
theorem dX7_peakAnswer_79 : decode cX7_peakAnswer 79 = .ok (.ifCond .eq 7, 3) := by decide +kernel
theorem dX7_peakAnswer_82 : decode cX7_peakAnswer 82 = .ok (.iconst 1, 1) := by decide +kernel
theorem dX7_peakAnswer_83 : decode cX7_peakAnswer 83 = .ok (.goto 4, 3) := by decide +kernel
theorem dX7_peakAnswer_86 : decode cX7_peakAnswer 86 = .ok (.iconst 0, 1) := by decide +kernel
theorem dX7_peakAnswer_87 : decode cX7_peakAnswer 87 = .ok (.ireturn, 1) := by decide +kernel
theorem dX7_contactAnswer_0 : decode cX7_contactAnswer 0 = .ok (.iload_n 1, 1) := by decide +kernel
theorem dX7_contactAnswer_1 : decode cX7_contactAnswer 1 = .ok (.tableswitch 60 0 4 #[35, 40, 45, 50, 55], 35) := by decide +kernel
theorem dX7_contactAnswer_36 : decode cX7_contactAnswer 36 = .ok (.aload_n 0, 1) := by decide +kernel
theorem dX7_contactAnswer_37 : decode cX7_contactAnswer 37 = .ok (.getfield 273, 3) := by decide +kernel
theorem dX7_contactAnswer_40 : decode cX7_contactAnswer 40 = .ok (.ireturn, 1) := by decide +kernel
theorem dX7_contactAnswer_41 : decode cX7_contactAnswer 41 = .ok (.aload_n 0, 1) := by decide +kernel
theorem dX7_contactAnswer_42 : decode cX7_contactAnswer 42 = .ok (.getfield 276, 3) := by decide +kernel
theorem dX7_contactAnswer_45 : decode cX7_contactAnswer 45 = .ok (.ireturn, 1) := by decide +kernel
theorem dX7_contactAnswer_46 : decode cX7_contactAnswer 46 = .ok (.aload_n 0, 1) := by decide +kernel
theorem dX7_contactAnswer_47 : decode cX7_contactAnswer 47 = .ok (.getfield 279, 3) := by decide +kernel
theorem dX7_contactAnswer_50 : decode cX7_contactAnswer 50 = .ok (.ireturn, 1) := by decide +kernel
theorem dX7_contactAnswer_51 : decode cX7_contactAnswer 51 = .ok (.aload_n 0, 1) := by decide +kernel
theorem dX7_contactAnswer_52 : decode cX7_contactAnswer 52 = .ok (.getfield 282, 3) := by decide +kernel
theorem dX7_contactAnswer_55 : decode cX7_contactAnswer 55 = .ok (.ireturn, 1) := by decide +kernel
theorem dX7_contactAnswer_56 : decode cX7_contactAnswer 56 = .ok (.aload_n 0, 1) := by decide +kernel
theorem dX7_contactAnswer_57 : decode cX7_contactAnswer 57 = .ok (.getfield 285, 3) := by decide +kernel
theorem dX7_contactAnswer_60 : decode cX7_contactAnswer 60 = .ok (.ireturn, 1) := by decide +kernel
theorem dX7_contactAnswer_61 : decode cX7_contactAnswer 61 = .ok (.aload_n 0, 1) := by decide +kernel
theorem dX7_contactAnswer_62 : decode cX7_contactAnswer 62 = .ok (.getfield 288, 3) := by decide +kernel
theorem dX7_contactAnswer_65 : decode cX7_contactAnswer 65 = .ok (.ireturn, 1) := by decide +kernel
theorem dX7_whereAnswer_0 : decode cX7_whereAnswer 0 = .ok (.iload_n 1, 1) := by decide +kernel
theorem dX7_whereAnswer_1 : decode cX7_whereAnswer 1 = .ok (.tableswitch 55 0 3 #[31, 37, 43, 49], 31) := by decide +kernel
theorem dX7_whereAnswer_32 : decode cX7_whereAnswer 32 = .ok (.aload_n 0, 1) := by decide +kernel
theorem dX7_whereAnswer_33 : decode cX7_whereAnswer 33 = .ok (.getfield 291, 3) := by decide +kernel
theorem dX7_whereAnswer_36 : decode cX7_whereAnswer 36 = .ok (.f2d, 1) := by decide +kernel
theorem dX7_whereAnswer_37 : decode cX7_whereAnswer 37 = .ok (.dreturn, 1) := by decide +kernel
theorem dX7_whereAnswer_38 : decode cX7_whereAnswer 38 = .ok (.aload_n 0, 1) := by decide +kernel
theorem dX7_whereAnswer_39 : decode cX7_whereAnswer 39 = .ok (.getfield 295, 3) := by decide +kernel
theorem dX7_whereAnswer_42 : decode cX7_whereAnswer 42 = .ok (.f2d, 1) := by decide +kernel
theorem dX7_whereAnswer_43 : decode cX7_whereAnswer 43 = .ok (.dreturn, 1) := by decide +kernel
theorem dX7_whereAnswer_44 : decode cX7_whereAnswer 44 = .ok (.aload_n 0, 1) := by decide +kernel
theorem dX7_whereAnswer_45 : decode cX7_whereAnswer 45 = .ok (.getfield 298, 3) := by decide +kernel
theorem dX7_whereAnswer_48 : decode cX7_whereAnswer 48 = .ok (.f2d, 1) := by decide +kernel
theorem dX7_whereAnswer_49 : decode cX7_whereAnswer 49 = .ok (.dreturn, 1) := by decide +kernel
theorem dX7_whereAnswer_50 : decode cX7_whereAnswer 50 = .ok (.aload_n 0, 1) := by decide +kernel
theorem dX7_whereAnswer_51 : decode cX7_whereAnswer 51 = .ok (.getfield 301, 3) := by decide +kernel
theorem dX7_whereAnswer_54 : decode cX7_whereAnswer 54 = .ok (.f2d, 1) := by decide +kernel
theorem dX7_whereAnswer_55 : decode cX7_whereAnswer 55 = .ok (.dreturn, 1) := by decide +kernel
theorem dX7_whereAnswer_56 : decode cX7_whereAnswer 56 = .ok (.aload_n 0, 1) := by decide +kernel
theorem dX7_whereAnswer_57 : decode cX7_whereAnswer 57 = .ok (.getfield 304, 3) := by decide +kernel
theorem dX7_whereAnswer_60 : decode cX7_whereAnswer 60 = .ok (.f2d, 1) := by decide +kernel
theorem dX7_whereAnswer_61 : decode cX7_whereAnswer 61 = .ok (.dreturn, 1) := by decide +kernel
theorem dX7_rowAnswer_0 : decode cX7_rowAnswer 0 = .ok (.iload_n 2, 1) := by decide +kernel
theorem dX7_rowAnswer_1 : decode cX7_rowAnswer 1 = .ok (.lookupswitch 45 #[(0, 27), (1, 36)], 27) := by decide +kernel
theorem dX7_rowAnswer_28 : decode cX7_rowAnswer 28 = .ok (.aload_n 0, 1) := by decide +kernel
theorem dX7_rowAnswer_29 : decode cX7_rowAnswer 29 = .ok (.getfield 19, 3) := by decide +kernel
theorem dX7_rowAnswer_32 : decode cX7_rowAnswer 32 = .ok (.iload_n 1, 1) := by decide +kernel
theorem dX7_rowAnswer_33 : decode cX7_rowAnswer 33 = .ok (.invokevirtual 307, 3) := by decide +kernel
theorem dX7_rowAnswer_36 : decode cX7_rowAnswer 36 = .ok (.ireturn, 1) := by decide +kernel
theorem dX7_rowAnswer_37 : decode cX7_rowAnswer 37 = .ok (.aload_n 0, 1) := by decide +kernel
theorem dX7_rowAnswer_38 : decode cX7_rowAnswer 38 = .ok (.getfield 19, 3) := by decide +kernel
theorem dX7_rowAnswer_41 : decode cX7_rowAnswer 41 = .ok (.iload_n 1, 1) := by decide +kernel
theorem dX7_rowAnswer_42 : decode cX7_rowAnswer 42 = .ok (.invokevirtual 310, 3) := by decide +kernel
theorem dX7_rowAnswer_45 : decode cX7_rowAnswer 45 = .ok (.ireturn, 1) := by decide +kernel
theorem dX7_rowAnswer_46 : decode cX7_rowAnswer 46 = .ok (.aload_n 0, 1) := by decide +kernel
theorem dX7_rowAnswer_47 : decode cX7_rowAnswer 47 = .ok (.getfield 19, 3) := by decide +kernel
theorem dX7_rowAnswer_50 : decode cX7_rowAnswer 50 = .ok (.iload_n 1, 1) := by decide +kernel
theorem dX7_rowAnswer_51 : decode cX7_rowAnswer 51 = .ok (.invokevirtual 313, 3) := by decide +kernel
theorem dX7_rowAnswer_54 : decode cX7_rowAnswer 54 = .ok (.ireturn, 1) := by decide +kernel
theorem dX7_areaAnswer_0 : decode cX7_areaAnswer 0 = .ok (.iload_n 2, 1) := by decide +kernel
theorem dX7_areaAnswer_1 : decode cX7_areaAnswer 1 = .ok (.iconst 4, 1) := by decide +kernel
theorem dX7_areaAnswer_2 : decode cX7_areaAnswer 2 = .ok (.if_icmp .ge 15, 3) := by decide +kernel
theorem dX7_areaAnswer_5 : decode cX7_areaAnswer 5 = .ok (.aload_n 0, 1) := by decide +kernel
theorem dX7_areaAnswer_6 : decode cX7_areaAnswer 6 = .ok (.getfield 39, 3) := by decide +kernel
theorem dX7_areaAnswer_9 : decode cX7_areaAnswer 9 = .ok (.iload_n 1, 1) := by decide +kernel
theorem dX7_areaAnswer_10 : decode cX7_areaAnswer 10 = .ok (.iload_n 2, 1) := by decide +kernel
theorem dX7_areaAnswer_11 : decode cX7_areaAnswer 11 = .ok (.invokevirtual 316, 3) := by decide +kernel
theorem dX7_areaAnswer_14 : decode cX7_areaAnswer 14 = .ok (.goto 11, 3) := by decide +kernel
theorem dX7_areaAnswer_17 : decode cX7_areaAnswer 17 = .ok (.aload_n 0, 1) := by decide +kernel
theorem dX7_areaAnswer_18 : decode cX7_areaAnswer 18 = .ok (.getfield 48, 3) := by decide +kernel
theorem dX7_areaAnswer_21 : decode cX7_areaAnswer 21 = .ok (.iload_n 1, 1) := by decide +kernel
theorem dX7_areaAnswer_22 : decode cX7_areaAnswer 22 = .ok (.invokevirtual 319, 3) := by decide +kernel
theorem dX7_areaAnswer_25 : decode cX7_areaAnswer 25 = .ok (.ireturn, 1) := by decide +kernel
theorem dX7_manyAnswer_0 : decode cX7_manyAnswer 0 = .ok (.iload_n 1, 1) := by decide +kernel
theorem dX7_manyAnswer_1 : decode cX7_manyAnswer 1 = .ok (.tableswitch 117 0 8 #[51, 56, 61, 69, 77, 85, 93, 101, 109], 51) := by decide +kernel
theorem dX7_manyAnswer_52 : decode cX7_manyAnswer 52 = .ok (.aload_n 0, 1) := by decide +kernel
theorem dX7_manyAnswer_53 : decode cX7_manyAnswer 53 = .ok (.getfield 121, 3) := by decide +kernel
theorem dX7_manyAnswer_56 : decode cX7_manyAnswer 56 = .ok (.ireturn, 1) := by decide +kernel
theorem dX7_manyAnswer_57 : decode cX7_manyAnswer 57 = .ok (.aload_n 0, 1) := by decide +kernel
theorem dX7_manyAnswer_58 : decode cX7_manyAnswer 58 = .ok (.getfield 118, 3) := by decide +kernel
theorem dX7_manyAnswer_61 : decode cX7_manyAnswer 61 = .ok (.ireturn, 1) := by decide +kernel
theorem dX7_manyAnswer_62 : decode cX7_manyAnswer 62 = .ok (.aload_n 0, 1) := by decide +kernel
theorem dX7_manyAnswer_63 : decode cX7_manyAnswer 63 = .ok (.getfield 48, 3) := by decide +kernel
theorem dX7_manyAnswer_66 : decode cX7_manyAnswer 66 = .ok (.invokevirtual 143, 3) := by decide +kernel
theorem dX7_manyAnswer_69 : decode cX7_manyAnswer 69 = .ok (.ireturn, 1) := by decide +kernel
theorem dX7_manyAnswer_70 : decode cX7_manyAnswer 70 = .ok (.aload_n 0, 1) := by decide +kernel
theorem dX7_manyAnswer_71 : decode cX7_manyAnswer 71 = .ok (.getfield 48, 3) := by decide +kernel
theorem dX7_manyAnswer_74 : decode cX7_manyAnswer 74 = .ok (.getfield 322, 3) := by decide +kernel
theorem dX7_manyAnswer_77 : decode cX7_manyAnswer 77 = .ok (.ireturn, 1) := by decide +kernel
theorem dX7_manyAnswer_78 : decode cX7_manyAnswer 78 = .ok (.aload_n 0, 1) := by decide +kernel
theorem dX7_manyAnswer_79 : decode cX7_manyAnswer 79 = .ok (.getfield 48, 3) := by decide +kernel
theorem dX7_manyAnswer_82 : decode cX7_manyAnswer 82 = .ok (.getfield 325, 3) := by decide +kernel
theorem dX7_manyAnswer_85 : decode cX7_manyAnswer 85 = .ok (.ireturn, 1) := by decide +kernel
theorem dX7_manyAnswer_86 : decode cX7_manyAnswer 86 = .ok (.aload_n 0, 1) := by decide +kernel
theorem dX7_manyAnswer_87 : decode cX7_manyAnswer 87 = .ok (.getfield 48, 3) := by decide +kernel
theorem dX7_manyAnswer_90 : decode cX7_manyAnswer 90 = .ok (.getfield 328, 3) := by decide +kernel
theorem dX7_manyAnswer_93 : decode cX7_manyAnswer 93 = .ok (.ireturn, 1) := by decide +kernel
theorem dX7_manyAnswer_94 : decode cX7_manyAnswer 94 = .ok (.aload_n 0, 1) := by decide +kernel
theorem dX7_manyAnswer_95 : decode cX7_manyAnswer 95 = .ok (.getfield 39, 3) := by decide +kernel
theorem dX7_manyAnswer_98 : decode cX7_manyAnswer 98 = .ok (.getfield 66, 3) := by decide +kernel
theorem dX7_manyAnswer_101 : decode cX7_manyAnswer 101 = .ok (.ireturn, 1) := by decide +kernel
theorem dX7_manyAnswer_102 : decode cX7_manyAnswer 102 = .ok (.aload_n 0, 1) := by decide +kernel
theorem dX7_manyAnswer_103 : decode cX7_manyAnswer 103 = .ok (.getfield 19, 3) := by decide +kernel
theorem dX7_manyAnswer_106 : decode cX7_manyAnswer 106 = .ok (.getfield 115, 3) := by decide +kernel
theorem dX7_manyAnswer_109 : decode cX7_manyAnswer 109 = .ok (.ireturn, 1) := by decide +kernel
theorem dX7_manyAnswer_110 : decode cX7_manyAnswer 110 = .ok (.aload_n 0, 1) := by decide +kernel
theorem dX7_manyAnswer_111 : decode cX7_manyAnswer 111 = .ok (.getfield 19, 3) := by decide +kernel
theorem dX7_manyAnswer_114 : decode cX7_manyAnswer 114 = .ok (.getfield 160, 3) := by decide +kernel
theorem dX7_manyAnswer_117 : decode cX7_manyAnswer 117 = .ok (.ireturn, 1) := by decide +kernel
theorem dX7_manyAnswer_118 : decode cX7_manyAnswer 118 = .ok (.aload_n 0, 1) := by decide +kernel
theorem dX7_manyAnswer_119 : decode cX7_manyAnswer 119 = .ok (.getfield 19, 3) := by decide +kernel
theorem dX7_manyAnswer_122 : decode cX7_manyAnswer 122 = .ok (.invokevirtual 331, 3) := by decide +kernel
theorem dX7_manyAnswer_125 : decode cX7_manyAnswer 125 = .ok (.ireturn, 1) := by decide +kernel
theorem dX7_matchIn_0 : decode cX7_matchIn 0 = .ok (.aload_n 1, 1) := by decide +kernel
theorem dX7_matchIn_1 : decode cX7_matchIn 1 = .ok (.getfield 115, 3) := by decide +kernel
theorem dX7_matchIn_4 : decode cX7_matchIn 4 = .ok (.aload_n 0, 1) := by decide +kernel
theorem dX7_matchIn_5 : decode cX7_matchIn 5 = .ok (.getfield 56, 3) := by decide +kernel
theorem dX7_matchIn_8 : decode cX7_matchIn 8 = .ok (.if_icmp .le 5, 3) := by decide +kernel
theorem dX7_matchIn_11 : decode cX7_matchIn 11 = .ok (.iconst (-1), 1) := by decide +kernel
theorem dX7_matchIn_12 : decode cX7_matchIn 12 = .ok (.ireturn, 1) := by decide +kernel
theorem dX7_matchIn_13 : decode cX7_matchIn 13 = .ok (.aload_n 0, 1) := by decide +kernel
theorem dX7_matchIn_14 : decode cX7_matchIn 14 = .ok (.getfield 32, 3) := by decide +kernel
theorem dX7_matchIn_17 : decode cX7_matchIn 17 = .ok (.aload_n 1, 1) := by decide +kernel
theorem dX7_matchIn_18 : decode cX7_matchIn 18 = .ok (.aload_n 0, 1) := by decide +kernel
theorem dX7_matchIn_19 : decode cX7_matchIn 19 = .ok (.getfield 48, 3) := by decide +kernel
theorem dX7_matchIn_22 : decode cX7_matchIn 22 = .ok (.getfield 124, 3) := by decide +kernel
theorem dX7_matchIn_25 : decode cX7_matchIn 25 = .ok (.invokevirtual 128, 3) := by decide +kernel
theorem dX7_matchIn_28 : decode cX7_matchIn 28 = .ok (.aload_n 0, 1) := by decide +kernel
theorem dX7_matchIn_29 : decode cX7_matchIn 29 = .ok (.getfield 32, 3) := by decide +kernel
theorem dX7_matchIn_32 : decode cX7_matchIn 32 = .ok (.iload_n 2, 1) := by decide +kernel
theorem dX7_matchIn_33 : decode cX7_matchIn 33 = .ok (.invokevirtual 334, 3) := by decide +kernel
theorem dX7_matchIn_36 : decode cX7_matchIn 36 = .ok (.ireturn, 1) := by decide +kernel
theorem dX7_wouldKeep_0 : decode cX7_wouldKeep 0 = .ok (.aload_n 0, 1) := by decide +kernel
theorem dX7_wouldKeep_1 : decode cX7_wouldKeep 1 = .ok (.getfield 23, 3) := by decide +kernel
theorem dX7_wouldKeep_4 : decode cX7_wouldKeep 4 = .ok (.aload_n 0, 1) := by decide +kernel
theorem dX7_wouldKeep_5 : decode cX7_wouldKeep 5 = .ok (.getfield 10, 3) := by decide +kernel
theorem dX7_wouldKeep_8 : decode cX7_wouldKeep 8 = .ok (.invokevirtual 208, 3) := by decide +kernel
theorem dX7_wouldKeep_11 : decode cX7_wouldKeep 11 = .ok (.aload_n 0, 1) := by decide +kernel
theorem dX7_wouldKeep_12 : decode cX7_wouldKeep 12 = .ok (.getfield 23, 3) := by decide +kernel
theorem dX7_wouldKeep_15 : decode cX7_wouldKeep 15 = .ok (.iload_n 2, 1) := by decide +kernel
theorem dX7_wouldKeep_16 : decode cX7_wouldKeep 16 = .ok (.bipush 8, 2) := by decide +kernel
theorem dX7_wouldKeep_18 : decode cX7_wouldKeep 18 = .ok (.irem, 1) := by decide +kernel
theorem dX7_wouldKeep_19 : decode cX7_wouldKeep 19 = .ok (.iload_n 2, 1) := by decide +kernel
theorem dX7_wouldKeep_20 : decode cX7_wouldKeep 20 = .ok (.bipush 8, 2) := by decide +kernel
theorem dX7_wouldKeep_22 : decode cX7_wouldKeep 22 = .ok (.idiv, 1) := by decide +kernel
theorem dX7_wouldKeep_23 : decode cX7_wouldKeep 23 = .ok (.iload_n 3, 1) := by decide +kernel
theorem dX7_wouldKeep_24 : decode cX7_wouldKeep 24 = .ok (.invokevirtual 99, 3) := by decide +kernel
theorem dX7_wouldKeep_27 : decode cX7_wouldKeep 27 = .ok (.aload_n 0, 1) := by decide +kernel
theorem dX7_wouldKeep_28 : decode cX7_wouldKeep 28 = .ok (.getfield 26, 3) := by decide +kernel
theorem dX7_wouldKeep_31 : decode cX7_wouldKeep 31 = .ok (.aload_n 0, 1) := by decide +kernel
theorem dX7_wouldKeep_32 : decode cX7_wouldKeep 32 = .ok (.getfield 23, 3) := by decide +kernel
theorem dX7_wouldKeep_35 : decode cX7_wouldKeep 35 = .ok (.invokevirtual 87, 3) := by decide +kernel
theorem dX7_wouldKeep_38 : decode cX7_wouldKeep 38 = .ok (.aload_n 0, 1) := by decide +kernel
theorem dX7_wouldKeep_39 : decode cX7_wouldKeep 39 = .ok (.getfield 26, 3) := by decide +kernel
theorem dX7_wouldKeep_42 : decode cX7_wouldKeep 42 = .ok (.iload_n 2, 1) := by decide +kernel
theorem dX7_wouldKeep_43 : decode cX7_wouldKeep 43 = .ok (.invokevirtual 337, 3) := by decide +kernel
theorem dX7_wouldKeep_46 : decode cX7_wouldKeep 46 = .ok (.istore 4, 2) := by decide +kernel
theorem dX7_wouldKeep_48 : decode cX7_wouldKeep 48 = .ok (.iload 4, 2) := by decide +kernel
theorem dX7_wouldKeep_50 : decode cX7_wouldKeep 50 = .ok (.iconst (-1), 1) := by decide +kernel
theorem dX7_wouldKeep_51 : decode cX7_wouldKeep 51 = .ok (.if_icmp .eq 21, 3) := by decide +kernel
theorem dX7_wouldKeep_54 : decode cX7_wouldKeep 54 = .ok (.aload_n 0, 1) := by decide +kernel
theorem dX7_wouldKeep_55 : decode cX7_wouldKeep 55 = .ok (.aload_n 0, 1) := by decide +kernel
theorem dX7_wouldKeep_56 : decode cX7_wouldKeep 56 = .ok (.getfield 26, 3) := by decide +kernel
theorem dX7_wouldKeep_59 : decode cX7_wouldKeep 59 = .ok (.iload_n 1, 1) := by decide +kernel
theorem dX7_wouldKeep_60 : decode cX7_wouldKeep 60 = .ok (.invokevirtual 204, 3) := by decide +kernel
theorem dX7_wouldKeep_63 : decode cX7_wouldKeep 63 = .ok (.iload 4, 2) := by decide +kernel
theorem dX7_wouldKeep_65 : decode cX7_wouldKeep 65 = .ok (.if_icmp .ne 7, 3) := by decide +kernel
theorem dX7_wouldKeep_68 : decode cX7_wouldKeep 68 = .ok (.iconst 1, 1) := by decide +kernel
theorem dX7_wouldKeep_69 : decode cX7_wouldKeep 69 = .ok (.goto 4, 3) := by decide +kernel
theorem dX7_wouldKeep_72 : decode cX7_wouldKeep 72 = .ok (.iconst 0, 1) := by decide +kernel
theorem dX7_wouldKeep_73 : decode cX7_wouldKeep 73 = .ok (.ireturn, 1) := by decide +kernel
theorem dX7_mixed_0 : decode cX7_mixed 0 = .ok (.lload_n 0, 1) := by decide +kernel
theorem dX7_mixed_1 : decode cX7_mixed 1 = .ok (.ldc2_w 340, 3) := by decide +kernel
theorem dX7_mixed_4 : decode cX7_mixed 4 = .ok (.lmul, 1) := by decide +kernel
theorem dX7_mixed_5 : decode cX7_mixed 5 = .ok (.lload_n 2, 1) := by decide +kernel
theorem dX7_mixed_6 : decode cX7_mixed 6 = .ok (.ladd, 1) := by decide +kernel
theorem dX7_mixed_7 : decode cX7_mixed 7 = .ok (.lreturn, 1) := by decide +kernel
theorem dX7_mixedContact_0 : decode cX7_mixedContact 0 = .ok (.aload_n 0, 1) := by decide +kernel
theorem dX7_mixedContact_1 : decode cX7_mixedContact 1 = .ok (.getfield 48, 3) := by decide +kernel
theorem dX7_mixedContact_4 : decode cX7_mixedContact 4 = .ok (.getfield 124, 3) := by decide +kernel
theorem dX7_mixedContact_7 : decode cX7_mixedContact 7 = .ok (.iload_n 3, 1) := by decide +kernel
theorem dX7_mixedContact_8 : decode cX7_mixedContact 8 = .ok (.aaload, 1) := by decide +kernel
theorem dX7_mixedContact_9 : decode cX7_mixedContact 9 = .ok (.astore 4, 2) := by decide +kernel
theorem dX7_mixedContact_11 : decode cX7_mixedContact 11 = .ok (.lload_n 1, 1) := by decide +kernel
theorem dX7_mixedContact_12 : decode cX7_mixedContact 12 = .ok (.iload_n 3, 1) := by decide +kernel
theorem dX7_mixedContact_13 : decode cX7_mixedContact 13 = .ok (.i2l, 1) := by decide +kernel
theorem dX7_mixedContact_14 : decode cX7_mixedContact 14 = .ok (.invokestatic 221, 3) := by decide +kernel
theorem dX7_mixedContact_17 : decode cX7_mixedContact 17 = .ok (.lstore 5, 2) := by decide +kernel
theorem dX7_mixedContact_19 : decode cX7_mixedContact 19 = .ok (.iconst 0, 1) := by decide +kernel
theorem dX7_mixedContact_20 : decode cX7_mixedContact 20 = .ok (.istore 7, 2) := by decide +kernel
theorem dX7_mixedContact_22 : decode cX7_mixedContact 22 = .ok (.iload 7, 2) := by decide +kernel
theorem dX7_mixedContact_24 : decode cX7_mixedContact 24 = .ok (.iconst 5, 1) := by decide +kernel
theorem dX7_mixedContact_25 : decode cX7_mixedContact 25 = .ok (.if_icmp .gt 24, 3) := by decide +kernel
theorem dX7_mixedContact_28 : decode cX7_mixedContact 28 = .ok (.lload 5, 2) := by decide +kernel
theorem dX7_mixedContact_30 : decode cX7_mixedContact 30 = .ok (.aload 4, 2) := by decide +kernel
theorem dX7_mixedContact_32 : decode cX7_mixedContact 32 = .ok (.iload 7, 2) := by decide +kernel
theorem dX7_mixedContact_34 : decode cX7_mixedContact 34 = .ok (.invokestatic 174, 3) := by decide +kernel
theorem dX7_mixedContact_37 : decode cX7_mixedContact 37 = .ok (.i2l, 1) := by decide +kernel
theorem dX7_mixedContact_38 : decode cX7_mixedContact 38 = .ok (.invokestatic 221, 3) := by decide +kernel
theorem dX7_mixedContact_41 : decode cX7_mixedContact 41 = .ok (.lstore 5, 2) := by decide +kernel
theorem dX7_mixedContact_43 : decode cX7_mixedContact 43 = .ok (.iinc 7 1, 3) := by decide +kernel
theorem dX7_mixedContact_46 : decode cX7_mixedContact 46 = .ok (.goto (-24), 3) := by decide +kernel
theorem dX7_mixedContact_49 : decode cX7_mixedContact 49 = .ok (.lload 5, 2) := by decide +kernel
theorem dX7_mixedContact_51 : decode cX7_mixedContact 51 = .ok (.aload_n 0, 1) := by decide +kernel
theorem dX7_mixedContact_52 : decode cX7_mixedContact 52 = .ok (.aload_n 0, 1) := by decide +kernel
theorem dX7_mixedContact_53 : decode cX7_mixedContact 53 = .ok (.getfield 19, 3) := by decide +kernel
theorem dX7_mixedContact_56 : decode cX7_mixedContact 56 = .ok (.iload_n 3, 1) := by decide +kernel
theorem dX7_mixedContact_57 : decode cX7_mixedContact 57 = .ok (.invokevirtual 204, 3) := by decide +kernel
theorem dX7_mixedContact_60 : decode cX7_mixedContact 60 = .ok (.i2l, 1) := by decide +kernel
theorem dX7_mixedContact_61 : decode cX7_mixedContact 61 = .ok (.invokestatic 221, 3) := by decide +kernel
theorem dX7_mixedContact_64 : decode cX7_mixedContact 64 = .ok (.lstore 5, 2) := by decide +kernel
theorem dX7_mixedContact_66 : decode cX7_mixedContact 66 = .ok (.iconst 0, 1) := by decide +kernel
theorem dX7_mixedContact_67 : decode cX7_mixedContact 67 = .ok (.istore 7, 2) := by decide +kernel
theorem dX7_mixedContact_69 : decode cX7_mixedContact 69 = .ok (.iload 7, 2) := by decide +kernel
theorem dX7_mixedContact_71 : decode cX7_mixedContact 71 = .ok (.iconst 4, 1) := by decide +kernel
theorem dX7_mixedContact_72 : decode cX7_mixedContact 72 = .ok (.if_icmp .gt 26, 3) := by decide +kernel
theorem dX7_mixedContact_75 : decode cX7_mixedContact 75 = .ok (.lload 5, 2) := by decide +kernel
theorem dX7_mixedContact_77 : decode cX7_mixedContact 77 = .ok (.aload 4, 2) := by decide +kernel
theorem dX7_mixedContact_79 : decode cX7_mixedContact 79 = .ok (.iload 7, 2) := by decide +kernel
theorem dX7_mixedContact_81 : decode cX7_mixedContact 81 = .ok (.invokestatic 178, 3) := by decide +kernel
theorem dX7_mixedContact_84 : decode cX7_mixedContact 84 = .ok (.invokestatic 342, 3) := by decide +kernel
theorem dX7_mixedContact_87 : decode cX7_mixedContact 87 = .ok (.invokestatic 221, 3) := by decide +kernel
theorem dX7_mixedContact_90 : decode cX7_mixedContact 90 = .ok (.lstore 5, 2) := by decide +kernel
theorem dX7_mixedContact_92 : decode cX7_mixedContact 92 = .ok (.iinc 7 1, 3) := by decide +kernel
theorem dX7_mixedContact_95 : decode cX7_mixedContact 95 = .ok (.goto (-26), 3) := by decide +kernel
theorem dX7_mixedContact_98 : decode cX7_mixedContact 98 = .ok (.lload 5, 2) := by decide +kernel
theorem dX7_mixedContact_100 : decode cX7_mixedContact 100 = .ok (.aload 4, 2) := by decide +kernel
theorem dX7_mixedContact_102 : decode cX7_mixedContact 102 = .ok (.iconst 2, 1) := by decide +kernel
theorem dX7_mixedContact_103 : decode cX7_mixedContact 103 = .ok (.iconst 0, 1) := by decide +kernel
theorem dX7_mixedContact_104 : decode cX7_mixedContact 104 = .ok (.invokevirtual 200, 3) := by decide +kernel
theorem dX7_mixedContact_107 : decode cX7_mixedContact 107 = .ok (.f2d, 1) := by decide +kernel
theorem dX7_mixedContact_108 : decode cX7_mixedContact 108 = .ok (.invokestatic 342, 3) := by decide +kernel
theorem dX7_mixedContact_111 : decode cX7_mixedContact 111 = .ok (.invokestatic 221, 3) := by decide +kernel
theorem dX7_mixedContact_114 : decode cX7_mixedContact 114 = .ok (.lstore 5, 2) := by decide +kernel
theorem dX7_mixedContact_116 : decode cX7_mixedContact 116 = .ok (.lload 5, 2) := by decide +kernel
theorem dX7_mixedContact_118 : decode cX7_mixedContact 118 = .ok (.aload 4, 2) := by decide +kernel
theorem dX7_mixedContact_120 : decode cX7_mixedContact 120 = .ok (.iconst 2, 1) := by decide +kernel
theorem dX7_mixedContact_121 : decode cX7_mixedContact 121 = .ok (.iconst 1, 1) := by decide +kernel
theorem dX7_mixedContact_122 : decode cX7_mixedContact 122 = .ok (.invokevirtual 200, 3) := by decide +kernel
theorem dX7_mixedContact_125 : decode cX7_mixedContact 125 = .ok (.f2d, 1) := by decide +kernel
theorem dX7_mixedContact_126 : decode cX7_mixedContact 126 = .ok (.invokestatic 342, 3) := by decide +kernel
theorem dX7_mixedContact_129 : decode cX7_mixedContact 129 = .ok (.invokestatic 221, 3) := by decide +kernel
theorem dX7_mixedContact_132 : decode cX7_mixedContact 132 = .ok (.lreturn, 1) := by decide +kernel
theorem dX7_sixteenths_0 : decode cX7_sixteenths 0 = .ok (.ldc2_w 346, 3) := by decide +kernel
theorem dX7_sixteenths_3 : decode cX7_sixteenths 3 = .ok (.dload_n 0, 1) := by decide +kernel
theorem dX7_sixteenths_4 : decode cX7_sixteenths 4 = .ok (.dmul, 1) := by decide +kernel
theorem dX7_sixteenths_5 : decode cX7_sixteenths 5 = .ok (.d2l, 1) := by decide +kernel
theorem dX7_sixteenths_6 : decode cX7_sixteenths 6 = .ok (.lreturn, 1) := by decide +kernel
theorem dX7_withoutSign_0 : decode cX7_withoutSign 0 = .ok (.fload_n 0, 1) := by decide +kernel
theorem dX7_withoutSign_1 : decode cX7_withoutSign 1 = .ok (.fconst 0, 1) := by decide +kernel
theorem dX7_withoutSign_2 : decode cX7_withoutSign 2 = .ok (.fcmp .g, 1) := by decide +kernel
theorem dX7_withoutSign_3 : decode cX7_withoutSign 3 = .ok (.ifCond .ge 8, 3) := by decide +kernel
theorem dX7_withoutSign_6 : decode cX7_withoutSign 6 = .ok (.fload_n 0, 1) := by decide +kernel
theorem dX7_withoutSign_7 : decode cX7_withoutSign 7 = .ok (.fneg, 1) := by decide +kernel
theorem dX7_withoutSign_8 : decode cX7_withoutSign 8 = .ok (.goto 4, 3) := by decide +kernel
theorem dX7_withoutSign_11 : decode cX7_withoutSign 11 = .ok (.fload_n 0, 1) := by decide +kernel
theorem dX7_withoutSign_12 : decode cX7_withoutSign 12 = .ok (.freturn, 1) := by decide +kernel
