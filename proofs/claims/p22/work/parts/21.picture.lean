/-! ===== Picture ===== -/
theorem dX5_init_0 : decode cX5_init 0 = .ok (.aload_n 0, 1) := by decide +kernel
theorem dX5_init_1 : decode cX5_init 1 = .ok (.invokespecial 3, 3) := by decide +kernel
theorem dX5_init_4 : decode cX5_init 4 = .ok (.aload_n 0, 1) := by decide +kernel
theorem dX5_init_5 : decode cX5_init 5 = .ok (.bipush 48, 2) := by decide +kernel
theorem dX5_init_7 : decode cX5_init 7 = .ok (.newarray .int, 2) := by decide +kernel
theorem dX5_init_9 : decode cX5_init 9 = .ok (.putfield 9, 3) := by decide +kernel
theorem dX5_init_12 : decode cX5_init 12 = .ok (.aload_n 0, 1) := by decide +kernel
theorem dX5_init_13 : decode cX5_init 13 = .ok (.bipush 48, 2) := by decide +kernel
theorem dX5_init_15 : decode cX5_init 15 = .ok (.newarray .int, 2) := by decide +kernel
theorem dX5_init_17 : decode cX5_init 17 = .ok (.putfield 15, 3) := by decide +kernel
theorem dX5_init_20 : decode cX5_init 20 = .ok (.aload_n 0, 1) := by decide +kernel
theorem dX5_init_21 : decode cX5_init 21 = .ok (.bipush 48, 2) := by decide +kernel
theorem dX5_init_23 : decode cX5_init 23 = .ok (.newarray .int, 2) := by decide +kernel
theorem dX5_init_25 : decode cX5_init 25 = .ok (.putfield 18, 3) := by decide +kernel
theorem dX5_init_28 : decode cX5_init 28 = .ok (.aload_n 0, 1) := by decide +kernel
theorem dX5_init_29 : decode cX5_init 29 = .ok (.bipush 48, 2) := by decide +kernel
theorem dX5_init_31 : decode cX5_init 31 = .ok (.newarray .int, 2) := by decide +kernel
theorem dX5_init_33 : decode cX5_init 33 = .ok (.putfield 21, 3) := by decide +kernel
theorem dX5_init_36 : decode cX5_init 36 = .ok (.aload_n 0, 1) := by decide +kernel
theorem dX5_init_37 : decode cX5_init 37 = .ok (.bipush 48, 2) := by decide +kernel
theorem dX5_init_39 : decode cX5_init 39 = .ok (.newarray .int, 2) := by decide +kernel
theorem dX5_init_41 : decode cX5_init 41 = .ok (.putfield 24, 3) := by decide +kernel
theorem dX5_init_44 : decode cX5_init 44 = .ok (.aload_n 0, 1) := by decide +kernel
theorem dX5_init_45 : decode cX5_init 45 = .ok (.bipush 48, 2) := by decide +kernel
theorem dX5_init_47 : decode cX5_init 47 = .ok (.newarray .int, 2) := by decide +kernel
theorem dX5_init_49 : decode cX5_init 49 = .ok (.putfield 27, 3) := by decide +kernel
theorem dX5_init_52 : decode cX5_init 52 = .ok (.return_, 1) := by decide +kernel
theorem dX5_look_0 : decode cX5_look 0 = .ok (.iconst 0, 1) := by decide +kernel
theorem dX5_look_1 : decode cX5_look 1 = .ok (.istore_n 2, 1) := by decide +kernel
theorem dX5_look_2 : decode cX5_look 2 = .ok (.iload_n 2, 1) := by decide +kernel
theorem dX5_look_3 : decode cX5_look 3 = .ok (.bipush 48, 2) := by decide +kernel
theorem dX5_look_5 : decode cX5_look 5 = .ok (.if_icmp .ge 27, 3) := by decide +kernel
theorem dX5_look_8 : decode cX5_look 8 = .ok (.aload_n 0, 1) := by decide +kernel
theorem dX5_look_9 : decode cX5_look 9 = .ok (.getfield 9, 3) := by decide +kernel
theorem dX5_look_12 : decode cX5_look 12 = .ok (.iload_n 2, 1) := by decide +kernel
theorem dX5_look_13 : decode cX5_look 13 = .ok (.aload_n 1, 1) := by decide +kernel
theorem dX5_look_14 : decode cX5_look 14 = .ok (.iload_n 2, 1) := by decide +kernel
theorem dX5_look_15 : decode cX5_look 15 = .ok (.invokevirtual 30, 3) := by decide +kernel
theorem dX5_look_18 : decode cX5_look 18 = .ok (.iastore, 1) := by decide +kernel
theorem dX5_look_19 : decode cX5_look 19 = .ok (.aload_n 0, 1) := by decide +kernel
theorem dX5_look_20 : decode cX5_look 20 = .ok (.getfield 15, 3) := by decide +kernel
theorem dX5_look_23 : decode cX5_look 23 = .ok (.iload_n 2, 1) := by decide +kernel
theorem dX5_look_24 : decode cX5_look 24 = .ok (.iconst 0, 1) := by decide +kernel
theorem dX5_look_25 : decode cX5_look 25 = .ok (.iastore, 1) := by decide +kernel
theorem dX5_look_26 : decode cX5_look 26 = .ok (.iinc 2 1, 3) := by decide +kernel
theorem dX5_look_29 : decode cX5_look 29 = .ok (.goto (-27), 3) := by decide +kernel
theorem dX5_look_32 : decode cX5_look 32 = .ok (.iconst 0, 1) := by decide +kernel
theorem dX5_look_33 : decode cX5_look 33 = .ok (.istore_n 2, 1) := by decide +kernel
theorem dX5_look_34 : decode cX5_look 34 = .ok (.iload_n 2, 1) := by decide +kernel
theorem dX5_look_35 : decode cX5_look 35 = .ok (.bipush 48, 2) := by decide +kernel
theorem dX5_look_37 : decode cX5_look 37 = .ok (.if_icmp .ge 31, 3) := by decide +kernel
theorem dX5_look_40 : decode cX5_look 40 = .ok (.aload_n 0, 1) := by decide +kernel
theorem dX5_look_41 : decode cX5_look 41 = .ok (.iload_n 2, 1) := by decide +kernel
theorem dX5_look_42 : decode cX5_look 42 = .ok (.invokevirtual 36, 3) := by decide +kernel
theorem dX5_look_45 : decode cX5_look 45 = .ok (.ifCond .eq 17, 3) := by decide +kernel
theorem dX5_look_48 : decode cX5_look 48 = .ok (.aload_n 0, 1) := by decide +kernel
theorem dX5_look_49 : decode cX5_look 49 = .ok (.getfield 15, 3) := by decide +kernel
theorem dX5_look_52 : decode cX5_look 52 = .ok (.iload_n 2, 1) := by decide +kernel
theorem dX5_look_53 : decode cX5_look 53 = .ok (.iaload, 1) := by decide +kernel
theorem dX5_look_54 : decode cX5_look 54 = .ok (.ifCond .ne 8, 3) := by decide +kernel
theorem dX5_look_57 : decode cX5_look 57 = .ok (.aload_n 0, 1) := by decide +kernel
theorem dX5_look_58 : decode cX5_look 58 = .ok (.iload_n 2, 1) := by decide +kernel
theorem dX5_look_59 : decode cX5_look 59 = .ok (.invokevirtual 40, 3) := by decide +kernel
theorem dX5_look_62 : decode cX5_look 62 = .ok (.iinc 2 1, 3) := by decide +kernel
theorem dX5_look_65 : decode cX5_look 65 = .ok (.goto (-31), 3) := by decide +kernel
theorem dX5_look_68 : decode cX5_look 68 = .ok (.aload_n 0, 1) := by decide +kernel
theorem dX5_look_69 : decode cX5_look 69 = .ok (.invokevirtual 44, 3) := by decide +kernel
theorem dX5_look_72 : decode cX5_look 72 = .ok (.aload_n 0, 1) := by decide +kernel
theorem dX5_look_73 : decode cX5_look 73 = .ok (.aload_n 0, 1) := by decide +kernel
theorem dX5_look_74 : decode cX5_look 74 = .ok (.invokevirtual 47, 3) := by decide +kernel
theorem dX5_look_77 : decode cX5_look 77 = .ok (.putfield 51, 3) := by decide +kernel
theorem dX5_look_80 : decode cX5_look 80 = .ok (.return_, 1) := by decide +kernel
theorem dX5_isTouched_0 : decode cX5_isTouched 0 = .ok (.aload_n 0, 1) := by decide +kernel
theorem dX5_isTouched_1 : decode cX5_isTouched 1 = .ok (.getfield 9, 3) := by decide +kernel
theorem dX5_isTouched_4 : decode cX5_isTouched 4 = .ok (.iload_n 1, 1) := by decide +kernel
theorem dX5_isTouched_5 : decode cX5_isTouched 5 = .ok (.iaload, 1) := by decide +kernel
theorem dX5_isTouched_6 : decode cX5_isTouched 6 = .ok (.bipush 20, 2) := by decide +kernel
theorem dX5_isTouched_8 : decode cX5_isTouched 8 = .ok (.if_icmp .lt 7, 3) := by decide +kernel
theorem dX5_isTouched_11 : decode cX5_isTouched 11 = .ok (.iconst 1, 1) := by decide +kernel
theorem dX5_isTouched_12 : decode cX5_isTouched 12 = .ok (.goto 4, 3) := by decide +kernel
theorem dX5_isTouched_15 : decode cX5_isTouched 15 = .ok (.iconst 0, 1) := by decide +kernel
theorem dX5_isTouched_16 : decode cX5_isTouched 16 = .ok (.ireturn, 1) := by decide +kernel
theorem dX5_measureRegion_0 : decode cX5_measureRegion 0 = .ok (.aload_n 0, 1) := by decide +kernel
theorem dX5_measureRegion_1 : decode cX5_measureRegion 1 = .ok (.iload_n 1, 1) := by decide +kernel
theorem dX5_measureRegion_2 : decode cX5_measureRegion 2 = .ok (.bipush 8, 2) := by decide +kernel
theorem dX5_measureRegion_4 : decode cX5_measureRegion 4 = .ok (.irem, 1) := by decide +kernel
theorem dX5_measureRegion_5 : decode cX5_measureRegion 5 = .ok (.iload_n 1, 1) := by decide +kernel
theorem dX5_measureRegion_6 : decode cX5_measureRegion 6 = .ok (.bipush 8, 2) := by decide +kernel
theorem dX5_measureRegion_8 : decode cX5_measureRegion 8 = .ok (.idiv, 1) := by decide +kernel
theorem dX5_measureRegion_9 : decode cX5_measureRegion 9 = .ok (.iconst 0, 1) := by decide +kernel
theorem dX5_measureRegion_10 : decode cX5_measureRegion 10 = .ok (.invokevirtual 55, 3) := by decide +kernel
theorem dX5_measureRegion_13 : decode cX5_measureRegion 13 = .ok (.istore_n 2, 1) := by decide +kernel
theorem dX5_measureRegion_14 : decode cX5_measureRegion 14 = .ok (.iconst 0, 1) := by decide +kernel
theorem dX5_measureRegion_15 : decode cX5_measureRegion 15 = .ok (.istore_n 3, 1) := by decide +kernel
theorem dX5_measureRegion_16 : decode cX5_measureRegion 16 = .ok (.iload_n 3, 1) := by decide +kernel
theorem dX5_measureRegion_17 : decode cX5_measureRegion 17 = .ok (.iload_n 2, 1) := by decide +kernel
theorem dX5_measureRegion_18 : decode cX5_measureRegion 18 = .ok (.if_icmp .ge 85, 3) := by decide +kernel
theorem dX5_measureRegion_21 : decode cX5_measureRegion 21 = .ok (.iload_n 3, 1) := by decide +kernel
theorem dX5_measureRegion_22 : decode cX5_measureRegion 22 = .ok (.bipush 48, 2) := by decide +kernel
theorem dX5_measureRegion_24 : decode cX5_measureRegion 24 = .ok (.if_icmp .ge 79, 3) := by decide +kernel
theorem dX5_measureRegion_27 : decode cX5_measureRegion 27 = .ok (.aload_n 0, 1) := by decide +kernel
theorem dX5_measureRegion_28 : decode cX5_measureRegion 28 = .ok (.getfield 27, 3) := by decide +kernel
theorem dX5_measureRegion_31 : decode cX5_measureRegion 31 = .ok (.iload_n 3, 1) := by decide +kernel
theorem dX5_measureRegion_32 : decode cX5_measureRegion 32 = .ok (.iaload, 1) := by decide +kernel
theorem dX5_measureRegion_33 : decode cX5_measureRegion 33 = .ok (.bipush 8, 2) := by decide +kernel
theorem dX5_measureRegion_35 : decode cX5_measureRegion 35 = .ok (.irem, 1) := by decide +kernel
theorem dX5_measureRegion_36 : decode cX5_measureRegion 36 = .ok (.istore 4, 2) := by decide +kernel
theorem dX5_measureRegion_38 : decode cX5_measureRegion 38 = .ok (.aload_n 0, 1) := by decide +kernel
theorem dX5_measureRegion_39 : decode cX5_measureRegion 39 = .ok (.getfield 27, 3) := by decide +kernel
theorem dX5_measureRegion_42 : decode cX5_measureRegion 42 = .ok (.iload_n 3, 1) := by decide +kernel
theorem dX5_measureRegion_43 : decode cX5_measureRegion 43 = .ok (.iaload, 1) := by decide +kernel
theorem dX5_measureRegion_44 : decode cX5_measureRegion 44 = .ok (.bipush 8, 2) := by decide +kernel
theorem dX5_measureRegion_46 : decode cX5_measureRegion 46 = .ok (.idiv, 1) := by decide +kernel
theorem dX5_measureRegion_47 : decode cX5_measureRegion 47 = .ok (.istore 5, 2) := by decide +kernel
theorem dX5_measureRegion_49 : decode cX5_measureRegion 49 = .ok (.aload_n 0, 1) := by decide +kernel
theorem dX5_measureRegion_50 : decode cX5_measureRegion 50 = .ok (.iload 4, 2) := by decide +kernel
theorem dX5_measureRegion_52 : decode cX5_measureRegion 52 = .ok (.iconst 1, 1) := by decide +kernel
theorem dX5_measureRegion_53 : decode cX5_measureRegion 53 = .ok (.isub, 1) := by decide +kernel
theorem dX5_measureRegion_54 : decode cX5_measureRegion 54 = .ok (.iload 5, 2) := by decide +kernel
theorem dX5_measureRegion_56 : decode cX5_measureRegion 56 = .ok (.iload_n 2, 1) := by decide +kernel
theorem dX5_measureRegion_57 : decode cX5_measureRegion 57 = .ok (.invokevirtual 55, 3) := by decide +kernel
theorem dX5_measureRegion_60 : decode cX5_measureRegion 60 = .ok (.istore_n 2, 1) := by decide +kernel
theorem dX5_measureRegion_61 : decode cX5_measureRegion 61 = .ok (.aload_n 0, 1) := by decide +kernel
theorem dX5_measureRegion_62 : decode cX5_measureRegion 62 = .ok (.iload 4, 2) := by decide +kernel
theorem dX5_measureRegion_64 : decode cX5_measureRegion 64 = .ok (.iconst 1, 1) := by decide +kernel
theorem dX5_measureRegion_65 : decode cX5_measureRegion 65 = .ok (.iadd, 1) := by decide +kernel
theorem dX5_measureRegion_66 : decode cX5_measureRegion 66 = .ok (.iload 5, 2) := by decide +kernel
theorem dX5_measureRegion_68 : decode cX5_measureRegion 68 = .ok (.iload_n 2, 1) := by decide +kernel
theorem dX5_measureRegion_69 : decode cX5_measureRegion 69 = .ok (.invokevirtual 55, 3) := by decide +kernel
theorem dX5_measureRegion_72 : decode cX5_measureRegion 72 = .ok (.istore_n 2, 1) := by decide +kernel
theorem dX5_measureRegion_73 : decode cX5_measureRegion 73 = .ok (.aload_n 0, 1) := by decide +kernel
theorem dX5_measureRegion_74 : decode cX5_measureRegion 74 = .ok (.iload 4, 2) := by decide +kernel
theorem dX5_measureRegion_76 : decode cX5_measureRegion 76 = .ok (.iload 5, 2) := by decide +kernel
theorem dX5_measureRegion_78 : decode cX5_measureRegion 78 = .ok (.iconst 1, 1) := by decide +kernel
theorem dX5_measureRegion_79 : decode cX5_measureRegion 79 = .ok (.isub, 1) := by decide +kernel
theorem dX5_measureRegion_80 : decode cX5_measureRegion 80 = .ok (.iload_n 2, 1) := by decide +kernel
theorem dX5_measureRegion_81 : decode cX5_measureRegion 81 = .ok (.invokevirtual 55, 3) := by decide +kernel
theorem dX5_measureRegion_84 : decode cX5_measureRegion 84 = .ok (.istore_n 2, 1) := by decide +kernel
theorem dX5_measureRegion_85 : decode cX5_measureRegion 85 = .ok (.aload_n 0, 1) := by decide +kernel
theorem dX5_measureRegion_86 : decode cX5_measureRegion 86 = .ok (.iload 4, 2) := by decide +kernel
theorem dX5_measureRegion_88 : decode cX5_measureRegion 88 = .ok (.iload 5, 2) := by decide +kernel
theorem dX5_measureRegion_90 : decode cX5_measureRegion 90 = .ok (.iconst 1, 1) := by decide +kernel
theorem dX5_measureRegion_91 : decode cX5_measureRegion 91 = .ok (.iadd, 1) := by decide +kernel
theorem dX5_measureRegion_92 : decode cX5_measureRegion 92 = .ok (.iload_n 2, 1) := by decide +kernel
theorem dX5_measureRegion_93 : decode cX5_measureRegion 93 = .ok (.invokevirtual 55, 3) := by decide +kernel
theorem dX5_measureRegion_96 : decode cX5_measureRegion 96 = .ok (.istore_n 2, 1) := by decide +kernel
theorem dX5_measureRegion_97 : decode cX5_measureRegion 97 = .ok (.iinc 3 1, 3) := by decide +kernel
theorem dX5_measureRegion_100 : decode cX5_measureRegion 100 = .ok (.goto (-84), 3) := by decide +kernel
theorem dX5_measureRegion_103 : decode cX5_measureRegion 103 = .ok (.iconst 0, 1) := by decide +kernel
theorem dX5_measureRegion_104 : decode cX5_measureRegion 104 = .ok (.istore_n 3, 1) := by decide +kernel
theorem dX5_measureRegion_105 : decode cX5_measureRegion 105 = .ok (.iload_n 3, 1) := by decide +kernel
theorem dX5_measureRegion_106 : decode cX5_measureRegion 106 = .ok (.iload_n 2, 1) := by decide +kernel
theorem dX5_measureRegion_107 : decode cX5_measureRegion 107 = .ok (.if_icmp .ge 27, 3) := by decide +kernel
theorem dX5_measureRegion_110 : decode cX5_measureRegion 110 = .ok (.iload_n 3, 1) := by decide +kernel
theorem dX5_measureRegion_111 : decode cX5_measureRegion 111 = .ok (.bipush 48, 2) := by decide +kernel
theorem dX5_measureRegion_113 : decode cX5_measureRegion 113 = .ok (.if_icmp .ge 21, 3) := by decide +kernel
theorem dX5_measureRegion_116 : decode cX5_measureRegion 116 = .ok (.aload_n 0, 1) := by decide +kernel
theorem dX5_measureRegion_117 : decode cX5_measureRegion 117 = .ok (.getfield 15, 3) := by decide +kernel
theorem dX5_measureRegion_120 : decode cX5_measureRegion 120 = .ok (.aload_n 0, 1) := by decide +kernel
theorem dX5_measureRegion_121 : decode cX5_measureRegion 121 = .ok (.getfield 27, 3) := by decide +kernel
theorem dX5_measureRegion_124 : decode cX5_measureRegion 124 = .ok (.iload_n 3, 1) := by decide +kernel
theorem dX5_measureRegion_125 : decode cX5_measureRegion 125 = .ok (.iaload, 1) := by decide +kernel
theorem dX5_measureRegion_126 : decode cX5_measureRegion 126 = .ok (.iload_n 2, 1) := by decide +kernel
theorem dX5_measureRegion_127 : decode cX5_measureRegion 127 = .ok (.iastore, 1) := by decide +kernel
theorem dX5_measureRegion_128 : decode cX5_measureRegion 128 = .ok (.iinc 3 1, 3) := by decide +kernel
theorem dX5_measureRegion_131 : decode cX5_measureRegion 131 = .ok (.goto (-26), 3) := by decide +kernel
theorem dX5_measureRegion_134 : decode cX5_measureRegion 134 = .ok (.return_, 1) := by decide +kernel
theorem dX5_link_0 : decode cX5_link 0 = .ok (.iload_n 1, 1) := by decide +kernel
theorem dX5_link_1 : decode cX5_link 1 = .ok (.ifCond .lt 25, 3) := by decide +kernel
theorem dX5_link_4 : decode cX5_link 4 = .ok (.iload_n 1, 1) := by decide +kernel
theorem dX5_link_5 : decode cX5_link 5 = .ok (.bipush 8, 2) := by decide +kernel
theorem dX5_link_7 : decode cX5_link 7 = .ok (.if_icmp .ge 19, 3) := by decide +kernel
theorem dX5_link_10 : decode cX5_link 10 = .ok (.iload_n 2, 1) := by decide +kernel
theorem dX5_link_11 : decode cX5_link 11 = .ok (.ifCond .lt 15, 3) := by decide +kernel
theorem dX5_link_14 : decode cX5_link 14 = .ok (.iload_n 2, 1) := by decide +kernel
theorem dX5_link_15 : decode cX5_link 15 = .ok (.bipush 6, 2) := by decide +kernel
theorem dX5_link_17 : decode cX5_link 17 = .ok (.if_icmp .ge 9, 3) := by decide +kernel
theorem dX5_link_20 : decode cX5_link 20 = .ok (.iload_n 3, 1) := by decide +kernel
theorem dX5_link_21 : decode cX5_link 21 = .ok (.bipush 48, 2) := by decide +kernel
theorem dX5_link_23 : decode cX5_link 23 = .ok (.if_icmp .lt 5, 3) := by decide +kernel
theorem dX5_link_26 : decode cX5_link 26 = .ok (.iload_n 3, 1) := by decide +kernel
theorem dX5_link_27 : decode cX5_link 27 = .ok (.ireturn, 1) := by decide +kernel
theorem dX5_link_28 : decode cX5_link 28 = .ok (.iload_n 2, 1) := by decide +kernel
theorem dX5_link_29 : decode cX5_link 29 = .ok (.bipush 8, 2) := by decide +kernel
theorem dX5_link_31 : decode cX5_link 31 = .ok (.imul, 1) := by decide +kernel
theorem dX5_link_32 : decode cX5_link 32 = .ok (.iload_n 1, 1) := by decide +kernel
theorem dX5_link_33 : decode cX5_link 33 = .ok (.iadd, 1) := by decide +kernel
theorem dX5_link_34 : decode cX5_link 34 = .ok (.istore 4, 2) := by decide +kernel
theorem dX5_link_36 : decode cX5_link 36 = .ok (.aload_n 0, 1) := by decide +kernel
theorem dX5_link_37 : decode cX5_link 37 = .ok (.iload 4, 2) := by decide +kernel
theorem dX5_link_39 : decode cX5_link 39 = .ok (.invokevirtual 36, 3) := by decide +kernel
theorem dX5_link_42 : decode cX5_link 42 = .ok (.ifCond .eq 13, 3) := by decide +kernel
theorem dX5_link_45 : decode cX5_link 45 = .ok (.aload_n 0, 1) := by decide +kernel
theorem dX5_link_46 : decode cX5_link 46 = .ok (.getfield 15, 3) := by decide +kernel
theorem dX5_link_49 : decode cX5_link 49 = .ok (.iload 4, 2) := by decide +kernel
theorem dX5_link_51 : decode cX5_link 51 = .ok (.iaload, 1) := by decide +kernel
theorem dX5_link_52 : decode cX5_link 52 = .ok (.ifCond .eq 5, 3) := by decide +kernel
theorem dX5_link_55 : decode cX5_link 55 = .ok (.iload_n 3, 1) := by decide +kernel
theorem dX5_link_56 : decode cX5_link 56 = .ok (.ireturn, 1) := by decide +kernel
theorem dX5_link_57 : decode cX5_link 57 = .ok (.aload_n 0, 1) := by decide +kernel
theorem dX5_link_58 : decode cX5_link 58 = .ok (.getfield 15, 3) := by decide +kernel
theorem dX5_link_61 : decode cX5_link 61 = .ok (.iload 4, 2) := by decide +kernel
theorem dX5_link_63 : decode cX5_link 63 = .ok (.iconst 1, 1) := by decide +kernel
theorem dX5_link_64 : decode cX5_link 64 = .ok (.iastore, 1) := by decide +kernel
theorem dX5_link_65 : decode cX5_link 65 = .ok (.aload_n 0, 1) := by decide +kernel
theorem dX5_link_66 : decode cX5_link 66 = .ok (.getfield 27, 3) := by decide +kernel
theorem dX5_link_69 : decode cX5_link 69 = .ok (.iload_n 3, 1) := by decide +kernel
theorem dX5_link_70 : decode cX5_link 70 = .ok (.iload 4, 2) := by decide +kernel
theorem dX5_link_72 : decode cX5_link 72 = .ok (.iastore, 1) := by decide +kernel
theorem dX5_link_73 : decode cX5_link 73 = .ok (.iload_n 3, 1) := by decide +kernel
theorem dX5_link_74 : decode cX5_link 74 = .ok (.iconst 1, 1) := by decide +kernel
theorem dX5_link_75 : decode cX5_link 75 = .ok (.iadd, 1) := by decide +kernel
theorem dX5_link_76 : decode cX5_link 76 = .ok (.ireturn, 1) := by decide +kernel
theorem dX5_findPeaks_0 : decode cX5_findPeaks 0 = .ok (.aload_n 0, 1) := by decide +kernel
theorem dX5_findPeaks_1 : decode cX5_findPeaks 1 = .ok (.iconst 0, 1) := by decide +kernel
theorem dX5_findPeaks_2 : decode cX5_findPeaks 2 = .ok (.putfield 59, 3) := by decide +kernel
theorem dX5_findPeaks_5 : decode cX5_findPeaks 5 = .ok (.iconst 0, 1) := by decide +kernel
theorem dX5_findPeaks_6 : decode cX5_findPeaks 6 = .ok (.istore_n 1, 1) := by decide +kernel
theorem dX5_findPeaks_7 : decode cX5_findPeaks 7 = .ok (.iload_n 1, 1) := by decide +kernel
theorem dX5_findPeaks_8 : decode cX5_findPeaks 8 = .ok (.bipush 48, 2) := by decide +kernel
theorem dX5_findPeaks_10 : decode cX5_findPeaks 10 = .ok (.if_icmp .ge 75, 3) := by decide +kernel
theorem dX5_findPeaks_13 : decode cX5_findPeaks 13 = .ok (.aload_n 0, 1) := by decide +kernel
theorem dX5_findPeaks_14 : decode cX5_findPeaks 14 = .ok (.iload_n 1, 1) := by decide +kernel
theorem dX5_findPeaks_15 : decode cX5_findPeaks 15 = .ok (.invokevirtual 36, 3) := by decide +kernel
theorem dX5_findPeaks_18 : decode cX5_findPeaks 18 = .ok (.ifCond .eq 61, 3) := by decide +kernel
theorem dX5_findPeaks_21 : decode cX5_findPeaks 21 = .ok (.aload_n 0, 1) := by decide +kernel
theorem dX5_findPeaks_22 : decode cX5_findPeaks 22 = .ok (.iload_n 1, 1) := by decide +kernel
theorem dX5_findPeaks_23 : decode cX5_findPeaks 23 = .ok (.invokevirtual 62, 3) := by decide +kernel
theorem dX5_findPeaks_26 : decode cX5_findPeaks 26 = .ok (.ifCond .eq 53, 3) := by decide +kernel
theorem dX5_findPeaks_29 : decode cX5_findPeaks 29 = .ok (.aload_n 0, 1) := by decide +kernel
theorem dX5_findPeaks_30 : decode cX5_findPeaks 30 = .ok (.getfield 18, 3) := by decide +kernel
theorem dX5_findPeaks_33 : decode cX5_findPeaks 33 = .ok (.aload_n 0, 1) := by decide +kernel
theorem dX5_findPeaks_34 : decode cX5_findPeaks 34 = .ok (.getfield 59, 3) := by decide +kernel
theorem dX5_findPeaks_37 : decode cX5_findPeaks 37 = .ok (.iload_n 1, 1) := by decide +kernel
theorem dX5_findPeaks_38 : decode cX5_findPeaks 38 = .ok (.iastore, 1) := by decide +kernel
theorem dX5_findPeaks_39 : decode cX5_findPeaks 39 = .ok (.aload_n 0, 1) := by decide +kernel
theorem dX5_findPeaks_40 : decode cX5_findPeaks 40 = .ok (.getfield 21, 3) := by decide +kernel
theorem dX5_findPeaks_43 : decode cX5_findPeaks 43 = .ok (.aload_n 0, 1) := by decide +kernel
theorem dX5_findPeaks_44 : decode cX5_findPeaks 44 = .ok (.getfield 59, 3) := by decide +kernel
theorem dX5_findPeaks_47 : decode cX5_findPeaks 47 = .ok (.aload_n 0, 1) := by decide +kernel
theorem dX5_findPeaks_48 : decode cX5_findPeaks 48 = .ok (.iload_n 1, 1) := by decide +kernel
theorem dX5_findPeaks_49 : decode cX5_findPeaks 49 = .ok (.iconst 0, 1) := by decide +kernel
theorem dX5_findPeaks_50 : decode cX5_findPeaks 50 = .ok (.invokevirtual 65, 3) := by decide +kernel
theorem dX5_findPeaks_53 : decode cX5_findPeaks 53 = .ok (.iastore, 1) := by decide +kernel
theorem dX5_findPeaks_54 : decode cX5_findPeaks 54 = .ok (.aload_n 0, 1) := by decide +kernel
theorem dX5_findPeaks_55 : decode cX5_findPeaks 55 = .ok (.getfield 24, 3) := by decide +kernel
theorem dX5_findPeaks_58 : decode cX5_findPeaks 58 = .ok (.aload_n 0, 1) := by decide +kernel
theorem dX5_findPeaks_59 : decode cX5_findPeaks 59 = .ok (.getfield 59, 3) := by decide +kernel
theorem dX5_findPeaks_62 : decode cX5_findPeaks 62 = .ok (.aload_n 0, 1) := by decide +kernel
theorem dX5_findPeaks_63 : decode cX5_findPeaks 63 = .ok (.iload_n 1, 1) := by decide +kernel
theorem dX5_findPeaks_64 : decode cX5_findPeaks 64 = .ok (.iconst 1, 1) := by decide +kernel
theorem dX5_findPeaks_65 : decode cX5_findPeaks 65 = .ok (.invokevirtual 65, 3) := by decide +kernel
theorem dX5_findPeaks_68 : decode cX5_findPeaks 68 = .ok (.iastore, 1) := by decide +kernel
theorem dX5_findPeaks_69 : decode cX5_findPeaks 69 = .ok (.aload_n 0, 1) := by decide +kernel
theorem dX5_findPeaks_70 : decode cX5_findPeaks 70 = .ok (.dup, 1) := by decide +kernel
theorem dX5_findPeaks_71 : decode cX5_findPeaks 71 = .ok (.getfield 59, 3) := by decide +kernel
theorem dX5_findPeaks_74 : decode cX5_findPeaks 74 = .ok (.iconst 1, 1) := by decide +kernel
theorem dX5_findPeaks_75 : decode cX5_findPeaks 75 = .ok (.iadd, 1) := by decide +kernel
theorem dX5_findPeaks_76 : decode cX5_findPeaks 76 = .ok (.putfield 59, 3) := by decide +kernel
theorem dX5_findPeaks_79 : decode cX5_findPeaks 79 = .ok (.iinc 1 1, 3) := by decide +kernel
theorem dX5_findPeaks_82 : decode cX5_findPeaks 82 = .ok (.goto (-75), 3) := by decide +kernel
theorem dX5_findPeaks_85 : decode cX5_findPeaks 85 = .ok (.return_, 1) := by decide +kernel
theorem dX5_isSummit_0 : decode cX5_isSummit 0 = .ok (.iload_n 1, 1) := by decide +kernel
theorem dX5_isSummit_1 : decode cX5_isSummit 1 = .ok (.bipush 8, 2) := by decide +kernel
theorem dX5_isSummit_3 : decode cX5_isSummit 3 = .ok (.irem, 1) := by decide +kernel
theorem dX5_isSummit_4 : decode cX5_isSummit 4 = .ok (.istore_n 2, 1) := by decide +kernel
theorem dX5_isSummit_5 : decode cX5_isSummit 5 = .ok (.iload_n 1, 1) := by decide +kernel
theorem dX5_isSummit_6 : decode cX5_isSummit 6 = .ok (.bipush 8, 2) := by decide +kernel
theorem dX5_isSummit_8 : decode cX5_isSummit 8 = .ok (.idiv, 1) := by decide +kernel
theorem dX5_isSummit_9 : decode cX5_isSummit 9 = .ok (.istore_n 3, 1) := by decide +kernel
theorem dX5_isSummit_10 : decode cX5_isSummit 10 = .ok (.iload_n 3, 1) := by decide +kernel
theorem dX5_isSummit_11 : decode cX5_isSummit 11 = .ok (.iconst 1, 1) := by decide +kernel
theorem dX5_isSummit_12 : decode cX5_isSummit 12 = .ok (.isub, 1) := by decide +kernel
theorem dX5_isSummit_13 : decode cX5_isSummit 13 = .ok (.iconst 0, 1) := by decide +kernel
theorem dX5_isSummit_14 : decode cX5_isSummit 14 = .ok (.invokestatic 69, 3) := by decide +kernel
theorem dX5_isSummit_17 : decode cX5_isSummit 17 = .ok (.istore 4, 2) := by decide +kernel
theorem dX5_isSummit_19 : decode cX5_isSummit 19 = .ok (.iload 4, 2) := by decide +kernel
theorem dX5_isSummit_21 : decode cX5_isSummit 21 = .ok (.iload_n 3, 1) := by decide +kernel
theorem dX5_isSummit_22 : decode cX5_isSummit 22 = .ok (.iconst 1, 1) := by decide +kernel
theorem dX5_isSummit_23 : decode cX5_isSummit 23 = .ok (.iadd, 1) := by decide +kernel
theorem dX5_isSummit_24 : decode cX5_isSummit 24 = .ok (.iconst 5, 1) := by decide +kernel
theorem dX5_isSummit_25 : decode cX5_isSummit 25 = .ok (.invokestatic 75, 3) := by decide +kernel
theorem dX5_isSummit_28 : decode cX5_isSummit 28 = .ok (.if_icmp .gt 87, 3) := by decide +kernel
theorem dX5_isSummit_31 : decode cX5_isSummit 31 = .ok (.iload_n 2, 1) := by decide +kernel
theorem dX5_isSummit_32 : decode cX5_isSummit 32 = .ok (.iconst 1, 1) := by decide +kernel
theorem dX5_isSummit_33 : decode cX5_isSummit 33 = .ok (.isub, 1) := by decide +kernel
theorem dX5_isSummit_34 : decode cX5_isSummit 34 = .ok (.iconst 0, 1) := by decide +kernel
theorem dX5_isSummit_35 : decode cX5_isSummit 35 = .ok (.invokestatic 69, 3) := by decide +kernel
theorem dX5_isSummit_38 : decode cX5_isSummit 38 = .ok (.istore 5, 2) := by decide +kernel
theorem dX5_isSummit_40 : decode cX5_isSummit 40 = .ok (.iload 5, 2) := by decide +kernel
theorem dX5_isSummit_42 : decode cX5_isSummit 42 = .ok (.iload_n 2, 1) := by decide +kernel
theorem dX5_isSummit_43 : decode cX5_isSummit 43 = .ok (.iconst 1, 1) := by decide +kernel
theorem dX5_isSummit_44 : decode cX5_isSummit 44 = .ok (.iadd, 1) := by decide +kernel
theorem dX5_isSummit_45 : decode cX5_isSummit 45 = .ok (.bipush 7, 2) := by decide +kernel
theorem dX5_isSummit_47 : decode cX5_isSummit 47 = .ok (.invokestatic 75, 3) := by decide +kernel
theorem dX5_isSummit_50 : decode cX5_isSummit 50 = .ok (.if_icmp .gt 59, 3) := by decide +kernel
theorem dX5_isSummit_53 : decode cX5_isSummit 53 = .ok (.iload 4, 2) := by decide +kernel
theorem dX5_isSummit_55 : decode cX5_isSummit 55 = .ok (.bipush 8, 2) := by decide +kernel
theorem dX5_isSummit_57 : decode cX5_isSummit 57 = .ok (.imul, 1) := by decide +kernel
theorem dX5_isSummit_58 : decode cX5_isSummit 58 = .ok (.iload 5, 2) := by decide +kernel
theorem dX5_isSummit_60 : decode cX5_isSummit 60 = .ok (.iadd, 1) := by decide +kernel
theorem dX5_isSummit_61 : decode cX5_isSummit 61 = .ok (.istore 6, 2) := by decide +kernel
theorem dX5_isSummit_63 : decode cX5_isSummit 63 = .ok (.aload_n 0, 1) := by decide +kernel
theorem dX5_isSummit_64 : decode cX5_isSummit 64 = .ok (.getfield 9, 3) := by decide +kernel
theorem dX5_isSummit_67 : decode cX5_isSummit 67 = .ok (.iload 6, 2) := by decide +kernel
theorem dX5_isSummit_69 : decode cX5_isSummit 69 = .ok (.iaload, 1) := by decide +kernel
theorem dX5_isSummit_70 : decode cX5_isSummit 70 = .ok (.aload_n 0, 1) := by decide +kernel
theorem dX5_isSummit_71 : decode cX5_isSummit 71 = .ok (.getfield 9, 3) := by decide +kernel
theorem dX5_isSummit_74 : decode cX5_isSummit 74 = .ok (.iload_n 1, 1) := by decide +kernel
theorem dX5_isSummit_75 : decode cX5_isSummit 75 = .ok (.iaload, 1) := by decide +kernel
theorem dX5_isSummit_76 : decode cX5_isSummit 76 = .ok (.if_icmp .gt 25, 3) := by decide +kernel
theorem dX5_isSummit_79 : decode cX5_isSummit 79 = .ok (.aload_n 0, 1) := by decide +kernel
theorem dX5_isSummit_80 : decode cX5_isSummit 80 = .ok (.getfield 9, 3) := by decide +kernel
theorem dX5_isSummit_83 : decode cX5_isSummit 83 = .ok (.iload 6, 2) := by decide +kernel
theorem dX5_isSummit_85 : decode cX5_isSummit 85 = .ok (.iaload, 1) := by decide +kernel
theorem dX5_isSummit_86 : decode cX5_isSummit 86 = .ok (.aload_n 0, 1) := by decide +kernel
theorem dX5_isSummit_87 : decode cX5_isSummit 87 = .ok (.getfield 9, 3) := by decide +kernel
theorem dX5_isSummit_90 : decode cX5_isSummit 90 = .ok (.iload_n 1, 1) := by decide +kernel
theorem dX5_isSummit_91 : decode cX5_isSummit 91 = .ok (.iaload, 1) := by decide +kernel
theorem dX5_isSummit_92 : decode cX5_isSummit 92 = .ok (.if_icmp .ne 11, 3) := by decide +kernel
theorem dX5_isSummit_95 : decode cX5_isSummit 95 = .ok (.iload 6, 2) := by decide +kernel
theorem dX5_isSummit_97 : decode cX5_isSummit 97 = .ok (.iload_n 1, 1) := by decide +kernel
theorem dX5_isSummit_98 : decode cX5_isSummit 98 = .ok (.if_icmp .ge 5, 3) := by decide +kernel
theorem dX5_isSummit_101 : decode cX5_isSummit 101 = .ok (.iconst 0, 1) := by decide +kernel
theorem dX5_isSummit_102 : decode cX5_isSummit 102 = .ok (.ireturn, 1) := by decide +kernel
theorem dX5_isSummit_103 : decode cX5_isSummit 103 = .ok (.iinc 5 1, 3) := by decide +kernel
theorem dX5_isSummit_106 : decode cX5_isSummit 106 = .ok (.goto (-66), 3) := by decide +kernel
theorem dX5_isSummit_109 : decode cX5_isSummit 109 = .ok (.iinc 4 1, 3) := by decide +kernel
theorem dX5_isSummit_112 : decode cX5_isSummit 112 = .ok (.goto (-93), 3) := by decide +kernel
theorem dX5_isSummit_115 : decode cX5_isSummit 115 = .ok (.iconst 1, 1) := by decide +kernel
theorem dX5_isSummit_116 : decode cX5_isSummit 116 = .ok (.ireturn, 1) := by decide +kernel
theorem dX5_placeOf_0 : decode cX5_placeOf 0 = .ok (.iload_n 1, 1) := by decide +kernel
theorem dX5_placeOf_1 : decode cX5_placeOf 1 = .ok (.bipush 8, 2) := by decide +kernel
theorem dX5_placeOf_3 : decode cX5_placeOf 3 = .ok (.irem, 1) := by decide +kernel
theorem dX5_placeOf_4 : decode cX5_placeOf 4 = .ok (.istore_n 3, 1) := by decide +kernel
theorem dX5_placeOf_5 : decode cX5_placeOf 5 = .ok (.iload_n 1, 1) := by decide +kernel
theorem dX5_placeOf_6 : decode cX5_placeOf 6 = .ok (.bipush 8, 2) := by decide +kernel
theorem dX5_placeOf_8 : decode cX5_placeOf 8 = .ok (.idiv, 1) := by decide +kernel
theorem dX5_placeOf_9 : decode cX5_placeOf 9 = .ok (.istore 4, 2) := by decide +kernel
theorem dX5_placeOf_11 : decode cX5_placeOf 11 = .ok (.lconst 0, 1) := by decide +kernel
theorem dX5_placeOf_12 : decode cX5_placeOf 12 = .ok (.lstore 5, 2) := by decide +kernel
theorem dX5_placeOf_14 : decode cX5_placeOf 14 = .ok (.lconst 0, 1) := by decide +kernel
theorem dX5_placeOf_15 : decode cX5_placeOf 15 = .ok (.lstore 7, 2) := by decide +kernel
theorem dX5_placeOf_17 : decode cX5_placeOf 17 = .ok (.iload 4, 2) := by decide +kernel
theorem dX5_placeOf_19 : decode cX5_placeOf 19 = .ok (.iconst 1, 1) := by decide +kernel
theorem dX5_placeOf_20 : decode cX5_placeOf 20 = .ok (.isub, 1) := by decide +kernel
theorem dX5_placeOf_21 : decode cX5_placeOf 21 = .ok (.iconst 0, 1) := by decide +kernel
theorem dX5_placeOf_22 : decode cX5_placeOf 22 = .ok (.invokestatic 69, 3) := by decide +kernel
theorem dX5_placeOf_25 : decode cX5_placeOf 25 = .ok (.istore 9, 2) := by decide +kernel
theorem dX5_placeOf_27 : decode cX5_placeOf 27 = .ok (.iload 9, 2) := by decide +kernel
theorem dX5_placeOf_29 : decode cX5_placeOf 29 = .ok (.iload 4, 2) := by decide +kernel
theorem dX5_placeOf_31 : decode cX5_placeOf 31 = .ok (.iconst 1, 1) := by decide +kernel
theorem dX5_placeOf_32 : decode cX5_placeOf 32 = .ok (.iadd, 1) := by decide +kernel
theorem dX5_placeOf_33 : decode cX5_placeOf 33 = .ok (.iconst 5, 1) := by decide +kernel
theorem dX5_placeOf_34 : decode cX5_placeOf 34 = .ok (.invokestatic 75, 3) := by decide +kernel
theorem dX5_placeOf_37 : decode cX5_placeOf 37 = .ok (.if_icmp .gt 88, 3) := by decide +kernel
theorem dX5_placeOf_40 : decode cX5_placeOf 40 = .ok (.iload_n 3, 1) := by decide +kernel
theorem dX5_placeOf_41 : decode cX5_placeOf 41 = .ok (.iconst 1, 1) := by decide +kernel
theorem dX5_placeOf_42 : decode cX5_placeOf 42 = .ok (.isub, 1) := by decide +kernel
theorem dX5_placeOf_43 : decode cX5_placeOf 43 = .ok (.iconst 0, 1) := by decide +kernel
theorem dX5_placeOf_44 : decode cX5_placeOf 44 = .ok (.invokestatic 69, 3) := by decide +kernel
theorem dX5_placeOf_47 : decode cX5_placeOf 47 = .ok (.istore 10, 2) := by decide +kernel
theorem dX5_placeOf_49 : decode cX5_placeOf 49 = .ok (.iload 10, 2) := by decide +kernel
theorem dX5_placeOf_51 : decode cX5_placeOf 51 = .ok (.iload_n 3, 1) := by decide +kernel
theorem dX5_placeOf_52 : decode cX5_placeOf 52 = .ok (.iconst 1, 1) := by decide +kernel
theorem dX5_placeOf_53 : decode cX5_placeOf 53 = .ok (.iadd, 1) := by decide +kernel
theorem dX5_placeOf_54 : decode cX5_placeOf 54 = .ok (.bipush 7, 2) := by decide +kernel
theorem dX5_placeOf_56 : decode cX5_placeOf 56 = .ok (.invokestatic 75, 3) := by decide +kernel
theorem dX5_placeOf_59 : decode cX5_placeOf 59 = .ok (.if_icmp .gt 60, 3) := by decide +kernel
theorem dX5_placeOf_62 : decode cX5_placeOf 62 = .ok (.aload_n 0, 1) := by decide +kernel
theorem dX5_placeOf_63 : decode cX5_placeOf 63 = .ok (.getfield 9, 3) := by decide +kernel
theorem dX5_placeOf_66 : decode cX5_placeOf 66 = .ok (.iload 9, 2) := by decide +kernel
theorem dX5_placeOf_68 : decode cX5_placeOf 68 = .ok (.bipush 8, 2) := by decide +kernel
theorem dX5_placeOf_70 : decode cX5_placeOf 70 = .ok (.imul, 1) := by decide +kernel
theorem dX5_placeOf_71 : decode cX5_placeOf 71 = .ok (.iload 10, 2) := by decide +kernel
theorem dX5_placeOf_73 : decode cX5_placeOf 73 = .ok (.iadd, 1) := by decide +kernel
theorem dX5_placeOf_74 : decode cX5_placeOf 74 = .ok (.iaload, 1) := by decide +kernel
theorem dX5_placeOf_75 : decode cX5_placeOf 75 = .ok (.iconst 0, 1) := by decide +kernel
theorem dX5_placeOf_76 : decode cX5_placeOf 76 = .ok (.invokestatic 69, 3) := by decide +kernel
theorem dX5_placeOf_79 : decode cX5_placeOf 79 = .ok (.i2l, 1) := by decide +kernel
theorem dX5_placeOf_80 : decode cX5_placeOf 80 = .ok (.lstore 11, 2) := by decide +kernel
theorem dX5_placeOf_82 : decode cX5_placeOf 82 = .ok (.lload 5, 2) := by decide +kernel
theorem dX5_placeOf_84 : decode cX5_placeOf 84 = .ok (.lload 11, 2) := by decide +kernel
theorem dX5_placeOf_86 : decode cX5_placeOf 86 = .ok (.ladd, 1) := by decide +kernel
theorem dX5_placeOf_87 : decode cX5_placeOf 87 = .ok (.lstore 5, 2) := by decide +kernel
theorem dX5_placeOf_89 : decode cX5_placeOf 89 = .ok (.lload 7, 2) := by decide +kernel
theorem dX5_placeOf_91 : decode cX5_placeOf 91 = .ok (.ldc2_w 78, 3) := by decide +kernel
theorem dX5_placeOf_94 : decode cX5_placeOf 94 = .ok (.lload 11, 2) := by decide +kernel
theorem dX5_placeOf_96 : decode cX5_placeOf 96 = .ok (.lmul, 1) := by decide +kernel
theorem dX5_placeOf_97 : decode cX5_placeOf 97 = .ok (.iload_n 2, 1) := by decide +kernel
theorem dX5_placeOf_98 : decode cX5_placeOf 98 = .ok (.ifCond .eq 8, 3) := by decide +kernel
theorem dX5_placeOf_101 : decode cX5_placeOf 101 = .ok (.iload 9, 2) := by decide +kernel
theorem dX5_placeOf_103 : decode cX5_placeOf 103 = .ok (.goto 5, 3) := by decide +kernel
theorem dX5_placeOf_106 : decode cX5_placeOf 106 = .ok (.iload 10, 2) := by decide +kernel
theorem dX5_placeOf_108 : decode cX5_placeOf 108 = .ok (.i2l, 1) := by decide +kernel
theorem dX5_placeOf_109 : decode cX5_placeOf 109 = .ok (.lmul, 1) := by decide +kernel
theorem dX5_placeOf_110 : decode cX5_placeOf 110 = .ok (.ladd, 1) := by decide +kernel
theorem dX5_placeOf_111 : decode cX5_placeOf 111 = .ok (.lstore 7, 2) := by decide +kernel
theorem dX5_placeOf_113 : decode cX5_placeOf 113 = .ok (.iinc 10 1, 3) := by decide +kernel
theorem dX5_placeOf_116 : decode cX5_placeOf 116 = .ok (.goto (-67), 3) := by decide +kernel
theorem dX5_placeOf_119 : decode cX5_placeOf 119 = .ok (.iinc 9 1, 3) := by decide +kernel
theorem dX5_placeOf_122 : decode cX5_placeOf 122 = .ok (.goto (-95), 3) := by decide +kernel
theorem dX5_placeOf_125 : decode cX5_placeOf 125 = .ok (.lload 5, 2) := by decide +kernel
theorem dX5_placeOf_127 : decode cX5_placeOf 127 = .ok (.lconst 0, 1) := by decide +kernel
theorem dX5_placeOf_128 : decode cX5_placeOf 128 = .ok (.lcmp, 1) := by decide +kernel
theorem dX5_placeOf_129 : decode cX5_placeOf 129 = .ok (.ifCond .le 19, 3) := by decide +kernel
theorem dX5_placeOf_132 : decode cX5_placeOf 132 = .ok (.lload 7, 2) := by decide +kernel
theorem dX5_placeOf_134 : decode cX5_placeOf 134 = .ok (.lload 5, 2) := by decide +kernel
theorem dX5_placeOf_136 : decode cX5_placeOf 136 = .ok (.ladd, 1) := by decide +kernel
theorem dX5_placeOf_137 : decode cX5_placeOf 137 = .ok (.ldc2_w 80, 3) := by decide +kernel
theorem dX5_placeOf_140 : decode cX5_placeOf 140 = .ok (.lload 5, 2) := by decide +kernel
theorem dX5_placeOf_142 : decode cX5_placeOf 142 = .ok (.lmul, 1) := by decide +kernel
theorem dX5_placeOf_143 : decode cX5_placeOf 143 = .ok (.ldiv, 1) := by decide +kernel
theorem dX5_placeOf_144 : decode cX5_placeOf 144 = .ok (.l2i, 1) := by decide +kernel
theorem dX5_placeOf_145 : decode cX5_placeOf 145 = .ok (.goto 4, 3) := by decide +kernel
theorem dX5_placeOf_148 : decode cX5_placeOf 148 = .ok (.iconst 0, 1) := by decide +kernel
theorem dX5_placeOf_149 : decode cX5_placeOf 149 = .ok (.ireturn, 1) := by decide +kernel
theorem dX5_humNow_0 : decode cX5_humNow 0 = .ok (.lconst 0, 1) := by decide +kernel
theorem dX5_humNow_1 : decode cX5_humNow 1 = .ok (.lstore_n 1, 1) := by decide +kernel
theorem dX5_humNow_2 : decode cX5_humNow 2 = .ok (.iconst 0, 1) := by decide +kernel
theorem dX5_humNow_3 : decode cX5_humNow 3 = .ok (.istore_n 3, 1) := by decide +kernel
theorem dX5_humNow_4 : decode cX5_humNow 4 = .ok (.iconst 0, 1) := by decide +kernel
theorem dX5_humNow_5 : decode cX5_humNow 5 = .ok (.istore 4, 2) := by decide +kernel
theorem dX5_humNow_7 : decode cX5_humNow 7 = .ok (.iload 4, 2) := by decide +kernel
theorem dX5_humNow_9 : decode cX5_humNow 9 = .ok (.bipush 48, 2) := by decide +kernel
theorem dX5_humNow_11 : decode cX5_humNow 11 = .ok (.if_icmp .ge 35, 3) := by decide +kernel
theorem dX5_humNow_14 : decode cX5_humNow 14 = .ok (.aload_n 0, 1) := by decide +kernel
theorem dX5_humNow_15 : decode cX5_humNow 15 = .ok (.iload 4, 2) := by decide +kernel
theorem dX5_humNow_17 : decode cX5_humNow 17 = .ok (.invokevirtual 36, 3) := by decide +kernel
theorem dX5_humNow_20 : decode cX5_humNow 20 = .ok (.ifCond .ne 20, 3) := by decide +kernel
theorem dX5_humNow_23 : decode cX5_humNow 23 = .ok (.lload_n 1, 1) := by decide +kernel
theorem dX5_humNow_24 : decode cX5_humNow 24 = .ok (.aload_n 0, 1) := by decide +kernel
theorem dX5_humNow_25 : decode cX5_humNow 25 = .ok (.getfield 9, 3) := by decide +kernel
theorem dX5_humNow_28 : decode cX5_humNow 28 = .ok (.iload 4, 2) := by decide +kernel
theorem dX5_humNow_30 : decode cX5_humNow 30 = .ok (.iaload, 1) := by decide +kernel
theorem dX5_humNow_31 : decode cX5_humNow 31 = .ok (.i2l, 1) := by decide +kernel
theorem dX5_humNow_32 : decode cX5_humNow 32 = .ok (.invokestatic 82, 3) := by decide +kernel
theorem dX5_humNow_35 : decode cX5_humNow 35 = .ok (.ladd, 1) := by decide +kernel
theorem dX5_humNow_36 : decode cX5_humNow 36 = .ok (.lstore_n 1, 1) := by decide +kernel
theorem dX5_humNow_37 : decode cX5_humNow 37 = .ok (.iinc 3 1, 3) := by decide +kernel
theorem dX5_humNow_40 : decode cX5_humNow 40 = .ok (.iinc 4 1, 3) := by decide +kernel
theorem dX5_humNow_43 : decode cX5_humNow 43 = .ok (.goto (-36), 3) := by decide +kernel
theorem dX5_humNow_46 : decode cX5_humNow 46 = .ok (.iload_n 3, 1) := by decide +kernel
theorem dX5_humNow_47 : decode cX5_humNow 47 = .ok (.ifCond .le 11, 3) := by decide +kernel
theorem dX5_humNow_50 : decode cX5_humNow 50 = .ok (.lload_n 1, 1) := by decide +kernel
theorem dX5_humNow_51 : decode cX5_humNow 51 = .ok (.iload_n 3, 1) := by decide +kernel
theorem dX5_humNow_52 : decode cX5_humNow 52 = .ok (.i2l, 1) := by decide +kernel
theorem dX5_humNow_53 : decode cX5_humNow 53 = .ok (.ldiv, 1) := by decide +kernel
theorem dX5_humNow_54 : decode cX5_humNow 54 = .ok (.l2i, 1) := by decide +kernel
theorem dX5_humNow_55 : decode cX5_humNow 55 = .ok (.goto 4, 3) := by decide +kernel
theorem dX5_humNow_58 : decode cX5_humNow 58 = .ok (.iconst 0, 1) := by decide +kernel
theorem dX5_humNow_59 : decode cX5_humNow 59 = .ok (.ireturn, 1) := by decide +kernel
theorem dX5_isCalm_0 : decode cX5_isCalm 0 = .ok (.iconst 0, 1) := by decide +kernel
theorem dX5_isCalm_1 : decode cX5_isCalm 1 = .ok (.istore_n 1, 1) := by decide +kernel
theorem dX5_isCalm_2 : decode cX5_isCalm 2 = .ok (.iload_n 1, 1) := by decide +kernel
theorem dX5_isCalm_3 : decode cX5_isCalm 3 = .ok (.bipush 48, 2) := by decide +kernel
theorem dX5_isCalm_5 : decode cX5_isCalm 5 = .ok (.if_icmp .ge 20, 3) := by decide +kernel
theorem dX5_isCalm_8 : decode cX5_isCalm 8 = .ok (.aload_n 0, 1) := by decide +kernel
theorem dX5_isCalm_9 : decode cX5_isCalm 9 = .ok (.getfield 9, 3) := by decide +kernel
theorem dX5_isCalm_12 : decode cX5_isCalm 12 = .ok (.iload_n 1, 1) := by decide +kernel
theorem dX5_isCalm_13 : decode cX5_isCalm 13 = .ok (.iaload, 1) := by decide +kernel
theorem dX5_isCalm_14 : decode cX5_isCalm 14 = .ok (.ifCond .eq 5, 3) := by decide +kernel
theorem dX5_isCalm_17 : decode cX5_isCalm 17 = .ok (.iconst 0, 1) := by decide +kernel
theorem dX5_isCalm_18 : decode cX5_isCalm 18 = .ok (.ireturn, 1) := by decide +kernel
theorem dX5_isCalm_19 : decode cX5_isCalm 19 = .ok (.iinc 1 1, 3) := by decide +kernel
theorem dX5_isCalm_22 : decode cX5_isCalm 22 = .ok (.goto (-20), 3) := by decide +kernel
theorem dX5_isCalm_25 : decode cX5_isCalm 25 = .ok (.iconst 1, 1) := by decide +kernel
theorem dX5_isCalm_26 : decode cX5_isCalm 26 = .ok (.ireturn, 1) := by decide +kernel
theorem dX5_sizeOf_0 : decode cX5_sizeOf 0 = .ok (.aload_n 0, 1) := by decide +kernel
theorem dX5_sizeOf_1 : decode cX5_sizeOf 1 = .ok (.getfield 15, 3) := by decide +kernel
theorem dX5_sizeOf_4 : decode cX5_sizeOf 4 = .ok (.aload_n 0, 1) := by decide +kernel
theorem dX5_sizeOf_5 : decode cX5_sizeOf 5 = .ok (.getfield 18, 3) := by decide +kernel
theorem dX5_sizeOf_8 : decode cX5_sizeOf 8 = .ok (.iload_n 1, 1) := by decide +kernel
theorem dX5_sizeOf_9 : decode cX5_sizeOf 9 = .ok (.iaload, 1) := by decide +kernel
theorem dX5_sizeOf_10 : decode cX5_sizeOf 10 = .ok (.iaload, 1) := by decide +kernel
theorem dX5_sizeOf_11 : decode cX5_sizeOf 11 = .ok (.ireturn, 1) := by decide +kernel
theorem dX5_isPalm_0 : decode cX5_isPalm 0 = .ok (.aload_n 0, 1) := by decide +kernel
theorem dX5_isPalm_1 : decode cX5_isPalm 1 = .ok (.iload_n 1, 1) := by decide +kernel
theorem dX5_isPalm_2 : decode cX5_isPalm 2 = .ok (.invokevirtual 86, 3) := by decide +kernel
theorem dX5_isPalm_5 : decode cX5_isPalm 5 = .ok (.bipush 14, 2) := by decide +kernel
theorem dX5_isPalm_7 : decode cX5_isPalm 7 = .ok (.if_icmp .le 7, 3) := by decide +kernel
theorem dX5_isPalm_10 : decode cX5_isPalm 10 = .ok (.iconst 1, 1) := by decide +kernel
theorem dX5_isPalm_11 : decode cX5_isPalm 11 = .ok (.goto 4, 3) := by decide +kernel
theorem dX5_isPalm_14 : decode cX5_isPalm 14 = .ok (.iconst 0, 1) := by decide +kernel
theorem dX5_isPalm_15 : decode cX5_isPalm 15 = .ok (.ireturn, 1) := by decide +kernel
theorem dX5_countPalms_0 : decode cX5_countPalms 0 = .ok (.iconst 0, 1) := by decide +kernel
theorem dX5_countPalms_1 : decode cX5_countPalms 1 = .ok (.istore_n 1, 1) := by decide +kernel
theorem dX5_countPalms_2 : decode cX5_countPalms 2 = .ok (.iconst 0, 1) := by decide +kernel
theorem dX5_countPalms_3 : decode cX5_countPalms 3 = .ok (.istore_n 2, 1) := by decide +kernel
theorem dX5_countPalms_4 : decode cX5_countPalms 4 = .ok (.iload_n 2, 1) := by decide +kernel
theorem dX5_countPalms_5 : decode cX5_countPalms 5 = .ok (.aload_n 0, 1) := by decide +kernel
theorem dX5_countPalms_6 : decode cX5_countPalms 6 = .ok (.getfield 59, 3) := by decide +kernel
theorem dX5_countPalms_9 : decode cX5_countPalms 9 = .ok (.if_icmp .ge 25, 3) := by decide +kernel
theorem dX5_countPalms_12 : decode cX5_countPalms 12 = .ok (.iload_n 1, 1) := by decide +kernel
theorem dX5_countPalms_13 : decode cX5_countPalms 13 = .ok (.aload_n 0, 1) := by decide +kernel
theorem dX5_countPalms_14 : decode cX5_countPalms 14 = .ok (.iload_n 2, 1) := by decide +kernel
theorem dX5_countPalms_15 : decode cX5_countPalms 15 = .ok (.invokevirtual 89, 3) := by decide +kernel
theorem dX5_countPalms_18 : decode cX5_countPalms 18 = .ok (.ifCond .eq 7, 3) := by decide +kernel
theorem dX5_countPalms_21 : decode cX5_countPalms 21 = .ok (.iconst 1, 1) := by decide +kernel
theorem dX5_countPalms_22 : decode cX5_countPalms 22 = .ok (.goto 4, 3) := by decide +kernel
theorem dX5_countPalms_25 : decode cX5_countPalms 25 = .ok (.iconst 0, 1) := by decide +kernel
theorem dX5_countPalms_26 : decode cX5_countPalms 26 = .ok (.iadd, 1) := by decide +kernel
theorem dX5_countPalms_27 : decode cX5_countPalms 27 = .ok (.istore_n 1, 1) := by decide +kernel
theorem dX5_countPalms_28 : decode cX5_countPalms 28 = .ok (.iinc 2 1, 3) := by decide +kernel
theorem dX5_countPalms_31 : decode cX5_countPalms 31 = .ok (.goto (-27), 3) := by decide +kernel
theorem dX5_countPalms_34 : decode cX5_countPalms 34 = .ok (.iload_n 1, 1) := by decide +kernel
theorem dX5_countPalms_35 : decode cX5_countPalms 35 = .ok (.ireturn, 1) := by decide +kernel
theorem dX5_peakAt_0 : decode cX5_peakAt 0 = .ok (.iconst 0, 1) := by decide +kernel
theorem dX5_peakAt_1 : decode cX5_peakAt 1 = .ok (.istore_n 2, 1) := by decide +kernel
theorem dX5_peakAt_2 : decode cX5_peakAt 2 = .ok (.iload_n 2, 1) := by decide +kernel
theorem dX5_peakAt_3 : decode cX5_peakAt 3 = .ok (.aload_n 0, 1) := by decide +kernel
theorem dX5_peakAt_4 : decode cX5_peakAt 4 = .ok (.getfield 59, 3) := by decide +kernel
theorem dX5_peakAt_7 : decode cX5_peakAt 7 = .ok (.if_icmp .ge 21, 3) := by decide +kernel
theorem dX5_peakAt_10 : decode cX5_peakAt 10 = .ok (.aload_n 0, 1) := by decide +kernel
theorem dX5_peakAt_11 : decode cX5_peakAt 11 = .ok (.getfield 18, 3) := by decide +kernel
theorem dX5_peakAt_14 : decode cX5_peakAt 14 = .ok (.iload_n 2, 1) := by decide +kernel
theorem dX5_peakAt_15 : decode cX5_peakAt 15 = .ok (.iaload, 1) := by decide +kernel
theorem dX5_peakAt_16 : decode cX5_peakAt 16 = .ok (.iload_n 1, 1) := by decide +kernel
theorem dX5_peakAt_17 : decode cX5_peakAt 17 = .ok (.if_icmp .ne 5, 3) := by decide +kernel
theorem dX5_peakAt_20 : decode cX5_peakAt 20 = .ok (.iload_n 2, 1) := by decide +kernel
theorem dX5_peakAt_21 : decode cX5_peakAt 21 = .ok (.ireturn, 1) := by decide +kernel
theorem dX5_peakAt_22 : decode cX5_peakAt 22 = .ok (.iinc 2 1, 3) := by decide +kernel
theorem dX5_peakAt_25 : decode cX5_peakAt 25 = .ok (.goto (-23), 3) := by decide +kernel
theorem dX5_peakAt_28 : decode cX5_peakAt 28 = .ok (.iconst (-1), 1) := by decide +kernel
theorem dX5_peakAt_29 : decode cX5_peakAt 29 = .ok (.ireturn, 1) := by decide +kernel
theorem dX5_signalOfRow_0 : decode cX5_signalOfRow 0 = .ok (.iconst 0, 1) := by decide +kernel
theorem dX5_signalOfRow_1 : decode cX5_signalOfRow 1 = .ok (.istore_n 2, 1) := by decide +kernel
theorem dX5_signalOfRow_2 : decode cX5_signalOfRow 2 = .ok (.iconst 0, 1) := by decide +kernel
theorem dX5_signalOfRow_3 : decode cX5_signalOfRow 3 = .ok (.istore_n 3, 1) := by decide +kernel
theorem dX5_signalOfRow_4 : decode cX5_signalOfRow 4 = .ok (.iload_n 3, 1) := by decide +kernel
theorem dX5_signalOfRow_5 : decode cX5_signalOfRow 5 = .ok (.bipush 8, 2) := by decide +kernel
theorem dX5_signalOfRow_7 : decode cX5_signalOfRow 7 = .ok (.if_icmp .ge 23, 3) := by decide +kernel
theorem dX5_signalOfRow_10 : decode cX5_signalOfRow 10 = .ok (.iload_n 2, 1) := by decide +kernel
theorem dX5_signalOfRow_11 : decode cX5_signalOfRow 11 = .ok (.aload_n 0, 1) := by decide +kernel
theorem dX5_signalOfRow_12 : decode cX5_signalOfRow 12 = .ok (.getfield 9, 3) := by decide +kernel
theorem dX5_signalOfRow_15 : decode cX5_signalOfRow 15 = .ok (.iload_n 1, 1) := by decide +kernel
theorem dX5_signalOfRow_16 : decode cX5_signalOfRow 16 = .ok (.bipush 8, 2) := by decide +kernel
theorem dX5_signalOfRow_18 : decode cX5_signalOfRow 18 = .ok (.imul, 1) := by decide +kernel
theorem dX5_signalOfRow_19 : decode cX5_signalOfRow 19 = .ok (.iload_n 3, 1) := by decide +kernel
theorem dX5_signalOfRow_20 : decode cX5_signalOfRow 20 = .ok (.iadd, 1) := by decide +kernel
theorem dX5_signalOfRow_21 : decode cX5_signalOfRow 21 = .ok (.iaload, 1) := by decide +kernel
theorem dX5_signalOfRow_22 : decode cX5_signalOfRow 22 = .ok (.iadd, 1) := by decide +kernel
theorem dX5_signalOfRow_23 : decode cX5_signalOfRow 23 = .ok (.istore_n 2, 1) := by decide +kernel
theorem dX5_signalOfRow_24 : decode cX5_signalOfRow 24 = .ok (.iinc 3 1, 3) := by decide +kernel
theorem dX5_signalOfRow_27 : decode cX5_signalOfRow 27 = .ok (.goto (-23), 3) := by decide +kernel
theorem dX5_signalOfRow_30 : decode cX5_signalOfRow 30 = .ok (.iload_n 2, 1) := by decide +kernel
theorem dX5_signalOfRow_31 : decode cX5_signalOfRow 31 = .ok (.ireturn, 1) := by decide +kernel
theorem dX5_touchedInRow_0 : decode cX5_touchedInRow 0 = .ok (.iconst 0, 1) := by decide +kernel
theorem dX5_touchedInRow_1 : decode cX5_touchedInRow 1 = .ok (.istore_n 2, 1) := by decide +kernel
theorem dX5_touchedInRow_2 : decode cX5_touchedInRow 2 = .ok (.iconst 0, 1) := by decide +kernel
theorem dX5_touchedInRow_3 : decode cX5_touchedInRow 3 = .ok (.istore_n 3, 1) := by decide +kernel
theorem dX5_touchedInRow_4 : decode cX5_touchedInRow 4 = .ok (.iload_n 3, 1) := by decide +kernel
theorem dX5_touchedInRow_5 : decode cX5_touchedInRow 5 = .ok (.bipush 8, 2) := by decide +kernel
theorem dX5_touchedInRow_7 : decode cX5_touchedInRow 7 = .ok (.if_icmp .ge 30, 3) := by decide +kernel
theorem dX5_touchedInRow_10 : decode cX5_touchedInRow 10 = .ok (.iload_n 2, 1) := by decide +kernel
theorem dX5_touchedInRow_11 : decode cX5_touchedInRow 11 = .ok (.aload_n 0, 1) := by decide +kernel
theorem dX5_touchedInRow_12 : decode cX5_touchedInRow 12 = .ok (.iload_n 1, 1) := by decide +kernel
theorem dX5_touchedInRow_13 : decode cX5_touchedInRow 13 = .ok (.bipush 8, 2) := by decide +kernel
theorem dX5_touchedInRow_15 : decode cX5_touchedInRow 15 = .ok (.imul, 1) := by decide +kernel
theorem dX5_touchedInRow_16 : decode cX5_touchedInRow 16 = .ok (.iload_n 3, 1) := by decide +kernel
theorem dX5_touchedInRow_17 : decode cX5_touchedInRow 17 = .ok (.iadd, 1) := by decide +kernel
theorem dX5_touchedInRow_18 : decode cX5_touchedInRow 18 = .ok (.invokevirtual 36, 3) := by decide +kernel
theorem dX5_touchedInRow_21 : decode cX5_touchedInRow 21 = .ok (.ifCond .eq 7, 3) := by decide +kernel
theorem dX5_touchedInRow_24 : decode cX5_touchedInRow 24 = .ok (.iconst 1, 1) := by decide +kernel
theorem dX5_touchedInRow_25 : decode cX5_touchedInRow 25 = .ok (.goto 4, 3) := by decide +kernel
theorem dX5_touchedInRow_28 : decode cX5_touchedInRow 28 = .ok (.iconst 0, 1) := by decide +kernel
theorem dX5_touchedInRow_29 : decode cX5_touchedInRow 29 = .ok (.iadd, 1) := by decide +kernel
theorem dX5_touchedInRow_30 : decode cX5_touchedInRow 30 = .ok (.istore_n 2, 1) := by decide +kernel
theorem dX5_touchedInRow_31 : decode cX5_touchedInRow 31 = .ok (.iinc 3 1, 3) := by decide +kernel
theorem dX5_touchedInRow_34 : decode cX5_touchedInRow 34 = .ok (.goto (-30), 3) := by decide +kernel
theorem dX5_touchedInRow_37 : decode cX5_touchedInRow 37 = .ok (.iload_n 2, 1) := by decide +kernel
theorem dX5_touchedInRow_38 : decode cX5_touchedInRow 38 = .ok (.ireturn, 1) := by decide +kernel
theorem dX5_peaksInRow_0 : decode cX5_peaksInRow 0 = .ok (.iconst 0, 1) := by decide +kernel
theorem dX5_peaksInRow_1 : decode cX5_peaksInRow 1 = .ok (.istore_n 2, 1) := by decide +kernel
theorem dX5_peaksInRow_2 : decode cX5_peaksInRow 2 = .ok (.iconst 0, 1) := by decide +kernel
theorem dX5_peaksInRow_3 : decode cX5_peaksInRow 3 = .ok (.istore_n 3, 1) := by decide +kernel
theorem dX5_peaksInRow_4 : decode cX5_peaksInRow 4 = .ok (.iload_n 3, 1) := by decide +kernel
theorem dX5_peaksInRow_5 : decode cX5_peaksInRow 5 = .ok (.aload_n 0, 1) := by decide +kernel
theorem dX5_peaksInRow_6 : decode cX5_peaksInRow 6 = .ok (.getfield 59, 3) := by decide +kernel
theorem dX5_peaksInRow_9 : decode cX5_peaksInRow 9 = .ok (.if_icmp .ge 30, 3) := by decide +kernel
theorem dX5_peaksInRow_12 : decode cX5_peaksInRow 12 = .ok (.iload_n 2, 1) := by decide +kernel
theorem dX5_peaksInRow_13 : decode cX5_peaksInRow 13 = .ok (.aload_n 0, 1) := by decide +kernel
theorem dX5_peaksInRow_14 : decode cX5_peaksInRow 14 = .ok (.getfield 18, 3) := by decide +kernel
theorem dX5_peaksInRow_17 : decode cX5_peaksInRow 17 = .ok (.iload_n 3, 1) := by decide +kernel
theorem dX5_peaksInRow_18 : decode cX5_peaksInRow 18 = .ok (.iaload, 1) := by decide +kernel
theorem dX5_peaksInRow_19 : decode cX5_peaksInRow 19 = .ok (.bipush 8, 2) := by decide +kernel
theorem dX5_peaksInRow_21 : decode cX5_peaksInRow 21 = .ok (.idiv, 1) := by decide +kernel
theorem dX5_peaksInRow_22 : decode cX5_peaksInRow 22 = .ok (.iload_n 1, 1) := by decide +kernel
theorem dX5_peaksInRow_23 : decode cX5_peaksInRow 23 = .ok (.if_icmp .ne 7, 3) := by decide +kernel
theorem dX5_peaksInRow_26 : decode cX5_peaksInRow 26 = .ok (.iconst 1, 1) := by decide +kernel
theorem dX5_peaksInRow_27 : decode cX5_peaksInRow 27 = .ok (.goto 4, 3) := by decide +kernel
theorem dX5_peaksInRow_30 : decode cX5_peaksInRow 30 = .ok (.iconst 0, 1) := by decide +kernel
theorem dX5_peaksInRow_31 : decode cX5_peaksInRow 31 = .ok (.iadd, 1) := by decide +kernel
theorem dX5_peaksInRow_32 : decode cX5_peaksInRow 32 = .ok (.istore_n 2, 1) := by decide +kernel
theorem dX5_peaksInRow_33 : decode cX5_peaksInRow 33 = .ok (.iinc 3 1, 3) := by decide +kernel
theorem dX5_peaksInRow_36 : decode cX5_peaksInRow 36 = .ok (.goto (-32), 3) := by decide +kernel
theorem dX5_peaksInRow_39 : decode cX5_peaksInRow 39 = .ok (.iload_n 2, 1) := by decide +kernel
theorem dX5_peaksInRow_40 : decode cX5_peaksInRow 40 = .ok (.ireturn, 1) := by decide +kernel
section Picture
variable {i n : Nat} {f : Nat → am_C} {sig reg pc px py chn : Nat → Int32} {pk hm : Int32}
theorem s_isTouched {c : Nat} (h : m_Pic f i sig reg pc px py chn pk hm) (hc : c < 48) : AM mX5_isTouched 0 0 [.ref i, .int (nI c)] n f (am_is (some (.int (m_tc sig c))) n f) := by
  obtain ⟨h0, h1, h2, h3, h4, h5, h6⟩ := h
  show AW mX5_isTouched 0 0 0 [some (.ref i), some (.int (nI c))] [] n f _
  refine am_aload_n 0 dX5_isTouched_0 rfl ?_
  refine am_getfield 1 dX5_isTouched_1 fX5_9 (by repeat (first | assumption | exact am_ue | refine am_un (by first | assumption | decide | omega) ?_)) rfl ?_
  refine am_iload_n 4 dX5_isTouched_4 rfl ?_
  refine am_iaload 5 dX5_isTouched_5 rfl (by repeat (first | assumption | exact am_ue | refine am_un (by first | assumption | decide | omega) ?_)) (by first | assumption | exact vp_in_nI (by omega) (by decide)) ?_
  rw [nI_clamp (n := c) (by omega)]
  refine am_bipush 6 (v := 20) dX5_isTouched_6 (by decide) ?_
  refine am_icmp_lt 8 15 dX5_isTouched_8 rfl (fun c8 => ?_) (fun c8 => ?_)
  · refine am_iconst 15 (v := 0) dX5_isTouched_15 (by decide) ?_
    refine am_ireturn 16 dX5_isTouched_16 rfl rfl ?_
    exact ⟨by simp [m_tc, *], rfl, rfl⟩
  · refine am_iconst 11 (v := 1) dX5_isTouched_11 (by decide) ?_
    refine am_goto 12 (tgt := 16) dX5_isTouched_12 rfl ?_
    refine am_ireturn 16 dX5_isTouched_16 rfl rfl ?_
    exact ⟨by simp [m_tc, *], rfl, rfl⟩
theorem s_link {x y : Int32} {c : Option Nat} {q : List Nat} (h : m_Pic f i sig reg pc px py chn pk hm) (hx : m_at x y c) (hq : q.length ≤ 48) (hch : m_chn chn q) : AM mX5_link 0 0 [.ref i, .int x, .int y, .int (nI q.length)] n f
    (fun o n' f' => ∃ chn', o = .inl (some (.int (nI (m_tryO sig c (reg, q)).2.length))) ∧ n = n' ∧ f' = va_up (va_up f (i + 2) (.inl (0, 48, .inl (m_tryO sig c (reg, q)).1))) (i + 6) (.inl (0, 48, .inl chn')) ∧ m_chn chn' (m_tryO sig c (reg, q)).2) := by
  have hp := h
  obtain ⟨h0, h1, h2, h3, h4, h5, h6⟩ := h
  show AW mX5_link 0 0 0 [some (.ref i), some (.int x), some (.int y), some (.int (nI q.length)), none] [] n f _
  have hsame : m_tryO sig c (reg, q) = (reg, q) → ∃ chn', (Sum.inl (some (Value.int (nI q.length))) : Option Value ⊕ Nat) = .inl (some (.int (nI (m_tryO sig c (reg, q)).2.length))) ∧ n = n ∧ f = va_up (va_up f (i + 2) (.inl (0, 48, .inl (m_tryO sig c (reg, q)).1))) (i + 6) (.inl (0, 48, .inl chn')) ∧ m_chn chn' (m_tryO sig c (reg, q)).2 := by
    intro e
    rw [e]
    refine ⟨chn, rfl, rfl, ?_, hch⟩
    rw [am_self h2, am_self h6]
  rcases hx with ⟨a, b, ha, hb, rfl, rfl, rfl⟩ | ⟨rfl, hx⟩
  · have e1 : nI b * 8 + nI a = nI (8 * b + a) := am_cellN b a
    refine am_iload_n 0 dX5_link_0 rfl ?_
    refine am_if_lt 1 26 dX5_link_1 rfl (fun c1 => absurd c1 (nI_pos (by omega))) (fun c1 => ?_)
    refine am_iload_n 4 dX5_link_4 rfl ?_
    refine am_bipush 5 (v := 8) dX5_link_5 (by decide) ?_
    refine am_icmp_ge 7 26 dX5_link_7 rfl (fun c7 => absurd c7 (nI_ge (by omega) (by decide))) (fun c7 => ?_)
    refine am_iload_n 10 dX5_link_10 rfl ?_
    refine am_if_lt 11 26 dX5_link_11 rfl (fun c11 => absurd c11 (nI_pos (by omega))) (fun c11 => ?_)
    refine am_iload_n 14 dX5_link_14 rfl ?_
    refine am_bipush 15 (v := 6) dX5_link_15 (by decide) ?_
    refine am_icmp_ge 17 26 dX5_link_17 rfl (fun c17 => absurd c17 (nI_ge (by omega) (by decide))) (fun c17 => ?_)
    refine am_iload_n 20 dX5_link_20 rfl ?_
    refine am_bipush 21 (v := 48) dX5_link_21 (by decide) ?_
    refine am_icmp_lt 23 28 dX5_link_23 rfl (fun c23 => ?_) (fun c23 => ?_)
    · refine am_iload_n 28 dX5_link_28 rfl ?_
      refine am_bipush 29 (v := 8) dX5_link_29 (by decide) ?_
      refine am_imul 31 dX5_link_31 ?_
      refine am_iload_n 32 dX5_link_32 rfl ?_
      refine am_iadd 33 dX5_link_33 ?_
      rw [e1]
      refine am_istore 34 dX5_link_34 (by decide) ?_
      refine am_aload_n 36 dX5_link_36 rfl ?_
      refine am_iload 37 dX5_link_37 rfl ?_
      refine am_V1 39 (mc' := 0) (ms' := 0) (rc := 0) (rs := 0) dX5_link_39 lX5_36 ⟨by decide, by decide⟩ (by repeat (first | assumption | exact am_ue | refine am_un (by first | assumption | decide | omega) ?_)) (Nat.le_of_ble_eq_true rfl) (Nat.le_of_ble_eq_true rfl) (s_isTouched hp (by omega)) ?_
      refine am_is_ct ?_
      refine am_if_eq 42 55 dX5_link_42 rfl (fun c42 => ?_) (fun c42 => ?_)
      · have c20 : ¬ 20 ≤ sig (8 * b + a) := by
          intro z
          unfold m_tc at c42
          rw [if_neg (Int32.not_lt.mpr z)] at c42
          exact absurd c42 (by decide)
        refine am_iload_n 55 dX5_link_55 rfl ?_
        refine am_ireturn 56 dX5_link_56 rfl rfl ?_
        exact hsame (by show m_try sig (8 * b + a) (reg, q) = _; unfold m_try; rw [if_neg (fun z => by first | exact c20 z.2.1 | exact c52 z.2.2)])
      · have c20 : 20 ≤ sig (8 * b + a) := by
          apply Int32.not_lt.mp
          intro z
          unfold m_tc at c42
          rw [if_pos z] at c42
          exact c42 rfl
        refine am_aload_n 45 dX5_link_45 rfl ?_
        refine am_getfield 46 dX5_link_46 fX5_15 (by repeat (first | assumption | exact am_ue | refine am_un (by first | assumption | decide | omega) ?_)) rfl ?_
        refine am_iload 49 dX5_link_49 rfl ?_
        refine am_iaload 51 dX5_link_51 rfl (by repeat (first | assumption | exact am_ue | refine am_un (by first | assumption | decide | omega) ?_)) (am_ix (by omega) (by decide)) ?_
        rw [nI_clamp (n := 8 * b + a) (by omega)]
        refine am_if_eq 52 57 dX5_link_52 rfl (fun c52 => ?_) (fun c52 => ?_)
        · refine am_aload_n 57 dX5_link_57 rfl ?_
          refine am_getfield 58 dX5_link_58 fX5_15 (by repeat (first | assumption | exact am_ue | refine am_un (by first | assumption | decide | omega) ?_)) rfl ?_
          refine am_iload 61 dX5_link_61 rfl ?_
          refine am_iconst 63 (v := 1) dX5_link_63 (by decide) ?_
          refine am_iastore 64 dX5_link_64 rfl (by repeat (first | assumption | exact am_ue | refine am_un (by first | assumption | decide | omega) ?_)) (am_ix (by omega) (by decide)) ?_
          rw [nI_clamp (n := 8 * b + a) (by omega)]
          refine am_aload_n 65 dX5_link_65 rfl ?_
          refine am_getfield 66 dX5_link_66 fX5_27 (by repeat (first | assumption | exact am_ue | refine am_un (by first | assumption | decide | omega) ?_)) rfl ?_
          refine am_iload_n 69 dX5_link_69 rfl ?_
          refine am_iload 70 dX5_link_70 rfl ?_
          refine am_iastore 72 dX5_link_72 rfl (by repeat (first | assumption | exact am_ue | refine am_un (by first | assumption | decide | omega) ?_)) (am_ix (am_ltN 48 c23 (by decide) (by omega)) (by decide)) ?_
          rw [nI_clamp (n := q.length) (by omega)]
          refine am_iload_n 73 dX5_link_73 rfl ?_
          refine am_iconst 74 (v := 1) dX5_link_74 (by decide) ?_
          refine am_iadd 75 dX5_link_75 ?_
          refine am_ireturn 76 dX5_link_76 rfl rfl ?_
          have e9 : m_tryO sig (some (8 * b + a)) (reg, q) = (va_up reg (8 * b + a) 1, q ++ [8 * b + a]) := by
            show m_try sig (8 * b + a) (reg, q) = _
            unfold m_try
            have hl : q.length < 48 := am_ltN 48 c23 (by decide) (by omega)
            rw [if_pos ⟨hl, c20, c52⟩]
          refine ⟨va_up chn q.length (nI (8 * b + a)), ?_, rfl, ?_, ?_⟩
          · rw [e9, nI_1]; simp
          · rw [e9]
          · rw [e9]; exact m_chn_push hch
        · refine am_iload_n 55 dX5_link_55 rfl ?_
          refine am_ireturn 56 dX5_link_56 rfl rfl ?_
          exact hsame (by show m_try sig (8 * b + a) (reg, q) = _; unfold m_try; rw [if_neg (fun z => by first | exact c20 z.2.1 | exact c52 z.2.2)])
    · refine am_iload_n 26 dX5_link_26 rfl ?_
      refine am_ireturn 27 dX5_link_27 rfl rfl ?_
      exact hsame (by show m_try sig (8 * b + a) (reg, q) = _; unfold m_try; rw [if_neg (fun z => c23 (nI_lt z.1 (by decide)))])
  · have e9 : m_tryO sig none (reg, q) = (reg, q) := rfl
    refine am_iload_n 0 dX5_link_0 rfl ?_
    refine am_if_lt 1 26 dX5_link_1 rfl (fun c1 => ?_) (fun c1 => ?_)
    · refine am_iload_n 26 dX5_link_26 rfl ?_
      refine am_ireturn 27 dX5_link_27 rfl rfl ?_
      exact hsame e9
    · refine am_iload_n 4 dX5_link_4 rfl ?_
      refine am_bipush 5 (v := 8) dX5_link_5 (by decide) ?_
      refine am_icmp_ge 7 26 dX5_link_7 rfl (fun c7 => ?_) (fun c7 => ?_)
      · refine am_iload_n 26 dX5_link_26 rfl ?_
        refine am_ireturn 27 dX5_link_27 rfl rfl ?_
        exact hsame e9
      · refine am_iload_n 10 dX5_link_10 rfl ?_
        refine am_if_lt 11 26 dX5_link_11 rfl (fun c11 => ?_) (fun c11 => ?_)
        · refine am_iload_n 26 dX5_link_26 rfl ?_
          refine am_ireturn 27 dX5_link_27 rfl rfl ?_
          exact hsame e9
        · refine am_iload_n 14 dX5_link_14 rfl ?_
          refine am_bipush 15 (v := 6) dX5_link_15 (by decide) ?_
          refine am_icmp_ge 17 26 dX5_link_17 rfl (fun c17 => ?_) (fun c17 => False.elim (by rcases hx with z | z | z | z <;> contradiction))
          refine am_iload_n 26 dX5_link_26 rfl ?_
          refine am_ireturn 27 dX5_link_27 rfl rfl ?_
          exact hsame e9
theorem s_measureRegion {s : Nat} (h : m_Pic f i sig reg pc px py chn pk hm) (hs : s < 48) (hr : m_rok sig reg) : AM mX5_measureRegion 0 0 [.ref i, .int (nI s)] n f
    (fun o n' f' => ∃ chn', o = .inl none ∧ n = n' ∧ f' = va_up (va_up f (i + 2) (.inl (0, 48, .inl (m_region sig s reg)))) (i + 6) (.inl (0, 48, .inl chn'))) := by
  have hp := h
  obtain ⟨h0, h1, h2, h3, h4, h5, h6⟩ := h
  show AW mX5_measureRegion 0 0 0 [some (.ref i), some (.int (nI s)), none, none, none, none] [] n f _
  generalize hR : m_bfs sig 48 0 (m_try sig s (reg, [])) = R
  have hreg : m_region sig s reg = fun c => if c ∈ R.2 then nI R.2.length else R.1 c := by
    unfold m_region
    rw [hR]
  have hok0 : m_ok sig (m_try sig s (reg, [])) := m_ok_try ⟨by simp, (fun c hc => by cases hc), hr⟩ hs
  have hokR : m_ok sig R := by rw [← hR]; exact m_ok_bfs 48 0 _ hok0
  have hT : ∀ (chn' : Nat → Int32) (z3 z4 z5 : Option Value), m_chn chn' R.2 → AW mX5_measureRegion 0 0 103 [some (.ref i), some (.int (nI s)), some (.int (nI R.2.length)), z3, z4, z5] [] n (va_up (va_up f (i + 2) (.inl (0, 48, .inl R.1))) (i + 6) (.inl (0, 48, .inl chn'))) (fun o n' f' => ∃ chn', o = .inl none ∧ n = n' ∧ f' = va_up (va_up f (i + 2) (.inl (0, 48, .inl (m_region sig s reg)))) (i + 6) (.inl (0, 48, .inl chn'))) := by
    intro chn' z3 z4 z5 hch
    have hlen := hokR.1
    refine am_iconst 103 (v := 0) dX5_measureRegion_103 (by decide) ?_
    refine am_istore_n 104 dX5_measureRegion_104 (by decide) ?_
    have g := am_for R.2.length (fun k (rg : Nat → Int32) => ∀ c, rg c = if c ∈ R.2.take k then nI R.2.length else R.1 c) (fun k rg => AW mX5_measureRegion 0 0 105 [some (.ref i), some (.int (nI s)), some (.int (nI R.2.length)), some (.int (nI k)), z4, z5] [] n (va_up (va_up f (i + 2) (.inl (0, 48, .inl rg))) (i + 6) (.inl (0, 48, .inl chn'))) (fun o n' f' => ∃ chn', o = .inl none ∧ n = n' ∧ f' = va_up (va_up f (i + 2) (.inl (0, 48, .inl (m_region sig s reg)))) (i + 6) (.inl (0, 48, .inl chn')))) ?_ ?_ 0 R.1 (by omega) (fun c => by simp)
    · exact g
    · intro rg hrg
      have e : rg = m_region sig s reg := by
        rw [hreg]
        funext c
        rw [hrg c, List.take_length]
      subst e
      refine am_iload_n 105 dX5_measureRegion_105 rfl ?_
      refine am_iload_n 106 dX5_measureRegion_106 rfl ?_
      refine am_icmp_ge 107 134 dX5_measureRegion_107 rfl (fun c107 => ?_) (fun c107 => absurd (Int32.le_refl _) c107)
      refine am_return 134 dX5_measureRegion_134 rfl ?_
      exact ⟨chn', rfl, rfl, rfl⟩
    · intro k rg hk hrg ih
      have hcm := m_ok_get hokR hk
      refine am_iload_n 105 dX5_measureRegion_105 rfl ?_
      refine am_iload_n 106 dX5_measureRegion_106 rfl ?_
      refine am_icmp_ge 107 134 dX5_measureRegion_107 rfl (fun c107 => absurd c107 (nI_ge hk (by omega))) (fun c107 => ?_)
      refine am_iload_n 110 dX5_measureRegion_110 rfl ?_
      refine am_bipush 111 (v := 48) dX5_measureRegion_111 (by decide) ?_
      refine am_icmp_ge 113 134 dX5_measureRegion_113 rfl (fun c113 => absurd c113 (nI_ge (show k < 48 by omega) (by decide))) (fun c113 => ?_)
      refine am_aload_n 116 dX5_measureRegion_116 rfl ?_
      refine am_getfield 117 dX5_measureRegion_117 fX5_15 (by repeat (first | assumption | exact am_ue | refine am_un (by first | assumption | decide | omega) ?_)) rfl ?_
      refine am_aload_n 120 dX5_measureRegion_120 rfl ?_
      refine am_getfield 121 dX5_measureRegion_121 fX5_27 (by repeat (first | assumption | exact am_ue | refine am_un (by first | assumption | decide | omega) ?_)) rfl ?_
      refine am_iload_n 124 dX5_measureRegion_124 rfl ?_
      refine am_iaload 125 dX5_measureRegion_125 rfl (by repeat (first | assumption | exact am_ue | refine am_un (by first | assumption | decide | omega) ?_)) (am_ix (by omega) (by decide)) ?_
      rw [nI_clamp (n := k) (by omega)]
      rw [hch k hk]
      refine am_iload_n 126 dX5_measureRegion_126 rfl ?_
      refine am_iastore 127 dX5_measureRegion_127 rfl (by repeat (first | assumption | exact am_ue | refine am_un (by first | assumption | decide | omega) ?_)) (am_ix hcm.1 (by decide)) ?_
      rw [nI_clamp (n := R.2.getD k 0) (by omega), am_us (i := i + 6) (j := i + 2) (by omega), am_uu]
      refine am_iinc 128 (v := nI (k + 1)) dX5_measureRegion_128 rfl (nI_1 (k)) (by decide) ?_
      refine am_goto 131 (tgt := 105) dX5_measureRegion_131 rfl ?_
      refine ih _ (fun c => ?_)
      by_cases e : c = R.2.getD k 0
      · rw [e, am_up_eq, if_pos ((m_take_in hk).mpr (Or.inr rfl))]
      · rw [am_up_ne e, hrg c]; exact am_cond (by rw [m_take_in hk]; exact ⟨Or.inl, fun z => z.resolve_right e⟩)
  refine am_aload_n 0 dX5_measureRegion_0 rfl ?_
  refine am_iload_n 1 dX5_measureRegion_1 rfl ?_
  refine am_bipush 2 (v := 8) dX5_measureRegion_2 (by decide) ?_
  refine am_irem 4 dX5_measureRegion_4 (by decide) ?_
  rw [am_rem8 (by omega)]
  refine am_iload_n 5 dX5_measureRegion_5 rfl ?_
  refine am_bipush 6 (v := 8) dX5_measureRegion_6 (by decide) ?_
  refine am_idiv 8 dX5_measureRegion_8 (by decide) ?_
  rw [am_div8 (by omega)]
  refine am_iconst 9 (v := 0) dX5_measureRegion_9 (by decide) ?_
  refine am_V3 10 (mc' := 0) (ms' := 0) (rc := 0) (rs := 0) dX5_measureRegion_10 lX5_55 ⟨by decide, by decide⟩ (by repeat (first | assumption | exact am_ue | refine am_un (by first | assumption | decide | omega) ?_)) (Nat.le_of_ble_eq_true rfl) (Nat.le_of_ble_eq_true rfl) (s_link hp (m_at_in (by omega) (by omega)) (q := []) (by simp) (fun j hj => by simp at hj)) ?_
  rintro o n' f' ⟨ch1, rfl, rfl, rfl, hc1⟩
  refine am_istore_n 13 dX5_measureRegion_13 (by decide) ?_
  refine am_iconst 14 (v := 0) dX5_measureRegion_14 (by decide) ?_
  refine am_istore_n 15 dX5_measureRegion_15 (by decide) ?_
  rw [show 8 * (s / 8) + s % 8 = s by omega] at hc1 ⊢
  have g := am_for 48 (fun k (z : m_R × (Nat → Int32) × Option Value × Option Value) => m_bfs sig (48 - k) k z.1 = R ∧ m_ok sig z.1 ∧ m_chn z.2.1 z.1.2) (fun k z => AW mX5_measureRegion 0 0 16 [some (.ref i), some (.int (nI s)), some (.int (nI z.1.2.length)), some (.int (nI k)), z.2.2.1, z.2.2.2] [] n (va_up (va_up f (i + 2) (.inl (0, 48, .inl z.1.1))) (i + 6) (.inl (0, 48, .inl z.2.1))) (fun o n' f' => ∃ chn', o = .inl none ∧ n = n' ∧ f' = va_up (va_up f (i + 2) (.inl (0, 48, .inl (m_region sig s reg)))) (i + 6) (.inl (0, 48, .inl chn')))) ?_ ?_ 0 (m_try sig s (reg, []), ch1, none, none) (by omega) ⟨hR, hok0, hc1⟩
  · exact g
  · rintro ⟨r, chn', z4, z5⟩ ⟨g1, g2, g3⟩
    have g1' : r = R := g1
    subst g1'
    refine am_iload_n 16 dX5_measureRegion_16 rfl ?_
    refine am_iload_n 17 dX5_measureRegion_17 rfl ?_
    refine am_icmp_ge 18 103 dX5_measureRegion_18 rfl (fun c18 => ?_) (fun c18 => ?_)
    · exact hT _ _ _ _ g3
    · refine am_iload_n 21 dX5_measureRegion_21 rfl ?_
      refine am_bipush 22 (v := 48) dX5_measureRegion_22 (by decide) ?_
      refine am_icmp_ge 24 103 dX5_measureRegion_24 rfl (fun c24 => ?_) (fun c24 => absurd (by decide) c24)
      exact hT _ _ _ _ g3
  · rintro k ⟨⟨rg, q⟩, chn', z4, z5⟩ hk ⟨g1, g2, g3⟩ ih
    have g1' : m_bfs sig (48 - k) k (rg, q) = R := g1
    show AW mX5_measureRegion 0 0 16 [some (.ref i), some (.int (nI s)), some (.int (nI q.length)), some (.int (nI k)), z4, z5] [] n (va_up (va_up f (i + 2) (.inl (0, 48, .inl rg))) (i + 6) (.inl (0, 48, .inl chn'))) _
    have g3' : m_chn chn' q := g3
    have hq48 : q.length ≤ 48 := g2.1
    rw [show 48 - k = (48 - (k + 1)) + 1 by omega] at g1'
    unfold m_bfs at g1'
    refine am_iload_n 16 dX5_measureRegion_16 rfl ?_
    refine am_iload_n 17 dX5_measureRegion_17 rfl ?_
    refine am_icmp_ge 18 103 dX5_measureRegion_18 rfl (fun c18 => ?_) (fun c18 => ?_)
    · rw [if_neg (show ¬ k < (rg, q).2.length from fun z => nI_ge z (by show q.length < _; omega) c18)] at g1'
      subst g1'
      exact hT _ _ _ _ g3'
    · have hkq : k < q.length := am_nleN q.length c18 (by omega) (by omega)
      rw [if_pos (show k < (rg, q).2.length from hkq)] at g1'
      have hc := m_ok_get g2 hkq
      generalize he : q.getD k 0 = c at hc
      have g1 : m_bfs sig (48 - (k + 1)) (k + 1) (m_exp sig c (rg, q)) = R := by rw [← he]; exact g1'
      clear g1'
      refine am_iload_n 21 dX5_measureRegion_21 rfl ?_
      refine am_bipush 22 (v := 48) dX5_measureRegion_22 (by decide) ?_
      refine am_icmp_ge 24 103 dX5_measureRegion_24 rfl (fun c24 => absurd c24 (nI_ge hk (by decide))) (fun c24 => ?_)
      refine am_aload_n 27 dX5_measureRegion_27 rfl ?_
      refine am_getfield 28 dX5_measureRegion_28 fX5_27 (by repeat (first | assumption | exact am_ue | refine am_un (by first | assumption | decide | omega) ?_)) rfl ?_
      refine am_iload_n 31 dX5_measureRegion_31 rfl ?_
      refine am_iaload 32 dX5_measureRegion_32 rfl (by repeat (first | assumption | exact am_ue | refine am_un (by first | assumption | decide | omega) ?_)) (am_ix hk (by decide)) ?_
      rw [nI_clamp (n := k) (by omega)]
      rw [g3' k hkq, he]
      refine am_bipush 33 (v := 8) dX5_measureRegion_33 (by decide) ?_
      refine am_irem 35 dX5_measureRegion_35 (by decide) ?_
      rw [am_rem8 (by omega)]
      refine am_istore 36 dX5_measureRegion_36 (by decide) ?_
      refine am_aload_n 38 dX5_measureRegion_38 rfl ?_
      refine am_getfield 39 dX5_measureRegion_39 fX5_27 (by repeat (first | assumption | exact am_ue | refine am_un (by first | assumption | decide | omega) ?_)) rfl ?_
      refine am_iload_n 42 dX5_measureRegion_42 rfl ?_
      refine am_iaload 43 dX5_measureRegion_43 rfl (by repeat (first | assumption | exact am_ue | refine am_un (by first | assumption | decide | omega) ?_)) (am_ix hk (by decide)) ?_
      rw [nI_clamp (n := k) (by omega)]
      rw [g3' k hkq, he]
      refine am_bipush 44 (v := 8) dX5_measureRegion_44 (by decide) ?_
      refine am_idiv 46 dX5_measureRegion_46 (by decide) ?_
      rw [am_div8 (by omega)]
      refine am_istore 47 dX5_measureRegion_47 (by decide) ?_
      refine am_aload_n 49 dX5_measureRegion_49 rfl ?_
      refine am_iload 50 dX5_measureRegion_50 rfl ?_
      refine am_iconst 52 (v := 1) dX5_measureRegion_52 (by decide) ?_
      refine am_isub 53 dX5_measureRegion_53 ?_
      refine am_iload 54 dX5_measureRegion_54 rfl ?_
      refine am_iload_n 56 dX5_measureRegion_56 rfl ?_
      refine am_V3 57 (mc' := 0) (ms' := 0) (rc := 0) (rs := 0) dX5_measureRegion_57 lX5_55 ⟨by decide, by decide⟩ (by repeat (first | assumption | exact am_ue | refine am_un (by first | assumption | decide | omega) ?_)) (Nat.le_of_ble_eq_true rfl) (Nat.le_of_ble_eq_true rfl) (s_link (hp.rc rg chn') (m_at_left hc.1) hq48 g3') ?_
      rintro o n' f' ⟨ch2, rfl, rfl, rfl, hc2⟩
      rw [am_us (i := i + 6) (j := i + 2) (by omega), am_uu, am_uu]
      have o2 := m_ok_tryO (c := m_left c) g2 (fun _ z => m_left_lt hc.1 z)
      generalize hr2 : m_tryO sig (m_left c) (rg, q) = r2 at hc2 o2 ⊢
      refine am_istore_n 60 dX5_measureRegion_60 (by decide) ?_
      refine am_aload_n 61 dX5_measureRegion_61 rfl ?_
      refine am_iload 62 dX5_measureRegion_62 rfl ?_
      refine am_iconst 64 (v := 1) dX5_measureRegion_64 (by decide) ?_
      refine am_iadd 65 dX5_measureRegion_65 ?_
      refine am_iload 66 dX5_measureRegion_66 rfl ?_
      refine am_iload_n 68 dX5_measureRegion_68 rfl ?_
      refine am_V3 69 (mc' := 0) (ms' := 0) (rc := 0) (rs := 0) dX5_measureRegion_69 lX5_55 ⟨by decide, by decide⟩ (by repeat (first | assumption | exact am_ue | refine am_un (by first | assumption | decide | omega) ?_)) (Nat.le_of_ble_eq_true rfl) (Nat.le_of_ble_eq_true rfl) (s_link (hp.rc r2.1 ch2) (m_at_right hc.1) o2.1 hc2) ?_
      rintro o n' f' ⟨ch3, rfl, rfl, rfl, hc3⟩
      rw [am_us (i := i + 6) (j := i + 2) (by omega), am_uu, am_uu]
      have o3 := m_ok_tryO (c := m_right c) o2 (fun _ z => m_right_lt hc.1 z)
      generalize hr3 : m_tryO sig (m_right c) (r2.1, r2.2) = r3 at hc3 ⊢
      have o3 : m_ok sig r3 := by rw [← hr3]; exact o3
      refine am_istore_n 72 dX5_measureRegion_72 (by decide) ?_
      refine am_aload_n 73 dX5_measureRegion_73 rfl ?_
      refine am_iload 74 dX5_measureRegion_74 rfl ?_
      refine am_iload 76 dX5_measureRegion_76 rfl ?_
      refine am_iconst 78 (v := 1) dX5_measureRegion_78 (by decide) ?_
      refine am_isub 79 dX5_measureRegion_79 ?_
      refine am_iload_n 80 dX5_measureRegion_80 rfl ?_
      refine am_V3 81 (mc' := 0) (ms' := 0) (rc := 0) (rs := 0) dX5_measureRegion_81 lX5_55 ⟨by decide, by decide⟩ (by repeat (first | assumption | exact am_ue | refine am_un (by first | assumption | decide | omega) ?_)) (Nat.le_of_ble_eq_true rfl) (Nat.le_of_ble_eq_true rfl) (s_link (hp.rc r3.1 ch3) (m_at_up hc.1) o3.1 hc3) ?_
      rintro o n' f' ⟨ch4, rfl, rfl, rfl, hc4⟩
      rw [am_us (i := i + 6) (j := i + 2) (by omega), am_uu, am_uu]
      have o4 := m_ok_tryO (c := m_up c) o3 (fun _ z => m_up_lt hc.1 z)
      generalize hr4 : m_tryO sig (m_up c) (r3.1, r3.2) = r4 at hc4 ⊢
      have o4 : m_ok sig r4 := by rw [← hr4]; exact o4
      refine am_istore_n 84 dX5_measureRegion_84 (by decide) ?_
      refine am_aload_n 85 dX5_measureRegion_85 rfl ?_
      refine am_iload 86 dX5_measureRegion_86 rfl ?_
      refine am_iload 88 dX5_measureRegion_88 rfl ?_
      refine am_iconst 90 (v := 1) dX5_measureRegion_90 (by decide) ?_
      refine am_iadd 91 dX5_measureRegion_91 ?_
      refine am_iload_n 92 dX5_measureRegion_92 rfl ?_
      refine am_V3 93 (mc' := 0) (ms' := 0) (rc := 0) (rs := 0) dX5_measureRegion_93 lX5_55 ⟨by decide, by decide⟩ (by repeat (first | assumption | exact am_ue | refine am_un (by first | assumption | decide | omega) ?_)) (Nat.le_of_ble_eq_true rfl) (Nat.le_of_ble_eq_true rfl) (s_link (hp.rc r4.1 ch4) (m_at_down hc.1) o4.1 hc4) ?_
      rintro o n' f' ⟨ch5, rfl, rfl, rfl, hc5⟩
      rw [am_us (i := i + 6) (j := i + 2) (by omega), am_uu, am_uu]
      have e5 : m_tryO sig (m_down c) (r4.1, r4.2) = m_exp sig c (rg, q) := by
        unfold m_exp
        rw [hr2]
        show _ = m_tryO sig (m_down c) (m_tryO sig (m_up c) (m_tryO sig (m_right c) (r2.1, r2.2)))
        rw [hr3]
        show _ = m_tryO sig (m_down c) (m_tryO sig (m_up c) (r3.1, r3.2))
        rw [hr4]
      rw [e5] at hc5 ⊢
      refine am_istore_n 96 dX5_measureRegion_96 (by decide) ?_
      refine am_iinc 97 (v := nI (k + 1)) dX5_measureRegion_97 rfl (nI_1 (k)) (by decide) ?_
      refine am_goto 100 (tgt := 16) dX5_measureRegion_100 rfl ?_
      exact ih (m_exp sig c (rg, q), ch5, _, _) ⟨g1, m_ok_exp g2 hc.1, hc5⟩
end Picture
