/-! ===== the reference: decode rows ===== -/
theorem dX8_init_0 : decode cX8_init 0 = .ok (.aload_n 0, 1) := by decide +kernel
theorem dX8_init_1 : decode cX8_init 1 = .ok (.invokespecial 1, 3) := by decide +kernel
theorem dX8_init_4 : decode cX8_init 4 = .ok (.aload_n 0, 1) := by decide +kernel
theorem dX8_init_5 : decode cX8_init 5 = .ok (.iconst 4, 1) := by decide +kernel
theorem dX8_init_6 : decode cX8_init 6 = .ok (.newarray .int, 2) := by decide +kernel
theorem dX8_init_8 : decode cX8_init 8 = .ok (.putfield 7, 3) := by decide +kernel
theorem dX8_init_11 : decode cX8_init 11 = .ok (.aload_n 0, 1) := by decide +kernel
theorem dX8_init_12 : decode cX8_init 12 = .ok (.iload_n 1, 1) := by decide +kernel
theorem dX8_init_13 : decode cX8_init 13 = .ok (.putfield 13, 3) := by decide +kernel
theorem dX8_init_16 : decode cX8_init 16 = .ok (.aload_n 0, 1) := by decide +kernel
theorem dX8_init_17 : decode cX8_init 17 = .ok (.iload_n 2, 1) := by decide +kernel
theorem dX8_init_18 : decode cX8_init 18 = .ok (.putfield 17, 3) := by decide +kernel
theorem dX8_init_21 : decode cX8_init 21 = .ok (.aload_n 0, 1) := by decide +kernel
theorem dX8_init_22 : decode cX8_init 22 = .ok (.iload_n 3, 1) := by decide +kernel
theorem dX8_init_23 : decode cX8_init 23 = .ok (.putfield 20, 3) := by decide +kernel
theorem dX8_init_26 : decode cX8_init 26 = .ok (.aload_n 0, 1) := by decide +kernel
theorem dX8_init_27 : decode cX8_init 27 = .ok (.iload 4, 2) := by decide +kernel
theorem dX8_init_29 : decode cX8_init 29 = .ok (.putfield 23, 3) := by decide +kernel
theorem dX8_init_32 : decode cX8_init 32 = .ok (.return_, 1) := by decide +kernel
theorem dX10_init_0 : decode cX10_init 0 = .ok (.aload_n 0, 1) := by decide +kernel
theorem dX10_init_1 : decode cX10_init 1 = .ok (.aload_n 1, 1) := by decide +kernel
theorem dX10_init_2 : decode cX10_init 2 = .ok (.putfield 3, 3) := by decide +kernel
theorem dX10_init_5 : decode cX10_init 5 = .ok (.aload_n 0, 1) := by decide +kernel
theorem dX10_init_6 : decode cX10_init 6 = .ok (.invokespecial 9, 3) := by decide +kernel
theorem dX10_init_9 : decode cX10_init 9 = .ok (.aload_n 0, 1) := by decide +kernel
theorem dX10_init_10 : decode cX10_init 10 = .ok (.iconst 5, 1) := by decide +kernel
theorem dX10_init_11 : decode cX10_init 11 = .ok (.newarray .int, 2) := by decide +kernel
theorem dX10_init_13 : decode cX10_init 13 = .ok (.dup, 1) := by decide +kernel
theorem dX10_init_14 : decode cX10_init 14 = .ok (.iconst 0, 1) := by decide +kernel
theorem dX10_init_15 : decode cX10_init 15 = .ok (.iconst (-1), 1) := by decide +kernel
theorem dX10_init_16 : decode cX10_init 16 = .ok (.iastore, 1) := by decide +kernel
theorem dX10_init_17 : decode cX10_init 17 = .ok (.dup, 1) := by decide +kernel
theorem dX10_init_18 : decode cX10_init 18 = .ok (.iconst 1, 1) := by decide +kernel
theorem dX10_init_19 : decode cX10_init 19 = .ok (.iconst (-1), 1) := by decide +kernel
theorem dX10_init_20 : decode cX10_init 20 = .ok (.iastore, 1) := by decide +kernel
theorem dX10_init_21 : decode cX10_init 21 = .ok (.dup, 1) := by decide +kernel
theorem dX10_init_22 : decode cX10_init 22 = .ok (.iconst 2, 1) := by decide +kernel
theorem dX10_init_23 : decode cX10_init 23 = .ok (.iconst (-1), 1) := by decide +kernel
theorem dX10_init_24 : decode cX10_init 24 = .ok (.iastore, 1) := by decide +kernel
theorem dX10_init_25 : decode cX10_init 25 = .ok (.dup, 1) := by decide +kernel
theorem dX10_init_26 : decode cX10_init 26 = .ok (.iconst 3, 1) := by decide +kernel
theorem dX10_init_27 : decode cX10_init 27 = .ok (.iconst (-1), 1) := by decide +kernel
theorem dX10_init_28 : decode cX10_init 28 = .ok (.iastore, 1) := by decide +kernel
theorem dX10_init_29 : decode cX10_init 29 = .ok (.dup, 1) := by decide +kernel
theorem dX10_init_30 : decode cX10_init 30 = .ok (.iconst 4, 1) := by decide +kernel
theorem dX10_init_31 : decode cX10_init 31 = .ok (.iconst (-1), 1) := by decide +kernel
theorem dX10_init_32 : decode cX10_init 32 = .ok (.iastore, 1) := by decide +kernel
theorem dX10_init_33 : decode cX10_init 33 = .ok (.putfield 15, 3) := by decide +kernel
theorem dX10_init_36 : decode cX10_init 36 = .ok (.aload_n 0, 1) := by decide +kernel
theorem dX10_init_37 : decode cX10_init 37 = .ok (.iconst (-1), 1) := by decide +kernel
theorem dX10_init_38 : decode cX10_init 38 = .ok (.putfield 19, 3) := by decide +kernel
theorem dX10_init_41 : decode cX10_init 41 = .ok (.aload_n 0, 1) := by decide +kernel
theorem dX10_init_42 : decode cX10_init 42 = .ok (.iconst 5, 1) := by decide +kernel
theorem dX10_init_43 : decode cX10_init 43 = .ok (.newarray .int, 2) := by decide +kernel
theorem dX10_init_45 : decode cX10_init 45 = .ok (.dup, 1) := by decide +kernel
theorem dX10_init_46 : decode cX10_init 46 = .ok (.iconst 0, 1) := by decide +kernel
theorem dX10_init_47 : decode cX10_init 47 = .ok (.iconst (-1), 1) := by decide +kernel
theorem dX10_init_48 : decode cX10_init 48 = .ok (.iastore, 1) := by decide +kernel
theorem dX10_init_49 : decode cX10_init 49 = .ok (.dup, 1) := by decide +kernel
theorem dX10_init_50 : decode cX10_init 50 = .ok (.iconst 1, 1) := by decide +kernel
theorem dX10_init_51 : decode cX10_init 51 = .ok (.iconst (-1), 1) := by decide +kernel
theorem dX10_init_52 : decode cX10_init 52 = .ok (.iastore, 1) := by decide +kernel
theorem dX10_init_53 : decode cX10_init 53 = .ok (.dup, 1) := by decide +kernel
theorem dX10_init_54 : decode cX10_init 54 = .ok (.iconst 2, 1) := by decide +kernel
theorem dX10_init_55 : decode cX10_init 55 = .ok (.iconst (-1), 1) := by decide +kernel
theorem dX10_init_56 : decode cX10_init 56 = .ok (.iastore, 1) := by decide +kernel
theorem dX10_init_57 : decode cX10_init 57 = .ok (.dup, 1) := by decide +kernel
theorem dX10_init_58 : decode cX10_init 58 = .ok (.iconst 3, 1) := by decide +kernel
theorem dX10_init_59 : decode cX10_init 59 = .ok (.iconst (-1), 1) := by decide +kernel
theorem dX10_init_60 : decode cX10_init 60 = .ok (.iastore, 1) := by decide +kernel
theorem dX10_init_61 : decode cX10_init 61 = .ok (.dup, 1) := by decide +kernel
theorem dX10_init_62 : decode cX10_init 62 = .ok (.iconst 4, 1) := by decide +kernel
theorem dX10_init_63 : decode cX10_init 63 = .ok (.iconst (-1), 1) := by decide +kernel
theorem dX10_init_64 : decode cX10_init 64 = .ok (.iastore, 1) := by decide +kernel
theorem dX10_init_65 : decode cX10_init 65 = .ok (.putfield 23, 3) := by decide +kernel
theorem dX10_init_68 : decode cX10_init 68 = .ok (.aload_n 0, 1) := by decide +kernel
theorem dX10_init_69 : decode cX10_init 69 = .ok (.aload_n 2, 1) := by decide +kernel
theorem dX10_init_70 : decode cX10_init 70 = .ok (.putfield 26, 3) := by decide +kernel
theorem dX10_init_73 : decode cX10_init 73 = .ok (.aload_n 0, 1) := by decide +kernel
theorem dX10_init_74 : decode cX10_init 74 = .ok (.aload_n 2, 1) := by decide +kernel
theorem dX10_init_75 : decode cX10_init 75 = .ok (.getfield 30, 3) := by decide +kernel
theorem dX10_init_78 : decode cX10_init 78 = .ok (.newarray .int, 2) := by decide +kernel
theorem dX10_init_80 : decode cX10_init 80 = .ok (.putfield 35, 3) := by decide +kernel
theorem dX10_init_83 : decode cX10_init 83 = .ok (.aload_n 0, 1) := by decide +kernel
theorem dX10_init_84 : decode cX10_init 84 = .ok (.aload_n 2, 1) := by decide +kernel
theorem dX10_init_85 : decode cX10_init 85 = .ok (.getfield 30, 3) := by decide +kernel
theorem dX10_init_88 : decode cX10_init 88 = .ok (.newarray .int, 2) := by decide +kernel
theorem dX10_init_90 : decode cX10_init 90 = .ok (.putfield 38, 3) := by decide +kernel
theorem dX10_init_93 : decode cX10_init 93 = .ok (.iconst 0, 1) := by decide +kernel
theorem dX10_init_94 : decode cX10_init 94 = .ok (.istore_n 3, 1) := by decide +kernel
theorem dX10_init_95 : decode cX10_init 95 = .ok (.iload_n 3, 1) := by decide +kernel
theorem dX10_init_96 : decode cX10_init 96 = .ok (.aload_n 2, 1) := by decide +kernel
theorem dX10_init_97 : decode cX10_init 97 = .ok (.getfield 30, 3) := by decide +kernel
theorem dX10_init_100 : decode cX10_init 100 = .ok (.if_icmp .ge 43, 3) := by decide +kernel
theorem dX10_init_103 : decode cX10_init 103 = .ok (.aload_n 0, 1) := by decide +kernel
theorem dX10_init_104 : decode cX10_init 104 = .ok (.getfield 35, 3) := by decide +kernel
theorem dX10_init_107 : decode cX10_init 107 = .ok (.iload_n 3, 1) := by decide +kernel
theorem dX10_init_108 : decode cX10_init 108 = .ok (.aload_n 2, 1) := by decide +kernel
theorem dX10_init_109 : decode cX10_init 109 = .ok (.aload_n 2, 1) := by decide +kernel
theorem dX10_init_110 : decode cX10_init 110 = .ok (.getfield 41, 3) := by decide +kernel
theorem dX10_init_113 : decode cX10_init 113 = .ok (.iload_n 3, 1) := by decide +kernel
theorem dX10_init_114 : decode cX10_init 114 = .ok (.iaload, 1) := by decide +kernel
theorem dX10_init_115 : decode cX10_init 115 = .ok (.iconst 0, 1) := by decide +kernel
theorem dX10_init_116 : decode cX10_init 116 = .ok (.invokevirtual 44, 3) := by decide +kernel
theorem dX10_init_119 : decode cX10_init 119 = .ok (.iastore, 1) := by decide +kernel
theorem dX10_init_120 : decode cX10_init 120 = .ok (.aload_n 0, 1) := by decide +kernel
theorem dX10_init_121 : decode cX10_init 121 = .ok (.getfield 38, 3) := by decide +kernel
theorem dX10_init_124 : decode cX10_init 124 = .ok (.iload_n 3, 1) := by decide +kernel
theorem dX10_init_125 : decode cX10_init 125 = .ok (.aload_n 2, 1) := by decide +kernel
theorem dX10_init_126 : decode cX10_init 126 = .ok (.aload_n 2, 1) := by decide +kernel
theorem dX10_init_127 : decode cX10_init 127 = .ok (.getfield 41, 3) := by decide +kernel
theorem dX10_init_130 : decode cX10_init 130 = .ok (.iload_n 3, 1) := by decide +kernel
theorem dX10_init_131 : decode cX10_init 131 = .ok (.iaload, 1) := by decide +kernel
theorem dX10_init_132 : decode cX10_init 132 = .ok (.iconst 1, 1) := by decide +kernel
theorem dX10_init_133 : decode cX10_init 133 = .ok (.invokevirtual 44, 3) := by decide +kernel
theorem dX10_init_136 : decode cX10_init 136 = .ok (.iastore, 1) := by decide +kernel
theorem dX10_init_137 : decode cX10_init 137 = .ok (.iinc 3 1, 3) := by decide +kernel
theorem dX10_init_140 : decode cX10_init 140 = .ok (.goto (-45), 3) := by decide +kernel
theorem dX10_init_143 : decode cX10_init 143 = .ok (.aload_n 0, 1) := by decide +kernel
theorem dX10_init_144 : decode cX10_init 144 = .ok (.iconst 0, 1) := by decide +kernel
theorem dX10_init_145 : decode cX10_init 145 = .ok (.lconst 0, 1) := by decide +kernel
theorem dX10_init_146 : decode cX10_init 146 = .ok (.iconst 0, 1) := by decide +kernel
theorem dX10_init_147 : decode cX10_init 147 = .ok (.iconst 0, 1) := by decide +kernel
theorem dX10_init_148 : decode cX10_init 148 = .ok (.invokevirtual 48, 3) := by decide +kernel
theorem dX10_init_151 : decode cX10_init 151 = .ok (.return_, 1) := by decide +kernel
theorem dX10_go_0 : decode cX10_go 0 = .ok (.iload_n 1, 1) := by decide +kernel
theorem dX10_go_1 : decode cX10_go 1 = .ok (.iconst 5, 1) := by decide +kernel
theorem dX10_go_2 : decode cX10_go 2 = .ok (.if_icmp .ne 58, 3) := by decide +kernel
theorem dX10_go_5 : decode cX10_go 5 = .ok (.iload 4, 2) := by decide +kernel
theorem dX10_go_7 : decode cX10_go 7 = .ok (.aload_n 0, 1) := by decide +kernel
theorem dX10_go_8 : decode cX10_go 8 = .ok (.getfield 19, 3) := by decide +kernel
theorem dX10_go_11 : decode cX10_go 11 = .ok (.if_icmp .lt 21, 3) := by decide +kernel
theorem dX10_go_14 : decode cX10_go 14 = .ok (.iload 4, 2) := by decide +kernel
theorem dX10_go_16 : decode cX10_go 16 = .ok (.aload_n 0, 1) := by decide +kernel
theorem dX10_go_17 : decode cX10_go 17 = .ok (.getfield 19, 3) := by decide +kernel
theorem dX10_go_20 : decode cX10_go 20 = .ok (.if_icmp .ne 13, 3) := by decide +kernel
theorem dX10_go_23 : decode cX10_go 23 = .ok (.iload 5, 2) := by decide +kernel
theorem dX10_go_25 : decode cX10_go 25 = .ok (.aload_n 0, 1) := by decide +kernel
theorem dX10_go_26 : decode cX10_go 26 = .ok (.getfield 52, 3) := by decide +kernel
theorem dX10_go_29 : decode cX10_go 29 = .ok (.if_icmp .lt 4, 3) := by decide +kernel
theorem dX10_go_32 : decode cX10_go 32 = .ok (.return_, 1) := by decide +kernel
theorem dX10_go_33 : decode cX10_go 33 = .ok (.aload_n 0, 1) := by decide +kernel
theorem dX10_go_34 : decode cX10_go 34 = .ok (.iload 4, 2) := by decide +kernel
theorem dX10_go_36 : decode cX10_go 36 = .ok (.putfield 19, 3) := by decide +kernel
theorem dX10_go_39 : decode cX10_go 39 = .ok (.aload_n 0, 1) := by decide +kernel
theorem dX10_go_40 : decode cX10_go 40 = .ok (.iload 5, 2) := by decide +kernel
theorem dX10_go_42 : decode cX10_go 42 = .ok (.putfield 52, 3) := by decide +kernel
theorem dX10_go_45 : decode cX10_go 45 = .ok (.aload_n 0, 1) := by decide +kernel
theorem dX10_go_46 : decode cX10_go 46 = .ok (.getfield 15, 3) := by decide +kernel
theorem dX10_go_49 : decode cX10_go 49 = .ok (.iconst 0, 1) := by decide +kernel
theorem dX10_go_50 : decode cX10_go 50 = .ok (.aload_n 0, 1) := by decide +kernel
theorem dX10_go_51 : decode cX10_go 51 = .ok (.getfield 23, 3) := by decide +kernel
theorem dX10_go_54 : decode cX10_go 54 = .ok (.iconst 0, 1) := by decide +kernel
theorem dX10_go_55 : decode cX10_go 55 = .ok (.iconst 5, 1) := by decide +kernel
theorem dX10_go_56 : decode cX10_go 56 = .ok (.invokestatic 55, 3) := by decide +kernel
theorem dX10_go_59 : decode cX10_go 59 = .ok (.return_, 1) := by decide +kernel
theorem dX10_go_60 : decode cX10_go 60 = .ok (.iconst 0, 1) := by decide +kernel
theorem dX10_go_61 : decode cX10_go 61 = .ok (.istore 6, 2) := by decide +kernel
theorem dX10_go_63 : decode cX10_go 63 = .ok (.iload 6, 2) := by decide +kernel
theorem dX10_go_65 : decode cX10_go 65 = .ok (.aload_n 0, 1) := by decide +kernel
theorem dX10_go_66 : decode cX10_go 66 = .ok (.getfield 26, 3) := by decide +kernel
theorem dX10_go_69 : decode cX10_go 69 = .ok (.getfield 30, 3) := by decide +kernel
theorem dX10_go_72 : decode cX10_go 72 = .ok (.if_icmp .ge 101, 3) := by decide +kernel
theorem dX10_go_75 : decode cX10_go 75 = .ok (.aload_n 0, 1) := by decide +kernel
theorem dX10_go_76 : decode cX10_go 76 = .ok (.getfield 3, 3) := by decide +kernel
theorem dX10_go_79 : decode cX10_go 79 = .ok (.getfield 61, 3) := by decide +kernel
theorem dX10_go_82 : decode cX10_go 82 = .ok (.iload_n 1, 1) := by decide +kernel
theorem dX10_go_83 : decode cX10_go 83 = .ok (.aaload, 1) := by decide +kernel
theorem dX10_go_84 : decode cX10_go 84 = .ok (.ifnull 89, 3) := by decide +kernel
theorem dX10_go_87 : decode cX10_go 87 = .ok (.aload_n 0, 1) := by decide +kernel
theorem dX10_go_88 : decode cX10_go 88 = .ok (.getfield 3, 3) := by decide +kernel
theorem dX10_go_91 : decode cX10_go 91 = .ok (.getfield 61, 3) := by decide +kernel
theorem dX10_go_94 : decode cX10_go 94 = .ok (.iload_n 1, 1) := by decide +kernel
theorem dX10_go_95 : decode cX10_go 95 = .ok (.aaload, 1) := by decide +kernel
theorem dX10_go_96 : decode cX10_go 96 = .ok (.aload_n 0, 1) := by decide +kernel
theorem dX10_go_97 : decode cX10_go 97 = .ok (.getfield 35, 3) := by decide +kernel
theorem dX10_go_100 : decode cX10_go 100 = .ok (.iload 6, 2) := by decide +kernel
theorem dX10_go_102 : decode cX10_go 102 = .ok (.iaload, 1) := by decide +kernel
theorem dX10_go_103 : decode cX10_go 103 = .ok (.aload_n 0, 1) := by decide +kernel
theorem dX10_go_104 : decode cX10_go 104 = .ok (.getfield 38, 3) := by decide +kernel
theorem dX10_go_107 : decode cX10_go 107 = .ok (.iload 6, 2) := by decide +kernel
theorem dX10_go_109 : decode cX10_go 109 = .ok (.iaload, 1) := by decide +kernel
theorem dX10_go_110 : decode cX10_go 110 = .ok (.invokevirtual 65, 3) := by decide +kernel
theorem dX10_go_113 : decode cX10_go 113 = .ok (.istore 7, 2) := by decide +kernel
theorem dX10_go_115 : decode cX10_go 115 = .ok (.iload 7, 2) := by decide +kernel
theorem dX10_go_117 : decode cX10_go 117 = .ok (.sipush 256, 3) := by decide +kernel
theorem dX10_go_120 : decode cX10_go 120 = .ok (.if_icmp .gt 47, 3) := by decide +kernel
theorem dX10_go_123 : decode cX10_go 123 = .ok (.lload_n 2, 1) := by decide +kernel
theorem dX10_go_124 : decode cX10_go 124 = .ok (.iload 6, 2) := by decide +kernel
theorem dX10_go_126 : decode cX10_go 126 = .ok (.lshr, 1) := by decide +kernel
theorem dX10_go_127 : decode cX10_go 127 = .ok (.lconst 1, 1) := by decide +kernel
theorem dX10_go_128 : decode cX10_go 128 = .ok (.land, 1) := by decide +kernel
theorem dX10_go_129 : decode cX10_go 129 = .ok (.lconst 1, 1) := by decide +kernel
theorem dX10_go_130 : decode cX10_go 130 = .ok (.lcmp, 1) := by decide +kernel
theorem dX10_go_131 : decode cX10_go 131 = .ok (.ifCond .ne 6, 3) := by decide +kernel
theorem dX10_go_134 : decode cX10_go 134 = .ok (.goto 33, 3) := by decide +kernel
theorem dX10_go_137 : decode cX10_go 137 = .ok (.aload_n 0, 1) := by decide +kernel
theorem dX10_go_138 : decode cX10_go 138 = .ok (.getfield 15, 3) := by decide +kernel
theorem dX10_go_141 : decode cX10_go 141 = .ok (.iload_n 1, 1) := by decide +kernel
theorem dX10_go_142 : decode cX10_go 142 = .ok (.iload 6, 2) := by decide +kernel
theorem dX10_go_144 : decode cX10_go 144 = .ok (.iastore, 1) := by decide +kernel
theorem dX10_go_145 : decode cX10_go 145 = .ok (.aload_n 0, 1) := by decide +kernel
theorem dX10_go_146 : decode cX10_go 146 = .ok (.iload_n 1, 1) := by decide +kernel
theorem dX10_go_147 : decode cX10_go 147 = .ok (.iconst 1, 1) := by decide +kernel
theorem dX10_go_148 : decode cX10_go 148 = .ok (.iadd, 1) := by decide +kernel
theorem dX10_go_149 : decode cX10_go 149 = .ok (.lload_n 2, 1) := by decide +kernel
theorem dX10_go_150 : decode cX10_go 150 = .ok (.lconst 1, 1) := by decide +kernel
theorem dX10_go_151 : decode cX10_go 151 = .ok (.iload 6, 2) := by decide +kernel
theorem dX10_go_153 : decode cX10_go 153 = .ok (.lshl, 1) := by decide +kernel
theorem dX10_go_154 : decode cX10_go 154 = .ok (.lor, 1) := by decide +kernel
theorem dX10_go_155 : decode cX10_go 155 = .ok (.iload 4, 2) := by decide +kernel
theorem dX10_go_157 : decode cX10_go 157 = .ok (.iconst 1, 1) := by decide +kernel
theorem dX10_go_158 : decode cX10_go 158 = .ok (.iadd, 1) := by decide +kernel
theorem dX10_go_159 : decode cX10_go 159 = .ok (.iload 5, 2) := by decide +kernel
theorem dX10_go_161 : decode cX10_go 161 = .ok (.iload 7, 2) := by decide +kernel
theorem dX10_go_163 : decode cX10_go 163 = .ok (.iadd, 1) := by decide +kernel
theorem dX10_go_164 : decode cX10_go 164 = .ok (.invokevirtual 48, 3) := by decide +kernel
theorem dX10_go_167 : decode cX10_go 167 = .ok (.iinc 6 1, 3) := by decide +kernel
theorem dX10_go_170 : decode cX10_go 170 = .ok (.goto (-107), 3) := by decide +kernel
theorem dX10_go_173 : decode cX10_go 173 = .ok (.aload_n 0, 1) := by decide +kernel
theorem dX10_go_174 : decode cX10_go 174 = .ok (.getfield 15, 3) := by decide +kernel
theorem dX10_go_177 : decode cX10_go 177 = .ok (.iload_n 1, 1) := by decide +kernel
theorem dX10_go_178 : decode cX10_go 178 = .ok (.iconst (-1), 1) := by decide +kernel
theorem dX10_go_179 : decode cX10_go 179 = .ok (.iastore, 1) := by decide +kernel
theorem dX10_go_180 : decode cX10_go 180 = .ok (.aload_n 0, 1) := by decide +kernel
theorem dX10_go_181 : decode cX10_go 181 = .ok (.iload_n 1, 1) := by decide +kernel
theorem dX10_go_182 : decode cX10_go 182 = .ok (.iconst 1, 1) := by decide +kernel
theorem dX10_go_183 : decode cX10_go 183 = .ok (.iadd, 1) := by decide +kernel
theorem dX10_go_184 : decode cX10_go 184 = .ok (.lload_n 2, 1) := by decide +kernel
theorem dX10_go_185 : decode cX10_go 185 = .ok (.iload 4, 2) := by decide +kernel
theorem dX10_go_187 : decode cX10_go 187 = .ok (.iload 5, 2) := by decide +kernel
theorem dX10_go_189 : decode cX10_go 189 = .ok (.invokevirtual 48, 3) := by decide +kernel
theorem dX10_go_192 : decode cX10_go 192 = .ok (.return_, 1) := by decide +kernel
theorem dX11_init_0 : decode cX11_init 0 = .ok (.aload_n 0, 1) := by decide +kernel
theorem dX11_init_1 : decode cX11_init 1 = .ok (.invokespecial 3, 3) := by decide +kernel
theorem dX11_init_4 : decode cX11_init 4 = .ok (.aload_n 0, 1) := by decide +kernel
theorem dX11_init_5 : decode cX11_init 5 = .ok (.bipush 48, 2) := by decide +kernel
theorem dX11_init_7 : decode cX11_init 7 = .ok (.newarray .int, 2) := by decide +kernel
theorem dX11_init_9 : decode cX11_init 9 = .ok (.putfield 9, 3) := by decide +kernel
theorem dX11_init_12 : decode cX11_init 12 = .ok (.aload_n 0, 1) := by decide +kernel
theorem dX11_init_13 : decode cX11_init 13 = .ok (.bipush 48, 2) := by decide +kernel
theorem dX11_init_15 : decode cX11_init 15 = .ok (.newarray .int, 2) := by decide +kernel
theorem dX11_init_17 : decode cX11_init 17 = .ok (.putfield 15, 3) := by decide +kernel
theorem dX11_init_20 : decode cX11_init 20 = .ok (.aload_n 0, 1) := by decide +kernel
theorem dX11_init_21 : decode cX11_init 21 = .ok (.bipush 48, 2) := by decide +kernel
theorem dX11_init_23 : decode cX11_init 23 = .ok (.newarray .int, 2) := by decide +kernel
theorem dX11_init_25 : decode cX11_init 25 = .ok (.putfield 18, 3) := by decide +kernel
theorem dX11_init_28 : decode cX11_init 28 = .ok (.iconst 0, 1) := by decide +kernel
theorem dX11_init_29 : decode cX11_init 29 = .ok (.istore_n 3, 1) := by decide +kernel
theorem dX11_init_30 : decode cX11_init 30 = .ok (.iload_n 3, 1) := by decide +kernel
theorem dX11_init_31 : decode cX11_init 31 = .ok (.bipush 48, 2) := by decide +kernel
theorem dX11_init_33 : decode cX11_init 33 = .ok (.if_icmp .ge 22, 3) := by decide +kernel
theorem dX11_init_36 : decode cX11_init 36 = .ok (.aload_n 0, 1) := by decide +kernel
theorem dX11_init_37 : decode cX11_init 37 = .ok (.getfield 9, 3) := by decide +kernel
theorem dX11_init_40 : decode cX11_init 40 = .ok (.iload_n 3, 1) := by decide +kernel
theorem dX11_init_41 : decode cX11_init 41 = .ok (.aload_n 1, 1) := by decide +kernel
theorem dX11_init_42 : decode cX11_init 42 = .ok (.iload_n 3, 1) := by decide +kernel
theorem dX11_init_43 : decode cX11_init 43 = .ok (.iaload, 1) := by decide +kernel
theorem dX11_init_44 : decode cX11_init 44 = .ok (.aload_n 2, 1) := by decide +kernel
theorem dX11_init_45 : decode cX11_init 45 = .ok (.iload_n 3, 1) := by decide +kernel
theorem dX11_init_46 : decode cX11_init 46 = .ok (.iaload, 1) := by decide +kernel
theorem dX11_init_47 : decode cX11_init 47 = .ok (.isub, 1) := by decide +kernel
theorem dX11_init_48 : decode cX11_init 48 = .ok (.iastore, 1) := by decide +kernel
theorem dX11_init_49 : decode cX11_init 49 = .ok (.iinc 3 1, 3) := by decide +kernel
theorem dX11_init_52 : decode cX11_init 52 = .ok (.goto (-22), 3) := by decide +kernel
theorem dX11_init_55 : decode cX11_init 55 = .ok (.bipush 48, 2) := by decide +kernel
theorem dX11_init_57 : decode cX11_init 57 = .ok (.newarray .boolean, 2) := by decide +kernel
theorem dX11_init_59 : decode cX11_init 59 = .ok (.astore_n 3, 1) := by decide +kernel
theorem dX11_init_60 : decode cX11_init 60 = .ok (.bipush 48, 2) := by decide +kernel
theorem dX11_init_62 : decode cX11_init 62 = .ok (.newarray .int, 2) := by decide +kernel
theorem dX11_init_64 : decode cX11_init 64 = .ok (.astore 4, 2) := by decide +kernel
theorem dX11_init_66 : decode cX11_init 66 = .ok (.iconst 0, 1) := by decide +kernel
theorem dX11_init_67 : decode cX11_init 67 = .ok (.istore 5, 2) := by decide +kernel
theorem dX11_init_69 : decode cX11_init 69 = .ok (.iload 5, 2) := by decide +kernel
theorem dX11_init_71 : decode cX11_init 71 = .ok (.bipush 48, 2) := by decide +kernel
theorem dX11_init_73 : decode cX11_init 73 = .ok (.if_icmp .ge 34, 3) := by decide +kernel
theorem dX11_init_76 : decode cX11_init 76 = .ok (.aload_n 0, 1) := by decide +kernel
theorem dX11_init_77 : decode cX11_init 77 = .ok (.iload 5, 2) := by decide +kernel
theorem dX11_init_79 : decode cX11_init 79 = .ok (.invokevirtual 21, 3) := by decide +kernel
theorem dX11_init_82 : decode cX11_init 82 = .ok (.ifCond .eq 19, 3) := by decide +kernel
theorem dX11_init_85 : decode cX11_init 85 = .ok (.aload_n 3, 1) := by decide +kernel
theorem dX11_init_86 : decode cX11_init 86 = .ok (.iload 5, 2) := by decide +kernel
theorem dX11_init_88 : decode cX11_init 88 = .ok (.baload, 1) := by decide +kernel
theorem dX11_init_89 : decode cX11_init 89 = .ok (.ifCond .ne 12, 3) := by decide +kernel
theorem dX11_init_92 : decode cX11_init 92 = .ok (.aload_n 0, 1) := by decide +kernel
theorem dX11_init_93 : decode cX11_init 93 = .ok (.iload 5, 2) := by decide +kernel
theorem dX11_init_95 : decode cX11_init 95 = .ok (.aload_n 3, 1) := by decide +kernel
theorem dX11_init_96 : decode cX11_init 96 = .ok (.aload 4, 2) := by decide +kernel
theorem dX11_init_98 : decode cX11_init 98 = .ok (.invokevirtual 25, 3) := by decide +kernel
theorem dX11_init_101 : decode cX11_init 101 = .ok (.iinc 5 1, 3) := by decide +kernel
theorem dX11_init_104 : decode cX11_init 104 = .ok (.goto (-35), 3) := by decide +kernel
theorem dX11_init_107 : decode cX11_init 107 = .ok (.iconst 0, 1) := by decide +kernel
theorem dX11_init_108 : decode cX11_init 108 = .ok (.istore 5, 2) := by decide +kernel
theorem dX11_init_110 : decode cX11_init 110 = .ok (.iload 5, 2) := by decide +kernel
theorem dX11_init_112 : decode cX11_init 112 = .ok (.bipush 48, 2) := by decide +kernel
theorem dX11_init_114 : decode cX11_init 114 = .ok (.if_icmp .ge 36, 3) := by decide +kernel
theorem dX11_init_117 : decode cX11_init 117 = .ok (.aload_n 0, 1) := by decide +kernel
theorem dX11_init_118 : decode cX11_init 118 = .ok (.iload 5, 2) := by decide +kernel
theorem dX11_init_120 : decode cX11_init 120 = .ok (.invokevirtual 29, 3) := by decide +kernel
theorem dX11_init_123 : decode cX11_init 123 = .ok (.ifCond .eq 21, 3) := by decide +kernel
theorem dX11_init_126 : decode cX11_init 126 = .ok (.aload_n 0, 1) := by decide +kernel
theorem dX11_init_127 : decode cX11_init 127 = .ok (.getfield 18, 3) := by decide +kernel
theorem dX11_init_130 : decode cX11_init 130 = .ok (.aload_n 0, 1) := by decide +kernel
theorem dX11_init_131 : decode cX11_init 131 = .ok (.dup, 1) := by decide +kernel
theorem dX11_init_132 : decode cX11_init 132 = .ok (.getfield 32, 3) := by decide +kernel
theorem dX11_init_135 : decode cX11_init 135 = .ok (.dup_x1, 1) := by decide +kernel
theorem dX11_init_136 : decode cX11_init 136 = .ok (.iconst 1, 1) := by decide +kernel
theorem dX11_init_137 : decode cX11_init 137 = .ok (.iadd, 1) := by decide +kernel
theorem dX11_init_138 : decode cX11_init 138 = .ok (.putfield 32, 3) := by decide +kernel
theorem dX11_init_141 : decode cX11_init 141 = .ok (.iload 5, 2) := by decide +kernel
theorem dX11_init_143 : decode cX11_init 143 = .ok (.iastore, 1) := by decide +kernel
theorem dX11_init_144 : decode cX11_init 144 = .ok (.iinc 5 1, 3) := by decide +kernel
theorem dX11_init_147 : decode cX11_init 147 = .ok (.goto (-37), 3) := by decide +kernel
theorem dX11_init_150 : decode cX11_init 150 = .ok (.return_, 1) := by decide +kernel
theorem dX11_isTouched_0 : decode cX11_isTouched 0 = .ok (.aload_n 0, 1) := by decide +kernel
theorem dX11_isTouched_1 : decode cX11_isTouched 1 = .ok (.getfield 9, 3) := by decide +kernel
theorem dX11_isTouched_4 : decode cX11_isTouched 4 = .ok (.iload_n 1, 1) := by decide +kernel
theorem dX11_isTouched_5 : decode cX11_isTouched 5 = .ok (.iaload, 1) := by decide +kernel
theorem dX11_isTouched_6 : decode cX11_isTouched 6 = .ok (.bipush 20, 2) := by decide +kernel
theorem dX11_isTouched_8 : decode cX11_isTouched 8 = .ok (.if_icmp .lt 7, 3) := by decide +kernel
theorem dX11_isTouched_11 : decode cX11_isTouched 11 = .ok (.iconst 1, 1) := by decide +kernel
theorem dX11_isTouched_12 : decode cX11_isTouched 12 = .ok (.goto 4, 3) := by decide +kernel
theorem dX11_isTouched_15 : decode cX11_isTouched 15 = .ok (.iconst 0, 1) := by decide +kernel
theorem dX11_isTouched_16 : decode cX11_isTouched 16 = .ok (.ireturn, 1) := by decide +kernel
theorem dX11_isPalm_0 : decode cX11_isPalm 0 = .ok (.aload_n 0, 1) := by decide +kernel
theorem dX11_isPalm_1 : decode cX11_isPalm 1 = .ok (.getfield 15, 3) := by decide +kernel
theorem dX11_isPalm_4 : decode cX11_isPalm 4 = .ok (.iload_n 1, 1) := by decide +kernel
theorem dX11_isPalm_5 : decode cX11_isPalm 5 = .ok (.iaload, 1) := by decide +kernel
theorem dX11_isPalm_6 : decode cX11_isPalm 6 = .ok (.bipush 14, 2) := by decide +kernel
theorem dX11_isPalm_8 : decode cX11_isPalm 8 = .ok (.if_icmp .le 7, 3) := by decide +kernel
theorem dX11_isPalm_11 : decode cX11_isPalm 11 = .ok (.iconst 1, 1) := by decide +kernel
theorem dX11_isPalm_12 : decode cX11_isPalm 12 = .ok (.goto 4, 3) := by decide +kernel
theorem dX11_isPalm_15 : decode cX11_isPalm 15 = .ok (.iconst 0, 1) := by decide +kernel
theorem dX11_isPalm_16 : decode cX11_isPalm 16 = .ok (.ireturn, 1) := by decide +kernel
theorem dX11_region_0 : decode cX11_region 0 = .ok (.iconst 1, 1) := by decide +kernel
theorem dX11_region_1 : decode cX11_region 1 = .ok (.istore 4, 2) := by decide +kernel
theorem dX11_region_3 : decode cX11_region 3 = .ok (.aload_n 3, 1) := by decide +kernel
theorem dX11_region_4 : decode cX11_region 4 = .ok (.iconst 0, 1) := by decide +kernel
theorem dX11_region_5 : decode cX11_region 5 = .ok (.iload_n 1, 1) := by decide +kernel
theorem dX11_region_6 : decode cX11_region 6 = .ok (.iastore, 1) := by decide +kernel
theorem dX11_region_7 : decode cX11_region 7 = .ok (.aload_n 2, 1) := by decide +kernel
theorem dX11_region_8 : decode cX11_region 8 = .ok (.iload_n 1, 1) := by decide +kernel
theorem dX11_region_9 : decode cX11_region 9 = .ok (.iconst 1, 1) := by decide +kernel
theorem dX11_region_10 : decode cX11_region 10 = .ok (.bastore, 1) := by decide +kernel
theorem dX11_region_11 : decode cX11_region 11 = .ok (.iconst 0, 1) := by decide +kernel
theorem dX11_region_12 : decode cX11_region 12 = .ok (.istore 5, 2) := by decide +kernel
theorem dX11_region_14 : decode cX11_region 14 = .ok (.iload 5, 2) := by decide +kernel
theorem dX11_region_16 : decode cX11_region 16 = .ok (.iload 4, 2) := by decide +kernel
theorem dX11_region_18 : decode cX11_region 18 = .ok (.if_icmp .ge 91, 3) := by decide +kernel
theorem dX11_region_21 : decode cX11_region 21 = .ok (.aload_n 3, 1) := by decide +kernel
theorem dX11_region_22 : decode cX11_region 22 = .ok (.iload 5, 2) := by decide +kernel
theorem dX11_region_24 : decode cX11_region 24 = .ok (.iaload, 1) := by decide +kernel
theorem dX11_region_25 : decode cX11_region 25 = .ok (.bipush 8, 2) := by decide +kernel
theorem dX11_region_27 : decode cX11_region 27 = .ok (.irem, 1) := by decide +kernel
theorem dX11_region_28 : decode cX11_region 28 = .ok (.istore 6, 2) := by decide +kernel
theorem dX11_region_30 : decode cX11_region 30 = .ok (.aload_n 3, 1) := by decide +kernel
theorem dX11_region_31 : decode cX11_region 31 = .ok (.iload 5, 2) := by decide +kernel
theorem dX11_region_33 : decode cX11_region 33 = .ok (.iaload, 1) := by decide +kernel
theorem dX11_region_34 : decode cX11_region 34 = .ok (.bipush 8, 2) := by decide +kernel
theorem dX11_region_36 : decode cX11_region 36 = .ok (.idiv, 1) := by decide +kernel
theorem dX11_region_37 : decode cX11_region 37 = .ok (.istore 7, 2) := by decide +kernel
theorem dX11_region_39 : decode cX11_region 39 = .ok (.aload_n 0, 1) := by decide +kernel
theorem dX11_region_40 : decode cX11_region 40 = .ok (.iload 6, 2) := by decide +kernel
theorem dX11_region_42 : decode cX11_region 42 = .ok (.iconst 1, 1) := by decide +kernel
theorem dX11_region_43 : decode cX11_region 43 = .ok (.isub, 1) := by decide +kernel
theorem dX11_region_44 : decode cX11_region 44 = .ok (.iload 7, 2) := by decide +kernel
theorem dX11_region_46 : decode cX11_region 46 = .ok (.aload_n 2, 1) := by decide +kernel
theorem dX11_region_47 : decode cX11_region 47 = .ok (.aload_n 3, 1) := by decide +kernel
theorem dX11_region_48 : decode cX11_region 48 = .ok (.iload 4, 2) := by decide +kernel
theorem dX11_region_50 : decode cX11_region 50 = .ok (.invokevirtual 36, 3) := by decide +kernel
theorem dX11_region_53 : decode cX11_region 53 = .ok (.istore 4, 2) := by decide +kernel
theorem dX11_region_55 : decode cX11_region 55 = .ok (.aload_n 0, 1) := by decide +kernel
theorem dX11_region_56 : decode cX11_region 56 = .ok (.iload 6, 2) := by decide +kernel
theorem dX11_region_58 : decode cX11_region 58 = .ok (.iconst 1, 1) := by decide +kernel
theorem dX11_region_59 : decode cX11_region 59 = .ok (.iadd, 1) := by decide +kernel
theorem dX11_region_60 : decode cX11_region 60 = .ok (.iload 7, 2) := by decide +kernel
theorem dX11_region_62 : decode cX11_region 62 = .ok (.aload_n 2, 1) := by decide +kernel
theorem dX11_region_63 : decode cX11_region 63 = .ok (.aload_n 3, 1) := by decide +kernel
theorem dX11_region_64 : decode cX11_region 64 = .ok (.iload 4, 2) := by decide +kernel
theorem dX11_region_66 : decode cX11_region 66 = .ok (.invokevirtual 36, 3) := by decide +kernel
theorem dX11_region_69 : decode cX11_region 69 = .ok (.istore 4, 2) := by decide +kernel
theorem dX11_region_71 : decode cX11_region 71 = .ok (.aload_n 0, 1) := by decide +kernel
theorem dX11_region_72 : decode cX11_region 72 = .ok (.iload 6, 2) := by decide +kernel
theorem dX11_region_74 : decode cX11_region 74 = .ok (.iload 7, 2) := by decide +kernel
theorem dX11_region_76 : decode cX11_region 76 = .ok (.iconst 1, 1) := by decide +kernel
theorem dX11_region_77 : decode cX11_region 77 = .ok (.isub, 1) := by decide +kernel
theorem dX11_region_78 : decode cX11_region 78 = .ok (.aload_n 2, 1) := by decide +kernel
theorem dX11_region_79 : decode cX11_region 79 = .ok (.aload_n 3, 1) := by decide +kernel
theorem dX11_region_80 : decode cX11_region 80 = .ok (.iload 4, 2) := by decide +kernel
theorem dX11_region_82 : decode cX11_region 82 = .ok (.invokevirtual 36, 3) := by decide +kernel
theorem dX11_region_85 : decode cX11_region 85 = .ok (.istore 4, 2) := by decide +kernel
theorem dX11_region_87 : decode cX11_region 87 = .ok (.aload_n 0, 1) := by decide +kernel
theorem dX11_region_88 : decode cX11_region 88 = .ok (.iload 6, 2) := by decide +kernel
theorem dX11_region_90 : decode cX11_region 90 = .ok (.iload 7, 2) := by decide +kernel
theorem dX11_region_92 : decode cX11_region 92 = .ok (.iconst 1, 1) := by decide +kernel
theorem dX11_region_93 : decode cX11_region 93 = .ok (.iadd, 1) := by decide +kernel
theorem dX11_region_94 : decode cX11_region 94 = .ok (.aload_n 2, 1) := by decide +kernel
theorem dX11_region_95 : decode cX11_region 95 = .ok (.aload_n 3, 1) := by decide +kernel
theorem dX11_region_96 : decode cX11_region 96 = .ok (.iload 4, 2) := by decide +kernel
theorem dX11_region_98 : decode cX11_region 98 = .ok (.invokevirtual 36, 3) := by decide +kernel
theorem dX11_region_101 : decode cX11_region 101 = .ok (.istore 4, 2) := by decide +kernel
theorem dX11_region_103 : decode cX11_region 103 = .ok (.iinc 5 1, 3) := by decide +kernel
theorem dX11_region_106 : decode cX11_region 106 = .ok (.goto (-92), 3) := by decide +kernel
theorem dX11_region_109 : decode cX11_region 109 = .ok (.iconst 0, 1) := by decide +kernel
theorem dX11_region_110 : decode cX11_region 110 = .ok (.istore 5, 2) := by decide +kernel
theorem dX11_region_112 : decode cX11_region 112 = .ok (.iload 5, 2) := by decide +kernel
theorem dX11_region_114 : decode cX11_region 114 = .ok (.iload 4, 2) := by decide +kernel
theorem dX11_region_116 : decode cX11_region 116 = .ok (.if_icmp .ge 20, 3) := by decide +kernel
theorem dX11_region_119 : decode cX11_region 119 = .ok (.aload_n 0, 1) := by decide +kernel
theorem dX11_region_120 : decode cX11_region 120 = .ok (.getfield 15, 3) := by decide +kernel
theorem dX11_region_123 : decode cX11_region 123 = .ok (.aload_n 3, 1) := by decide +kernel
theorem dX11_region_124 : decode cX11_region 124 = .ok (.iload 5, 2) := by decide +kernel
theorem dX11_region_126 : decode cX11_region 126 = .ok (.iaload, 1) := by decide +kernel
theorem dX11_region_127 : decode cX11_region 127 = .ok (.iload 4, 2) := by decide +kernel
theorem dX11_region_129 : decode cX11_region 129 = .ok (.iastore, 1) := by decide +kernel
theorem dX11_region_130 : decode cX11_region 130 = .ok (.iinc 5 1, 3) := by decide +kernel
theorem dX11_region_133 : decode cX11_region 133 = .ok (.goto (-21), 3) := by decide +kernel
theorem dX11_region_136 : decode cX11_region 136 = .ok (.return_, 1) := by decide +kernel
theorem dX11_spread_0 : decode cX11_spread 0 = .ok (.iload_n 1, 1) := by decide +kernel
theorem dX11_spread_1 : decode cX11_spread 1 = .ok (.iload_n 2, 1) := by decide +kernel
theorem dX11_spread_2 : decode cX11_spread 2 = .ok (.invokestatic 40, 3) := by decide +kernel
theorem dX11_spread_5 : decode cX11_spread 5 = .ok (.ifCond .eq 25, 3) := by decide +kernel
theorem dX11_spread_8 : decode cX11_spread 8 = .ok (.aload_n 3, 1) := by decide +kernel
theorem dX11_spread_9 : decode cX11_spread 9 = .ok (.iload_n 1, 1) := by decide +kernel
theorem dX11_spread_10 : decode cX11_spread 10 = .ok (.iload_n 2, 1) := by decide +kernel
theorem dX11_spread_11 : decode cX11_spread 11 = .ok (.invokestatic 44, 3) := by decide +kernel
theorem dX11_spread_14 : decode cX11_spread 14 = .ok (.baload, 1) := by decide +kernel
theorem dX11_spread_15 : decode cX11_spread 15 = .ok (.ifCond .ne 15, 3) := by decide +kernel
theorem dX11_spread_18 : decode cX11_spread 18 = .ok (.aload_n 0, 1) := by decide +kernel
theorem dX11_spread_19 : decode cX11_spread 19 = .ok (.iload_n 1, 1) := by decide +kernel
theorem dX11_spread_20 : decode cX11_spread 20 = .ok (.iload_n 2, 1) := by decide +kernel
theorem dX11_spread_21 : decode cX11_spread 21 = .ok (.invokestatic 44, 3) := by decide +kernel
theorem dX11_spread_24 : decode cX11_spread 24 = .ok (.invokevirtual 21, 3) := by decide +kernel
theorem dX11_spread_27 : decode cX11_spread 27 = .ok (.ifCond .ne 6, 3) := by decide +kernel
theorem dX11_spread_30 : decode cX11_spread 30 = .ok (.iload 5, 2) := by decide +kernel
theorem dX11_spread_32 : decode cX11_spread 32 = .ok (.ireturn, 1) := by decide +kernel
theorem dX11_spread_33 : decode cX11_spread 33 = .ok (.aload_n 3, 1) := by decide +kernel
theorem dX11_spread_34 : decode cX11_spread 34 = .ok (.iload_n 1, 1) := by decide +kernel
theorem dX11_spread_35 : decode cX11_spread 35 = .ok (.iload_n 2, 1) := by decide +kernel
theorem dX11_spread_36 : decode cX11_spread 36 = .ok (.invokestatic 44, 3) := by decide +kernel
theorem dX11_spread_39 : decode cX11_spread 39 = .ok (.iconst 1, 1) := by decide +kernel
theorem dX11_spread_40 : decode cX11_spread 40 = .ok (.bastore, 1) := by decide +kernel
theorem dX11_spread_41 : decode cX11_spread 41 = .ok (.aload 4, 2) := by decide +kernel
theorem dX11_spread_43 : decode cX11_spread 43 = .ok (.iload 5, 2) := by decide +kernel
theorem dX11_spread_45 : decode cX11_spread 45 = .ok (.iload_n 1, 1) := by decide +kernel
theorem dX11_spread_46 : decode cX11_spread 46 = .ok (.iload_n 2, 1) := by decide +kernel
theorem dX11_spread_47 : decode cX11_spread 47 = .ok (.invokestatic 44, 3) := by decide +kernel
theorem dX11_spread_50 : decode cX11_spread 50 = .ok (.iastore, 1) := by decide +kernel
theorem dX11_spread_51 : decode cX11_spread 51 = .ok (.iload 5, 2) := by decide +kernel
theorem dX11_spread_53 : decode cX11_spread 53 = .ok (.iconst 1, 1) := by decide +kernel
theorem dX11_spread_54 : decode cX11_spread 54 = .ok (.iadd, 1) := by decide +kernel
theorem dX11_spread_55 : decode cX11_spread 55 = .ok (.ireturn, 1) := by decide +kernel
theorem dX11_isPeak_0 : decode cX11_isPeak 0 = .ok (.aload_n 0, 1) := by decide +kernel
theorem dX11_isPeak_1 : decode cX11_isPeak 1 = .ok (.iload_n 1, 1) := by decide +kernel
theorem dX11_isPeak_2 : decode cX11_isPeak 2 = .ok (.invokevirtual 21, 3) := by decide +kernel
theorem dX11_isPeak_5 : decode cX11_isPeak 5 = .ok (.ifCond .ne 5, 3) := by decide +kernel
theorem dX11_isPeak_8 : decode cX11_isPeak 8 = .ok (.iconst 0, 1) := by decide +kernel
theorem dX11_isPeak_9 : decode cX11_isPeak 9 = .ok (.ireturn, 1) := by decide +kernel
theorem dX11_isPeak_10 : decode cX11_isPeak 10 = .ok (.iload_n 1, 1) := by decide +kernel
theorem dX11_isPeak_11 : decode cX11_isPeak 11 = .ok (.bipush 8, 2) := by decide +kernel
theorem dX11_isPeak_13 : decode cX11_isPeak 13 = .ok (.irem, 1) := by decide +kernel
theorem dX11_isPeak_14 : decode cX11_isPeak 14 = .ok (.istore_n 2, 1) := by decide +kernel
theorem dX11_isPeak_15 : decode cX11_isPeak 15 = .ok (.iload_n 1, 1) := by decide +kernel
theorem dX11_isPeak_16 : decode cX11_isPeak 16 = .ok (.bipush 8, 2) := by decide +kernel
theorem dX11_isPeak_18 : decode cX11_isPeak 18 = .ok (.idiv, 1) := by decide +kernel
theorem dX11_isPeak_19 : decode cX11_isPeak 19 = .ok (.istore_n 3, 1) := by decide +kernel
theorem dX11_isPeak_20 : decode cX11_isPeak 20 = .ok (.iload_n 2, 1) := by decide +kernel
theorem dX11_isPeak_21 : decode cX11_isPeak 21 = .ok (.iconst 1, 1) := by decide +kernel
theorem dX11_isPeak_22 : decode cX11_isPeak 22 = .ok (.isub, 1) := by decide +kernel
theorem dX11_isPeak_23 : decode cX11_isPeak 23 = .ok (.istore 4, 2) := by decide +kernel
theorem dX11_isPeak_25 : decode cX11_isPeak 25 = .ok (.iload 4, 2) := by decide +kernel
theorem dX11_isPeak_27 : decode cX11_isPeak 27 = .ok (.iload_n 2, 1) := by decide +kernel
theorem dX11_isPeak_28 : decode cX11_isPeak 28 = .ok (.iconst 1, 1) := by decide +kernel
theorem dX11_isPeak_29 : decode cX11_isPeak 29 = .ok (.iadd, 1) := by decide +kernel
theorem dX11_isPeak_30 : decode cX11_isPeak 30 = .ok (.if_icmp .gt 101, 3) := by decide +kernel
theorem dX11_isPeak_33 : decode cX11_isPeak 33 = .ok (.iload_n 3, 1) := by decide +kernel
theorem dX11_isPeak_34 : decode cX11_isPeak 34 = .ok (.iconst 1, 1) := by decide +kernel
theorem dX11_isPeak_35 : decode cX11_isPeak 35 = .ok (.isub, 1) := by decide +kernel
theorem dX11_isPeak_36 : decode cX11_isPeak 36 = .ok (.istore 5, 2) := by decide +kernel
theorem dX11_isPeak_38 : decode cX11_isPeak 38 = .ok (.iload 5, 2) := by decide +kernel
theorem dX11_isPeak_40 : decode cX11_isPeak 40 = .ok (.iload_n 3, 1) := by decide +kernel
theorem dX11_isPeak_41 : decode cX11_isPeak 41 = .ok (.iconst 1, 1) := by decide +kernel
theorem dX11_isPeak_42 : decode cX11_isPeak 42 = .ok (.iadd, 1) := by decide +kernel
theorem dX11_isPeak_43 : decode cX11_isPeak 43 = .ok (.if_icmp .gt 82, 3) := by decide +kernel
theorem dX11_isPeak_46 : decode cX11_isPeak 46 = .ok (.iload 4, 2) := by decide +kernel
theorem dX11_isPeak_48 : decode cX11_isPeak 48 = .ok (.iload 5, 2) := by decide +kernel
theorem dX11_isPeak_50 : decode cX11_isPeak 50 = .ok (.invokestatic 40, 3) := by decide +kernel
theorem dX11_isPeak_53 : decode cX11_isPeak 53 = .ok (.ifCond .eq 66, 3) := by decide +kernel
theorem dX11_isPeak_56 : decode cX11_isPeak 56 = .ok (.iload 4, 2) := by decide +kernel
theorem dX11_isPeak_58 : decode cX11_isPeak 58 = .ok (.iload 5, 2) := by decide +kernel
theorem dX11_isPeak_60 : decode cX11_isPeak 60 = .ok (.invokestatic 44, 3) := by decide +kernel
theorem dX11_isPeak_63 : decode cX11_isPeak 63 = .ok (.iload_n 1, 1) := by decide +kernel
theorem dX11_isPeak_64 : decode cX11_isPeak 64 = .ok (.if_icmp .ne 6, 3) := by decide +kernel
theorem dX11_isPeak_67 : decode cX11_isPeak 67 = .ok (.goto 52, 3) := by decide +kernel
theorem dX11_isPeak_70 : decode cX11_isPeak 70 = .ok (.iload 4, 2) := by decide +kernel
theorem dX11_isPeak_72 : decode cX11_isPeak 72 = .ok (.iload 5, 2) := by decide +kernel
theorem dX11_isPeak_74 : decode cX11_isPeak 74 = .ok (.invokestatic 44, 3) := by decide +kernel
theorem dX11_isPeak_77 : decode cX11_isPeak 77 = .ok (.istore 6, 2) := by decide +kernel
theorem dX11_isPeak_79 : decode cX11_isPeak 79 = .ok (.aload_n 0, 1) := by decide +kernel
theorem dX11_isPeak_80 : decode cX11_isPeak 80 = .ok (.getfield 9, 3) := by decide +kernel
theorem dX11_isPeak_83 : decode cX11_isPeak 83 = .ok (.iload 6, 2) := by decide +kernel
theorem dX11_isPeak_85 : decode cX11_isPeak 85 = .ok (.iaload, 1) := by decide +kernel
theorem dX11_isPeak_86 : decode cX11_isPeak 86 = .ok (.aload_n 0, 1) := by decide +kernel
theorem dX11_isPeak_87 : decode cX11_isPeak 87 = .ok (.getfield 9, 3) := by decide +kernel
theorem dX11_isPeak_90 : decode cX11_isPeak 90 = .ok (.iload_n 1, 1) := by decide +kernel
theorem dX11_isPeak_91 : decode cX11_isPeak 91 = .ok (.iaload, 1) := by decide +kernel
theorem dX11_isPeak_92 : decode cX11_isPeak 92 = .ok (.if_icmp .gt 25, 3) := by decide +kernel
theorem dX11_isPeak_95 : decode cX11_isPeak 95 = .ok (.aload_n 0, 1) := by decide +kernel
theorem dX11_isPeak_96 : decode cX11_isPeak 96 = .ok (.getfield 9, 3) := by decide +kernel
theorem dX11_isPeak_99 : decode cX11_isPeak 99 = .ok (.iload 6, 2) := by decide +kernel
theorem dX11_isPeak_101 : decode cX11_isPeak 101 = .ok (.iaload, 1) := by decide +kernel
theorem dX11_isPeak_102 : decode cX11_isPeak 102 = .ok (.aload_n 0, 1) := by decide +kernel
theorem dX11_isPeak_103 : decode cX11_isPeak 103 = .ok (.getfield 9, 3) := by decide +kernel
theorem dX11_isPeak_106 : decode cX11_isPeak 106 = .ok (.iload_n 1, 1) := by decide +kernel
theorem dX11_isPeak_107 : decode cX11_isPeak 107 = .ok (.iaload, 1) := by decide +kernel
theorem dX11_isPeak_108 : decode cX11_isPeak 108 = .ok (.if_icmp .ne 11, 3) := by decide +kernel
theorem dX11_isPeak_111 : decode cX11_isPeak 111 = .ok (.iload 6, 2) := by decide +kernel
theorem dX11_isPeak_113 : decode cX11_isPeak 113 = .ok (.iload_n 1, 1) := by decide +kernel
theorem dX11_isPeak_114 : decode cX11_isPeak 114 = .ok (.if_icmp .ge 5, 3) := by decide +kernel
theorem dX11_isPeak_117 : decode cX11_isPeak 117 = .ok (.iconst 0, 1) := by decide +kernel
theorem dX11_isPeak_118 : decode cX11_isPeak 118 = .ok (.ireturn, 1) := by decide +kernel
theorem dX11_isPeak_119 : decode cX11_isPeak 119 = .ok (.iinc 5 1, 3) := by decide +kernel
theorem dX11_isPeak_122 : decode cX11_isPeak 122 = .ok (.goto (-84), 3) := by decide +kernel
theorem dX11_isPeak_125 : decode cX11_isPeak 125 = .ok (.iinc 4 1, 3) := by decide +kernel
theorem dX11_isPeak_128 : decode cX11_isPeak 128 = .ok (.goto (-103), 3) := by decide +kernel
theorem dX11_isPeak_131 : decode cX11_isPeak 131 = .ok (.iconst 1, 1) := by decide +kernel
theorem dX11_isPeak_132 : decode cX11_isPeak 132 = .ok (.ireturn, 1) := by decide +kernel
theorem dX11_place_0 : decode cX11_place 0 = .ok (.iconst 0, 1) := by decide +kernel
theorem dX11_place_1 : decode cX11_place 1 = .ok (.istore_n 3, 1) := by decide +kernel
theorem dX11_place_2 : decode cX11_place 2 = .ok (.iconst 0, 1) := by decide +kernel
theorem dX11_place_3 : decode cX11_place 3 = .ok (.istore 4, 2) := by decide +kernel
theorem dX11_place_5 : decode cX11_place 5 = .ok (.iload_n 1, 1) := by decide +kernel
theorem dX11_place_6 : decode cX11_place 6 = .ok (.bipush 8, 2) := by decide +kernel
theorem dX11_place_8 : decode cX11_place 8 = .ok (.irem, 1) := by decide +kernel
theorem dX11_place_9 : decode cX11_place 9 = .ok (.iconst 1, 1) := by decide +kernel
theorem dX11_place_10 : decode cX11_place 10 = .ok (.isub, 1) := by decide +kernel
theorem dX11_place_11 : decode cX11_place 11 = .ok (.istore 5, 2) := by decide +kernel
theorem dX11_place_13 : decode cX11_place 13 = .ok (.iload 5, 2) := by decide +kernel
theorem dX11_place_15 : decode cX11_place 15 = .ok (.iload_n 1, 1) := by decide +kernel
theorem dX11_place_16 : decode cX11_place 16 = .ok (.bipush 8, 2) := by decide +kernel
theorem dX11_place_18 : decode cX11_place 18 = .ok (.irem, 1) := by decide +kernel
theorem dX11_place_19 : decode cX11_place 19 = .ok (.iconst 1, 1) := by decide +kernel
theorem dX11_place_20 : decode cX11_place 20 = .ok (.iadd, 1) := by decide +kernel
theorem dX11_place_21 : decode cX11_place 21 = .ok (.if_icmp .gt 109, 3) := by decide +kernel
theorem dX11_place_24 : decode cX11_place 24 = .ok (.iload_n 1, 1) := by decide +kernel
theorem dX11_place_25 : decode cX11_place 25 = .ok (.bipush 8, 2) := by decide +kernel
theorem dX11_place_27 : decode cX11_place 27 = .ok (.idiv, 1) := by decide +kernel
theorem dX11_place_28 : decode cX11_place 28 = .ok (.iconst 1, 1) := by decide +kernel
theorem dX11_place_29 : decode cX11_place 29 = .ok (.isub, 1) := by decide +kernel
theorem dX11_place_30 : decode cX11_place 30 = .ok (.istore 6, 2) := by decide +kernel
theorem dX11_place_32 : decode cX11_place 32 = .ok (.iload 6, 2) := by decide +kernel
theorem dX11_place_34 : decode cX11_place 34 = .ok (.iload_n 1, 1) := by decide +kernel
theorem dX11_place_35 : decode cX11_place 35 = .ok (.bipush 8, 2) := by decide +kernel
theorem dX11_place_37 : decode cX11_place 37 = .ok (.idiv, 1) := by decide +kernel
theorem dX11_place_38 : decode cX11_place 38 = .ok (.iconst 1, 1) := by decide +kernel
theorem dX11_place_39 : decode cX11_place 39 = .ok (.iadd, 1) := by decide +kernel
theorem dX11_place_40 : decode cX11_place 40 = .ok (.if_icmp .gt 84, 3) := by decide +kernel
theorem dX11_place_43 : decode cX11_place 43 = .ok (.iload 5, 2) := by decide +kernel
theorem dX11_place_45 : decode cX11_place 45 = .ok (.iload 6, 2) := by decide +kernel
theorem dX11_place_47 : decode cX11_place 47 = .ok (.invokestatic 40, 3) := by decide +kernel
theorem dX11_place_50 : decode cX11_place 50 = .ok (.ifCond .eq 68, 3) := by decide +kernel
theorem dX11_place_53 : decode cX11_place 53 = .ok (.aload_n 0, 1) := by decide +kernel
theorem dX11_place_54 : decode cX11_place 54 = .ok (.getfield 9, 3) := by decide +kernel
theorem dX11_place_57 : decode cX11_place 57 = .ok (.iload 5, 2) := by decide +kernel
theorem dX11_place_59 : decode cX11_place 59 = .ok (.iload 6, 2) := by decide +kernel
theorem dX11_place_61 : decode cX11_place 61 = .ok (.invokestatic 44, 3) := by decide +kernel
theorem dX11_place_64 : decode cX11_place 64 = .ok (.iaload, 1) := by decide +kernel
theorem dX11_place_65 : decode cX11_place 65 = .ok (.ifCond .gt 6, 3) := by decide +kernel
theorem dX11_place_68 : decode cX11_place 68 = .ok (.goto 50, 3) := by decide +kernel
theorem dX11_place_71 : decode cX11_place 71 = .ok (.iload_n 3, 1) := by decide +kernel
theorem dX11_place_72 : decode cX11_place 72 = .ok (.bipush 16, 2) := by decide +kernel
theorem dX11_place_74 : decode cX11_place 74 = .ok (.aload_n 0, 1) := by decide +kernel
theorem dX11_place_75 : decode cX11_place 75 = .ok (.getfield 9, 3) := by decide +kernel
theorem dX11_place_78 : decode cX11_place 78 = .ok (.iload 5, 2) := by decide +kernel
theorem dX11_place_80 : decode cX11_place 80 = .ok (.iload 6, 2) := by decide +kernel
theorem dX11_place_82 : decode cX11_place 82 = .ok (.invokestatic 44, 3) := by decide +kernel
theorem dX11_place_85 : decode cX11_place 85 = .ok (.iaload, 1) := by decide +kernel
theorem dX11_place_86 : decode cX11_place 86 = .ok (.imul, 1) := by decide +kernel
theorem dX11_place_87 : decode cX11_place 87 = .ok (.iload_n 2, 1) := by decide +kernel
theorem dX11_place_88 : decode cX11_place 88 = .ok (.ifCond .eq 8, 3) := by decide +kernel
theorem dX11_place_91 : decode cX11_place 91 = .ok (.iload 6, 2) := by decide +kernel
theorem dX11_place_93 : decode cX11_place 93 = .ok (.goto 5, 3) := by decide +kernel
theorem dX11_place_96 : decode cX11_place 96 = .ok (.iload 5, 2) := by decide +kernel
theorem dX11_place_98 : decode cX11_place 98 = .ok (.imul, 1) := by decide +kernel
theorem dX11_place_99 : decode cX11_place 99 = .ok (.iadd, 1) := by decide +kernel
theorem dX11_place_100 : decode cX11_place 100 = .ok (.istore_n 3, 1) := by decide +kernel
theorem dX11_place_101 : decode cX11_place 101 = .ok (.iload 4, 2) := by decide +kernel
theorem dX11_place_103 : decode cX11_place 103 = .ok (.aload_n 0, 1) := by decide +kernel
theorem dX11_place_104 : decode cX11_place 104 = .ok (.getfield 9, 3) := by decide +kernel
theorem dX11_place_107 : decode cX11_place 107 = .ok (.iload 5, 2) := by decide +kernel
theorem dX11_place_109 : decode cX11_place 109 = .ok (.iload 6, 2) := by decide +kernel
theorem dX11_place_111 : decode cX11_place 111 = .ok (.invokestatic 44, 3) := by decide +kernel
theorem dX11_place_114 : decode cX11_place 114 = .ok (.iaload, 1) := by decide +kernel
theorem dX11_place_115 : decode cX11_place 115 = .ok (.iadd, 1) := by decide +kernel
theorem dX11_place_116 : decode cX11_place 116 = .ok (.istore 4, 2) := by decide +kernel
theorem dX11_place_118 : decode cX11_place 118 = .ok (.iinc 6 1, 3) := by decide +kernel
theorem dX11_place_121 : decode cX11_place 121 = .ok (.goto (-89), 3) := by decide +kernel
theorem dX11_place_124 : decode cX11_place 124 = .ok (.iinc 5 1, 3) := by decide +kernel
theorem dX11_place_127 : decode cX11_place 127 = .ok (.goto (-114), 3) := by decide +kernel
theorem dX11_place_130 : decode cX11_place 130 = .ok (.iload_n 3, 1) := by decide +kernel
theorem dX11_place_131 : decode cX11_place 131 = .ok (.iload 4, 2) := by decide +kernel
theorem dX11_place_133 : decode cX11_place 133 = .ok (.iadd, 1) := by decide +kernel
theorem dX11_place_134 : decode cX11_place 134 = .ok (.iconst 2, 1) := by decide +kernel
theorem dX11_place_135 : decode cX11_place 135 = .ok (.iload 4, 2) := by decide +kernel
theorem dX11_place_137 : decode cX11_place 137 = .ok (.imul, 1) := by decide +kernel
theorem dX11_place_138 : decode cX11_place 138 = .ok (.idiv, 1) := by decide +kernel
theorem dX11_place_139 : decode cX11_place 139 = .ok (.ireturn, 1) := by decide +kernel
theorem dX11_hum_0 : decode cX11_hum 0 = .ok (.iconst 0, 1) := by decide +kernel
theorem dX11_hum_1 : decode cX11_hum 1 = .ok (.istore_n 1, 1) := by decide +kernel
theorem dX11_hum_2 : decode cX11_hum 2 = .ok (.iconst 0, 1) := by decide +kernel
theorem dX11_hum_3 : decode cX11_hum 3 = .ok (.istore_n 2, 1) := by decide +kernel
theorem dX11_hum_4 : decode cX11_hum 4 = .ok (.iconst 0, 1) := by decide +kernel
theorem dX11_hum_5 : decode cX11_hum 5 = .ok (.istore_n 3, 1) := by decide +kernel
theorem dX11_hum_6 : decode cX11_hum 6 = .ok (.iload_n 3, 1) := by decide +kernel
theorem dX11_hum_7 : decode cX11_hum 7 = .ok (.bipush 48, 2) := by decide +kernel
theorem dX11_hum_9 : decode cX11_hum 9 = .ok (.if_icmp .ge 32, 3) := by decide +kernel
theorem dX11_hum_12 : decode cX11_hum 12 = .ok (.aload_n 0, 1) := by decide +kernel
theorem dX11_hum_13 : decode cX11_hum 13 = .ok (.iload_n 3, 1) := by decide +kernel
theorem dX11_hum_14 : decode cX11_hum 14 = .ok (.invokevirtual 21, 3) := by decide +kernel
theorem dX11_hum_17 : decode cX11_hum 17 = .ok (.ifCond .ne 18, 3) := by decide +kernel
theorem dX11_hum_20 : decode cX11_hum 20 = .ok (.iload_n 1, 1) := by decide +kernel
theorem dX11_hum_21 : decode cX11_hum 21 = .ok (.aload_n 0, 1) := by decide +kernel
theorem dX11_hum_22 : decode cX11_hum 22 = .ok (.getfield 9, 3) := by decide +kernel
theorem dX11_hum_25 : decode cX11_hum 25 = .ok (.iload_n 3, 1) := by decide +kernel
theorem dX11_hum_26 : decode cX11_hum 26 = .ok (.iaload, 1) := by decide +kernel
theorem dX11_hum_27 : decode cX11_hum 27 = .ok (.invokestatic 48, 3) := by decide +kernel
theorem dX11_hum_30 : decode cX11_hum 30 = .ok (.iadd, 1) := by decide +kernel
theorem dX11_hum_31 : decode cX11_hum 31 = .ok (.istore_n 1, 1) := by decide +kernel
theorem dX11_hum_32 : decode cX11_hum 32 = .ok (.iinc 2 1, 3) := by decide +kernel
theorem dX11_hum_35 : decode cX11_hum 35 = .ok (.iinc 3 1, 3) := by decide +kernel
theorem dX11_hum_38 : decode cX11_hum 38 = .ok (.goto (-32), 3) := by decide +kernel
theorem dX11_hum_41 : decode cX11_hum 41 = .ok (.iload_n 2, 1) := by decide +kernel
theorem dX11_hum_42 : decode cX11_hum 42 = .ok (.ifCond .ne 7, 3) := by decide +kernel
theorem dX11_hum_45 : decode cX11_hum 45 = .ok (.iconst 0, 1) := by decide +kernel
theorem dX11_hum_46 : decode cX11_hum 46 = .ok (.goto 6, 3) := by decide +kernel
theorem dX11_hum_49 : decode cX11_hum 49 = .ok (.iload_n 1, 1) := by decide +kernel
theorem dX11_hum_50 : decode cX11_hum 50 = .ok (.iload_n 2, 1) := by decide +kernel
theorem dX11_hum_51 : decode cX11_hum 51 = .ok (.idiv, 1) := by decide +kernel
theorem dX11_hum_52 : decode cX11_hum 52 = .ok (.ireturn, 1) := by decide +kernel
theorem dX11_drift_0 : decode cX11_drift 0 = .ok (.aload_n 0, 1) := by decide +kernel
theorem dX11_drift_1 : decode cX11_drift 1 = .ok (.iload_n 1, 1) := by decide +kernel
theorem dX11_drift_2 : decode cX11_drift 2 = .ok (.invokevirtual 21, 3) := by decide +kernel
theorem dX11_drift_5 : decode cX11_drift 5 = .ok (.ifCond .eq 13, 3) := by decide +kernel
theorem dX11_drift_8 : decode cX11_drift 8 = .ok (.aload_n 0, 1) := by decide +kernel
theorem dX11_drift_9 : decode cX11_drift 9 = .ok (.iload_n 1, 1) := by decide +kernel
theorem dX11_drift_10 : decode cX11_drift 10 = .ok (.invokevirtual 54, 3) := by decide +kernel
theorem dX11_drift_13 : decode cX11_drift 13 = .ok (.ifCond .ne 5, 3) := by decide +kernel
theorem dX11_drift_16 : decode cX11_drift 16 = .ok (.iconst 0, 1) := by decide +kernel
theorem dX11_drift_17 : decode cX11_drift 17 = .ok (.ireturn, 1) := by decide +kernel
theorem dX11_drift_18 : decode cX11_drift 18 = .ok (.aload_n 0, 1) := by decide +kernel
theorem dX11_drift_19 : decode cX11_drift 19 = .ok (.getfield 9, 3) := by decide +kernel
theorem dX11_drift_22 : decode cX11_drift 22 = .ok (.iload_n 1, 1) := by decide +kernel
theorem dX11_drift_23 : decode cX11_drift 23 = .ok (.iaload, 1) := by decide +kernel
theorem dX11_drift_24 : decode cX11_drift 24 = .ok (.bipush (-10), 2) := by decide +kernel
theorem dX11_drift_26 : decode cX11_drift 26 = .ok (.if_icmp .gt 8, 3) := by decide +kernel
theorem dX11_drift_29 : decode cX11_drift 29 = .ok (.bipush (-4), 2) := by decide +kernel
theorem dX11_drift_31 : decode cX11_drift 31 = .ok (.goto 27, 3) := by decide +kernel
theorem dX11_drift_34 : decode cX11_drift 34 = .ok (.aload_n 0, 1) := by decide +kernel
theorem dX11_drift_35 : decode cX11_drift 35 = .ok (.getfield 9, 3) := by decide +kernel
theorem dX11_drift_38 : decode cX11_drift 38 = .ok (.iload_n 1, 1) := by decide +kernel
theorem dX11_drift_39 : decode cX11_drift 39 = .ok (.iaload, 1) := by decide +kernel
theorem dX11_drift_40 : decode cX11_drift 40 = .ok (.bipush 10, 2) := by decide +kernel
theorem dX11_drift_42 : decode cX11_drift 42 = .ok (.if_icmp .lt 7, 3) := by decide +kernel
theorem dX11_drift_45 : decode cX11_drift 45 = .ok (.iconst 4, 1) := by decide +kernel
theorem dX11_drift_46 : decode cX11_drift 46 = .ok (.goto 12, 3) := by decide +kernel
theorem dX11_drift_49 : decode cX11_drift 49 = .ok (.aload_n 0, 1) := by decide +kernel
theorem dX11_drift_50 : decode cX11_drift 50 = .ok (.getfield 9, 3) := by decide +kernel
theorem dX11_drift_53 : decode cX11_drift 53 = .ok (.iload_n 1, 1) := by decide +kernel
theorem dX11_drift_54 : decode cX11_drift 54 = .ok (.iaload, 1) := by decide +kernel
theorem dX11_drift_55 : decode cX11_drift 55 = .ok (.invokestatic 57, 3) := by decide +kernel
theorem dX11_drift_58 : decode cX11_drift 58 = .ok (.ireturn, 1) := by decide +kernel
theorem dX12_isIn_0 : decode cX12_isIn 0 = .ok (.iload_n 0, 1) := by decide +kernel
theorem dX12_isIn_1 : decode cX12_isIn 1 = .ok (.iload_n 1, 1) := by decide +kernel
theorem dX12_isIn_2 : decode cX12_isIn 2 = .ok (.if_icmp .lt 12, 3) := by decide +kernel
theorem dX12_isIn_5 : decode cX12_isIn 5 = .ok (.iload_n 0, 1) := by decide +kernel
theorem dX12_isIn_6 : decode cX12_isIn 6 = .ok (.iload_n 2, 1) := by decide +kernel
theorem dX12_isIn_7 : decode cX12_isIn 7 = .ok (.if_icmp .gt 7, 3) := by decide +kernel
theorem dX12_isIn_10 : decode cX12_isIn 10 = .ok (.iconst 1, 1) := by decide +kernel
theorem dX12_isIn_11 : decode cX12_isIn 11 = .ok (.goto 4, 3) := by decide +kernel
theorem dX12_isIn_14 : decode cX12_isIn 14 = .ok (.iconst 0, 1) := by decide +kernel
theorem dX12_isIn_15 : decode cX12_isIn 15 = .ok (.ireturn, 1) := by decide +kernel
theorem dX12_cell_0 : decode cX12_cell 0 = .ok (.bipush 8, 2) := by decide +kernel
theorem dX12_cell_2 : decode cX12_cell 2 = .ok (.iload_n 1, 1) := by decide +kernel
theorem dX12_cell_3 : decode cX12_cell 3 = .ok (.imul, 1) := by decide +kernel
theorem dX12_cell_4 : decode cX12_cell 4 = .ok (.iload_n 0, 1) := by decide +kernel
theorem dX12_cell_5 : decode cX12_cell 5 = .ok (.iadd, 1) := by decide +kernel
theorem dX12_cell_6 : decode cX12_cell 6 = .ok (.ireturn, 1) := by decide +kernel
theorem dX12_isGlass_0 : decode cX12_isGlass 0 = .ok (.iload_n 0, 1) := by decide +kernel
theorem dX12_isGlass_1 : decode cX12_isGlass 1 = .ok (.iconst 0, 1) := by decide +kernel
theorem dX12_isGlass_2 : decode cX12_isGlass 2 = .ok (.bipush 7, 2) := by decide +kernel
theorem dX12_isGlass_4 : decode cX12_isGlass 4 = .ok (.invokestatic 3, 3) := by decide +kernel
theorem dX12_isGlass_7 : decode cX12_isGlass 7 = .ok (.ifCond .eq 16, 3) := by decide +kernel
theorem dX12_isGlass_10 : decode cX12_isGlass 10 = .ok (.iload_n 1, 1) := by decide +kernel
theorem dX12_isGlass_11 : decode cX12_isGlass 11 = .ok (.iconst 0, 1) := by decide +kernel
theorem dX12_isGlass_12 : decode cX12_isGlass 12 = .ok (.iconst 5, 1) := by decide +kernel
theorem dX12_isGlass_13 : decode cX12_isGlass 13 = .ok (.invokestatic 3, 3) := by decide +kernel
theorem dX12_isGlass_16 : decode cX12_isGlass 16 = .ok (.ifCond .eq 7, 3) := by decide +kernel
theorem dX12_isGlass_19 : decode cX12_isGlass 19 = .ok (.iconst 1, 1) := by decide +kernel
theorem dX12_isGlass_20 : decode cX12_isGlass 20 = .ok (.goto 4, 3) := by decide +kernel
theorem dX12_isGlass_23 : decode cX12_isGlass 23 = .ok (.iconst 0, 1) := by decide +kernel
theorem dX12_isGlass_24 : decode cX12_isGlass 24 = .ok (.ireturn, 1) := by decide +kernel
theorem dX12_init_0 : decode cX12_init 0 = .ok (.aload_n 0, 1) := by decide +kernel
theorem dX12_init_1 : decode cX12_init 1 = .ok (.invokespecial 7, 3) := by decide +kernel
theorem dX12_init_4 : decode cX12_init 4 = .ok (.aload_n 0, 1) := by decide +kernel
theorem dX12_init_5 : decode cX12_init 5 = .ok (.bipush 48, 2) := by decide +kernel
theorem dX12_init_7 : decode cX12_init 7 = .ok (.newarray .int, 2) := by decide +kernel
theorem dX12_init_9 : decode cX12_init 9 = .ok (.putfield 13, 3) := by decide +kernel
theorem dX12_init_12 : decode cX12_init 12 = .ok (.aload_n 0, 1) := by decide +kernel
theorem dX12_init_13 : decode cX12_init 13 = .ok (.bipush 48, 2) := by decide +kernel
theorem dX12_init_15 : decode cX12_init 15 = .ok (.newarray .int, 2) := by decide +kernel
theorem dX12_init_17 : decode cX12_init 17 = .ok (.putfield 17, 3) := by decide +kernel
theorem dX12_init_20 : decode cX12_init 20 = .ok (.aload_n 0, 1) := by decide +kernel
theorem dX12_init_21 : decode cX12_init 21 = .ok (.iconst 4, 1) := by decide +kernel
theorem dX12_init_22 : decode cX12_init 22 = .ok (.putfield 20, 3) := by decide +kernel
theorem dX12_init_25 : decode cX12_init 25 = .ok (.aload_n 0, 1) := by decide +kernel
theorem dX12_init_26 : decode cX12_init 26 = .ok (.bipush 12, 2) := by decide +kernel
theorem dX12_init_28 : decode cX12_init 28 = .ok (.putfield 24, 3) := by decide +kernel
theorem dX12_init_31 : decode cX12_init 31 = .ok (.aload_n 0, 1) := by decide +kernel
theorem dX12_init_32 : decode cX12_init 32 = .ok (.iconst 5, 1) := by decide +kernel
theorem dX12_init_33 : decode cX12_init 33 = .ok (.anewarray 27, 3) := by decide +kernel
theorem dX12_init_36 : decode cX12_init 36 = .ok (.putfield 29, 3) := by decide +kernel
theorem dX12_init_39 : decode cX12_init 39 = .ok (.aload_n 0, 1) := by decide +kernel
theorem dX12_init_40 : decode cX12_init 40 = .ok (.new 33, 3) := by decide +kernel
theorem dX12_init_43 : decode cX12_init 43 = .ok (.dup, 1) := by decide +kernel
theorem dX12_init_44 : decode cX12_init 44 = .ok (.invokespecial 35, 3) := by decide +kernel
theorem dX12_init_47 : decode cX12_init 47 = .ok (.putfield 36, 3) := by decide +kernel
theorem dX12_init_50 : decode cX12_init 50 = .ok (.return_, 1) := by decide +kernel
theorem dX12_refuse_0 : decode cX12_refuse 0 = .ok (.iload_n 1, 1) := by decide +kernel
theorem dX12_refuse_1 : decode cX12_refuse 1 = .ok (.ifCond .eq 15, 3) := by decide +kernel
theorem dX12_refuse_4 : decode cX12_refuse 4 = .ok (.aload_n 0, 1) := by decide +kernel
theorem dX12_refuse_5 : decode cX12_refuse 5 = .ok (.getfield 40, 3) := by decide +kernel
theorem dX12_refuse_8 : decode cX12_refuse 8 = .ok (.ifCond .ne 8, 3) := by decide +kernel
theorem dX12_refuse_11 : decode cX12_refuse 11 = .ok (.aload_n 0, 1) := by decide +kernel
theorem dX12_refuse_12 : decode cX12_refuse 12 = .ok (.iload_n 2, 1) := by decide +kernel
theorem dX12_refuse_13 : decode cX12_refuse 13 = .ok (.putfield 40, 3) := by decide +kernel
theorem dX12_refuse_16 : decode cX12_refuse 16 = .ok (.aload_n 0, 1) := by decide +kernel
theorem dX12_refuse_17 : decode cX12_refuse 17 = .ok (.getfield 40, 3) := by decide +kernel
theorem dX12_refuse_20 : decode cX12_refuse 20 = .ok (.ifCond .le 7, 3) := by decide +kernel
theorem dX12_refuse_23 : decode cX12_refuse 23 = .ok (.iconst 1, 1) := by decide +kernel
theorem dX12_refuse_24 : decode cX12_refuse 24 = .ok (.goto 4, 3) := by decide +kernel
theorem dX12_refuse_27 : decode cX12_refuse 27 = .ok (.iconst 0, 1) := by decide +kernel
theorem dX12_refuse_28 : decode cX12_refuse 28 = .ok (.ireturn, 1) := by decide +kernel
theorem dX12_start_0 : decode cX12_start 0 = .ok (.aload_n 0, 1) := by decide +kernel
theorem dX12_start_1 : decode cX12_start 1 = .ok (.iconst 0, 1) := by decide +kernel
theorem dX12_start_2 : decode cX12_start 2 = .ok (.putfield 40, 3) := by decide +kernel
theorem dX12_start_5 : decode cX12_start 5 = .ok (.aload_n 0, 1) := by decide +kernel
theorem dX12_start_6 : decode cX12_start 6 = .ok (.iload_n 1, 1) := by decide +kernel
theorem dX12_start_7 : decode cX12_start 7 = .ok (.iload_n 2, 1) := by decide +kernel
theorem dX12_start_8 : decode cX12_start 8 = .ok (.invokevirtual 43, 3) := by decide +kernel
theorem dX12_start_11 : decode cX12_start 11 = .ok (.ireturn, 1) := by decide +kernel
theorem dX12_charges_0 : decode cX12_charges 0 = .ok (.bipush 48, 2) := by decide +kernel
theorem dX12_charges_2 : decode cX12_charges 2 = .ok (.newarray .int, 2) := by decide +kernel
theorem dX12_charges_4 : decode cX12_charges 4 = .ok (.astore_n 1, 1) := by decide +kernel
theorem dX12_charges_5 : decode cX12_charges 5 = .ok (.iconst 0, 1) := by decide +kernel
theorem dX12_charges_6 : decode cX12_charges 6 = .ok (.istore_n 2, 1) := by decide +kernel
theorem dX12_charges_7 : decode cX12_charges 7 = .ok (.iload_n 2, 1) := by decide +kernel
theorem dX12_charges_8 : decode cX12_charges 8 = .ok (.bipush 48, 2) := by decide +kernel
theorem dX12_charges_10 : decode cX12_charges 10 = .ok (.if_icmp .ge 23, 3) := by decide +kernel
theorem dX12_charges_13 : decode cX12_charges 13 = .ok (.aload_n 1, 1) := by decide +kernel
theorem dX12_charges_14 : decode cX12_charges 14 = .ok (.iload_n 2, 1) := by decide +kernel
theorem dX12_charges_15 : decode cX12_charges 15 = .ok (.aload_n 0, 1) := by decide +kernel
theorem dX12_charges_16 : decode cX12_charges 16 = .ok (.getfield 47, 3) := by decide +kernel
theorem dX12_charges_19 : decode cX12_charges 19 = .ok (.aload_n 0, 1) := by decide +kernel
theorem dX12_charges_20 : decode cX12_charges 20 = .ok (.getfield 17, 3) := by decide +kernel
theorem dX12_charges_23 : decode cX12_charges 23 = .ok (.iload_n 2, 1) := by decide +kernel
theorem dX12_charges_24 : decode cX12_charges 24 = .ok (.iaload, 1) := by decide +kernel
theorem dX12_charges_25 : decode cX12_charges 25 = .ok (.iadd, 1) := by decide +kernel
theorem dX12_charges_26 : decode cX12_charges 26 = .ok (.iastore, 1) := by decide +kernel
theorem dX12_charges_27 : decode cX12_charges 27 = .ok (.iinc 2 1, 3) := by decide +kernel
theorem dX12_charges_30 : decode cX12_charges 30 = .ok (.goto (-23), 3) := by decide +kernel
theorem dX12_charges_33 : decode cX12_charges 33 = .ok (.aload_n 1, 1) := by decide +kernel
theorem dX12_charges_34 : decode cX12_charges 34 = .ok (.areturn, 1) := by decide +kernel
theorem dX12_view_0 : decode cX12_view 0 = .ok (.new 50, 3) := by decide +kernel
theorem dX12_view_3 : decode cX12_view 3 = .ok (.dup, 1) := by decide +kernel
theorem dX12_view_4 : decode cX12_view 4 = .ok (.aload_n 0, 1) := by decide +kernel
theorem dX12_view_5 : decode cX12_view 5 = .ok (.invokevirtual 52, 3) := by decide +kernel
theorem dX12_view_8 : decode cX12_view 8 = .ok (.aload_n 0, 1) := by decide +kernel
theorem dX12_view_9 : decode cX12_view 9 = .ok (.getfield 13, 3) := by decide +kernel
theorem dX12_view_12 : decode cX12_view 12 = .ok (.invokespecial 56, 3) := by decide +kernel
theorem dX12_view_15 : decode cX12_view 15 = .ok (.areturn, 1) := by decide +kernel
theorem dX12_isNone_0 : decode cX12_isNone 0 = .ok (.iload_n 1, 1) := by decide +kernel
theorem dX12_isNone_1 : decode cX12_isNone 1 = .ok (.iconst 0, 1) := by decide +kernel
theorem dX12_isNone_2 : decode cX12_isNone 2 = .ok (.iconst 4, 1) := by decide +kernel
theorem dX12_isNone_3 : decode cX12_isNone 3 = .ok (.invokestatic 3, 3) := by decide +kernel
theorem dX12_isNone_6 : decode cX12_isNone 6 = .ok (.ifCond .eq 12, 3) := by decide +kernel
theorem dX12_isNone_9 : decode cX12_isNone 9 = .ok (.aload_n 0, 1) := by decide +kernel
theorem dX12_isNone_10 : decode cX12_isNone 10 = .ok (.getfield 29, 3) := by decide +kernel
theorem dX12_isNone_13 : decode cX12_isNone 13 = .ok (.iload_n 1, 1) := by decide +kernel
theorem dX12_isNone_14 : decode cX12_isNone 14 = .ok (.aaload, 1) := by decide +kernel
theorem dX12_isNone_15 : decode cX12_isNone 15 = .ok (.ifnonnull 7, 3) := by decide +kernel
theorem dX12_isNone_18 : decode cX12_isNone 18 = .ok (.iconst 1, 1) := by decide +kernel
theorem dX12_isNone_19 : decode cX12_isNone 19 = .ok (.goto 4, 3) := by decide +kernel
theorem dX12_isNone_22 : decode cX12_isNone 22 = .ok (.iconst 0, 1) := by decide +kernel
theorem dX12_isNone_23 : decode cX12_isNone 23 = .ok (.ireturn, 1) := by decide +kernel
theorem dX12_contactsNow_0 : decode cX12_contactsNow 0 = .ok (.iconst 0, 1) := by decide +kernel
theorem dX12_contactsNow_1 : decode cX12_contactsNow 1 = .ok (.istore_n 1, 1) := by decide +kernel
theorem dX12_contactsNow_2 : decode cX12_contactsNow 2 = .ok (.aload_n 0, 1) := by decide +kernel
theorem dX12_contactsNow_3 : decode cX12_contactsNow 3 = .ok (.getfield 29, 3) := by decide +kernel
theorem dX12_contactsNow_6 : decode cX12_contactsNow 6 = .ok (.astore_n 2, 1) := by decide +kernel
theorem dX12_contactsNow_7 : decode cX12_contactsNow 7 = .ok (.aload_n 2, 1) := by decide +kernel
theorem dX12_contactsNow_8 : decode cX12_contactsNow 8 = .ok (.arraylength, 1) := by decide +kernel
theorem dX12_contactsNow_9 : decode cX12_contactsNow 9 = .ok (.istore_n 3, 1) := by decide +kernel
theorem dX12_contactsNow_10 : decode cX12_contactsNow 10 = .ok (.iconst 0, 1) := by decide +kernel
theorem dX12_contactsNow_11 : decode cX12_contactsNow 11 = .ok (.istore 4, 2) := by decide +kernel
theorem dX12_contactsNow_13 : decode cX12_contactsNow 13 = .ok (.iload 4, 2) := by decide +kernel
theorem dX12_contactsNow_15 : decode cX12_contactsNow 15 = .ok (.iload_n 3, 1) := by decide +kernel
theorem dX12_contactsNow_16 : decode cX12_contactsNow 16 = .ok (.if_icmp .ge 28, 3) := by decide +kernel
theorem dX12_contactsNow_19 : decode cX12_contactsNow 19 = .ok (.aload_n 2, 1) := by decide +kernel
theorem dX12_contactsNow_20 : decode cX12_contactsNow 20 = .ok (.iload 4, 2) := by decide +kernel
theorem dX12_contactsNow_22 : decode cX12_contactsNow 22 = .ok (.aaload, 1) := by decide +kernel
theorem dX12_contactsNow_23 : decode cX12_contactsNow 23 = .ok (.astore 5, 2) := by decide +kernel
theorem dX12_contactsNow_25 : decode cX12_contactsNow 25 = .ok (.iload_n 1, 1) := by decide +kernel
theorem dX12_contactsNow_26 : decode cX12_contactsNow 26 = .ok (.aload 5, 2) := by decide +kernel
theorem dX12_contactsNow_28 : decode cX12_contactsNow 28 = .ok (.ifnonnull 7, 3) := by decide +kernel
theorem dX12_contactsNow_31 : decode cX12_contactsNow 31 = .ok (.iconst 0, 1) := by decide +kernel
theorem dX12_contactsNow_32 : decode cX12_contactsNow 32 = .ok (.goto 4, 3) := by decide +kernel
theorem dX12_contactsNow_35 : decode cX12_contactsNow 35 = .ok (.iconst 1, 1) := by decide +kernel
theorem dX12_contactsNow_36 : decode cX12_contactsNow 36 = .ok (.iadd, 1) := by decide +kernel
theorem dX12_contactsNow_37 : decode cX12_contactsNow 37 = .ok (.istore_n 1, 1) := by decide +kernel
theorem dX12_contactsNow_38 : decode cX12_contactsNow 38 = .ok (.iinc 4 1, 3) := by decide +kernel
theorem dX12_contactsNow_41 : decode cX12_contactsNow 41 = .ok (.goto (-28), 3) := by decide +kernel
theorem dX12_contactsNow_44 : decode cX12_contactsNow 44 = .ok (.iload_n 1, 1) := by decide +kernel
theorem dX12_contactsNow_45 : decode cX12_contactsNow 45 = .ok (.ireturn, 1) := by decide +kernel
theorem dX12_area_0 : decode cX12_area 0 = .ok (.aload_n 0, 1) := by decide +kernel
theorem dX12_area_1 : decode cX12_area 1 = .ok (.iload_n 1, 1) := by decide +kernel
theorem dX12_area_2 : decode cX12_area 2 = .ok (.iconst 0, 1) := by decide +kernel
theorem dX12_area_3 : decode cX12_area 3 = .ok (.bipush 7, 2) := by decide +kernel
theorem dX12_area_5 : decode cX12_area 5 = .ok (.invokestatic 3, 3) := by decide +kernel
theorem dX12_area_8 : decode cX12_area 8 = .ok (.ifCond .eq 32, 3) := by decide +kernel
theorem dX12_area_11 : decode cX12_area 11 = .ok (.iload_n 2, 1) := by decide +kernel
theorem dX12_area_12 : decode cX12_area 12 = .ok (.iload_n 1, 1) := by decide +kernel
theorem dX12_area_13 : decode cX12_area 13 = .ok (.bipush 7, 2) := by decide +kernel
theorem dX12_area_15 : decode cX12_area 15 = .ok (.invokestatic 3, 3) := by decide +kernel
theorem dX12_area_18 : decode cX12_area 18 = .ok (.ifCond .eq 22, 3) := by decide +kernel
theorem dX12_area_21 : decode cX12_area 21 = .ok (.iload_n 3, 1) := by decide +kernel
theorem dX12_area_22 : decode cX12_area 22 = .ok (.iconst 0, 1) := by decide +kernel
theorem dX12_area_23 : decode cX12_area 23 = .ok (.iconst 5, 1) := by decide +kernel
theorem dX12_area_24 : decode cX12_area 24 = .ok (.invokestatic 3, 3) := by decide +kernel
theorem dX12_area_27 : decode cX12_area 27 = .ok (.ifCond .eq 13, 3) := by decide +kernel
theorem dX12_area_30 : decode cX12_area 30 = .ok (.iload 4, 2) := by decide +kernel
theorem dX12_area_32 : decode cX12_area 32 = .ok (.iload_n 3, 1) := by decide +kernel
theorem dX12_area_33 : decode cX12_area 33 = .ok (.iconst 5, 1) := by decide +kernel
theorem dX12_area_34 : decode cX12_area 34 = .ok (.invokestatic 3, 3) := by decide +kernel
theorem dX12_area_37 : decode cX12_area 37 = .ok (.ifCond .ne 7, 3) := by decide +kernel
theorem dX12_area_40 : decode cX12_area 40 = .ok (.iconst 1, 1) := by decide +kernel
theorem dX12_area_41 : decode cX12_area 41 = .ok (.goto 4, 3) := by decide +kernel
theorem dX12_area_44 : decode cX12_area 44 = .ok (.iconst 0, 1) := by decide +kernel
theorem dX12_area_45 : decode cX12_area 45 = .ok (.iconst 1, 1) := by decide +kernel
theorem dX12_area_46 : decode cX12_area 46 = .ok (.invokevirtual 59, 3) := by decide +kernel
theorem dX12_area_49 : decode cX12_area 49 = .ok (.ifCond .ne 27, 3) := by decide +kernel
theorem dX12_area_52 : decode cX12_area 52 = .ok (.aload_n 0, 1) := by decide +kernel
theorem dX12_area_53 : decode cX12_area 53 = .ok (.aload_n 0, 1) := by decide +kernel
theorem dX12_area_54 : decode cX12_area 54 = .ok (.getfield 36, 3) := by decide +kernel
theorem dX12_area_57 : decode cX12_area 57 = .ok (.invokevirtual 62, 3) := by decide +kernel
theorem dX12_area_60 : decode cX12_area 60 = .ok (.iconst 4, 1) := by decide +kernel
theorem dX12_area_61 : decode cX12_area 61 = .ok (.if_icmp .ne 7, 3) := by decide +kernel
theorem dX12_area_64 : decode cX12_area 64 = .ok (.iconst 1, 1) := by decide +kernel
theorem dX12_area_65 : decode cX12_area 65 = .ok (.goto 4, 3) := by decide +kernel
theorem dX12_area_68 : decode cX12_area 68 = .ok (.iconst 0, 1) := by decide +kernel
theorem dX12_area_69 : decode cX12_area 69 = .ok (.iconst 2, 1) := by decide +kernel
theorem dX12_area_70 : decode cX12_area 70 = .ok (.invokevirtual 43, 3) := by decide +kernel
theorem dX12_area_73 : decode cX12_area 73 = .ok (.ifCond .eq 5, 3) := by decide +kernel
theorem dX12_area_76 : decode cX12_area 76 = .ok (.iconst 0, 1) := by decide +kernel
theorem dX12_area_77 : decode cX12_area 77 = .ok (.ireturn, 1) := by decide +kernel
theorem dX12_area_78 : decode cX12_area 78 = .ok (.aload_n 0, 1) := by decide +kernel
theorem dX12_area_79 : decode cX12_area 79 = .ok (.getfield 36, 3) := by decide +kernel
theorem dX12_area_82 : decode cX12_area 82 = .ok (.new 66, 3) := by decide +kernel
theorem dX12_area_85 : decode cX12_area 85 = .ok (.dup, 1) := by decide +kernel
theorem dX12_area_86 : decode cX12_area 86 = .ok (.iload_n 1, 1) := by decide +kernel
theorem dX12_area_87 : decode cX12_area 87 = .ok (.iload_n 2, 1) := by decide +kernel
theorem dX12_area_88 : decode cX12_area 88 = .ok (.iload_n 3, 1) := by decide +kernel
theorem dX12_area_89 : decode cX12_area 89 = .ok (.iload 4, 2) := by decide +kernel
theorem dX12_area_91 : decode cX12_area 91 = .ok (.invokespecial 68, 3) := by decide +kernel
theorem dX12_area_94 : decode cX12_area 94 = .ok (.invokevirtual 71, 3) := by decide +kernel
theorem dX12_area_97 : decode cX12_area 97 = .ok (.pop, 1) := by decide +kernel
theorem dX12_area_98 : decode cX12_area 98 = .ok (.aload_n 0, 1) := by decide +kernel
theorem dX12_area_99 : decode cX12_area 99 = .ok (.getfield 36, 3) := by decide +kernel
theorem dX12_area_102 : decode cX12_area 102 = .ok (.invokevirtual 62, 3) := by decide +kernel
theorem dX12_area_105 : decode cX12_area 105 = .ok (.iconst 1, 1) := by decide +kernel
theorem dX12_area_106 : decode cX12_area 106 = .ok (.isub, 1) := by decide +kernel
theorem dX12_area_107 : decode cX12_area 107 = .ok (.ireturn, 1) := by decide +kernel
theorem dX12_dial_0 : decode cX12_dial 0 = .ok (.aload_n 0, 1) := by decide +kernel
theorem dX12_dial_1 : decode cX12_dial 1 = .ok (.iload_n 1, 1) := by decide +kernel
theorem dX12_dial_2 : decode cX12_dial 2 = .ok (.iconst 1, 1) := by decide +kernel
theorem dX12_dial_3 : decode cX12_dial 3 = .ok (.iconst 4, 1) := by decide +kernel
theorem dX12_dial_4 : decode cX12_dial 4 = .ok (.invokestatic 3, 3) := by decide +kernel
theorem dX12_dial_7 : decode cX12_dial 7 = .ok (.ifCond .ne 7, 3) := by decide +kernel
theorem dX12_dial_10 : decode cX12_dial 10 = .ok (.iconst 1, 1) := by decide +kernel
theorem dX12_dial_11 : decode cX12_dial 11 = .ok (.goto 4, 3) := by decide +kernel
theorem dX12_dial_14 : decode cX12_dial 14 = .ok (.iconst 0, 1) := by decide +kernel
theorem dX12_dial_15 : decode cX12_dial 15 = .ok (.iconst 1, 1) := by decide +kernel
theorem dX12_dial_16 : decode cX12_dial 16 = .ok (.invokevirtual 59, 3) := by decide +kernel
theorem dX12_dial_19 : decode cX12_dial 19 = .ok (.ifCond .eq 5, 3) := by decide +kernel
theorem dX12_dial_22 : decode cX12_dial 22 = .ok (.iconst 0, 1) := by decide +kernel
theorem dX12_dial_23 : decode cX12_dial 23 = .ok (.ireturn, 1) := by decide +kernel
theorem dX12_dial_24 : decode cX12_dial 24 = .ok (.aload_n 0, 1) := by decide +kernel
theorem dX12_dial_25 : decode cX12_dial 25 = .ok (.getfield 20, 3) := by decide +kernel
theorem dX12_dial_28 : decode cX12_dial 28 = .ok (.istore_n 2, 1) := by decide +kernel
theorem dX12_dial_29 : decode cX12_dial 29 = .ok (.aload_n 0, 1) := by decide +kernel
theorem dX12_dial_30 : decode cX12_dial 30 = .ok (.iload_n 1, 1) := by decide +kernel
theorem dX12_dial_31 : decode cX12_dial 31 = .ok (.putfield 20, 3) := by decide +kernel
theorem dX12_dial_34 : decode cX12_dial 34 = .ok (.iload_n 2, 1) := by decide +kernel
theorem dX12_dial_35 : decode cX12_dial 35 = .ok (.ireturn, 1) := by decide +kernel
theorem dX12_limit_0 : decode cX12_limit 0 = .ok (.aload_n 0, 1) := by decide +kernel
theorem dX12_limit_1 : decode cX12_limit 1 = .ok (.iload_n 1, 1) := by decide +kernel
theorem dX12_limit_2 : decode cX12_limit 2 = .ok (.iconst 1, 1) := by decide +kernel
theorem dX12_limit_3 : decode cX12_limit 3 = .ok (.bipush 30, 2) := by decide +kernel
theorem dX12_limit_5 : decode cX12_limit 5 = .ok (.invokestatic 3, 3) := by decide +kernel
theorem dX12_limit_8 : decode cX12_limit 8 = .ok (.ifCond .ne 7, 3) := by decide +kernel
theorem dX12_limit_11 : decode cX12_limit 11 = .ok (.iconst 1, 1) := by decide +kernel
theorem dX12_limit_12 : decode cX12_limit 12 = .ok (.goto 4, 3) := by decide +kernel
theorem dX12_limit_15 : decode cX12_limit 15 = .ok (.iconst 0, 1) := by decide +kernel
theorem dX12_limit_16 : decode cX12_limit 16 = .ok (.iconst 1, 1) := by decide +kernel
theorem dX12_limit_17 : decode cX12_limit 17 = .ok (.invokevirtual 59, 3) := by decide +kernel
theorem dX12_limit_20 : decode cX12_limit 20 = .ok (.ifCond .eq 5, 3) := by decide +kernel
theorem dX12_limit_23 : decode cX12_limit 23 = .ok (.iconst 0, 1) := by decide +kernel
theorem dX12_limit_24 : decode cX12_limit 24 = .ok (.ireturn, 1) := by decide +kernel
theorem dX12_limit_25 : decode cX12_limit 25 = .ok (.aload_n 0, 1) := by decide +kernel
theorem dX12_limit_26 : decode cX12_limit 26 = .ok (.getfield 24, 3) := by decide +kernel
theorem dX12_limit_29 : decode cX12_limit 29 = .ok (.istore_n 2, 1) := by decide +kernel
theorem dX12_limit_30 : decode cX12_limit 30 = .ok (.aload_n 0, 1) := by decide +kernel
theorem dX12_limit_31 : decode cX12_limit 31 = .ok (.iload_n 1, 1) := by decide +kernel
theorem dX12_limit_32 : decode cX12_limit 32 = .ok (.putfield 24, 3) := by decide +kernel
theorem dX12_limit_35 : decode cX12_limit 35 = .ok (.iload_n 2, 1) := by decide +kernel
theorem dX12_limit_36 : decode cX12_limit 36 = .ok (.ireturn, 1) := by decide +kernel
theorem dX12_heat_0 : decode cX12_heat 0 = .ok (.aload_n 0, 1) := by decide +kernel
theorem dX12_heat_1 : decode cX12_heat 1 = .ok (.iload_n 1, 1) := by decide +kernel
theorem dX12_heat_2 : decode cX12_heat 2 = .ok (.bipush (-30), 2) := by decide +kernel
theorem dX12_heat_4 : decode cX12_heat 4 = .ok (.bipush 30, 2) := by decide +kernel
theorem dX12_heat_6 : decode cX12_heat 6 = .ok (.invokestatic 3, 3) := by decide +kernel
theorem dX12_heat_9 : decode cX12_heat 9 = .ok (.ifCond .ne 7, 3) := by decide +kernel
theorem dX12_heat_12 : decode cX12_heat 12 = .ok (.iconst 1, 1) := by decide +kernel
theorem dX12_heat_13 : decode cX12_heat 13 = .ok (.goto 4, 3) := by decide +kernel
theorem dX12_heat_16 : decode cX12_heat 16 = .ok (.iconst 0, 1) := by decide +kernel
theorem dX12_heat_17 : decode cX12_heat 17 = .ok (.iconst 1, 1) := by decide +kernel
theorem dX12_heat_18 : decode cX12_heat 18 = .ok (.invokevirtual 59, 3) := by decide +kernel
theorem dX12_heat_21 : decode cX12_heat 21 = .ok (.ifCond .eq 5, 3) := by decide +kernel
theorem dX12_heat_24 : decode cX12_heat 24 = .ok (.iconst 0, 1) := by decide +kernel
theorem dX12_heat_25 : decode cX12_heat 25 = .ok (.ireturn, 1) := by decide +kernel
theorem dX12_heat_26 : decode cX12_heat 26 = .ok (.aload_n 0, 1) := by decide +kernel
theorem dX12_heat_27 : decode cX12_heat 27 = .ok (.getfield 47, 3) := by decide +kernel
theorem dX12_heat_30 : decode cX12_heat 30 = .ok (.istore_n 2, 1) := by decide +kernel
theorem dX12_heat_31 : decode cX12_heat 31 = .ok (.aload_n 0, 1) := by decide +kernel
theorem dX12_heat_32 : decode cX12_heat 32 = .ok (.iload_n 1, 1) := by decide +kernel
theorem dX12_heat_33 : decode cX12_heat 33 = .ok (.putfield 47, 3) := by decide +kernel
theorem dX12_heat_36 : decode cX12_heat 36 = .ok (.iload_n 2, 1) := by decide +kernel
theorem dX12_heat_37 : decode cX12_heat 37 = .ok (.ireturn, 1) := by decide +kernel
theorem dX12_pressed_0 : decode cX12_pressed 0 = .ok (.iconst (-1), 1) := by decide +kernel
theorem dX12_pressed_1 : decode cX12_pressed 1 = .ok (.istore 5, 2) := by decide +kernel
theorem dX12_pressed_3 : decode cX12_pressed 3 = .ok (.iload 5, 2) := by decide +kernel
theorem dX12_pressed_5 : decode cX12_pressed 5 = .ok (.iconst 1, 1) := by decide +kernel
theorem dX12_pressed_6 : decode cX12_pressed 6 = .ok (.if_icmp .gt 73, 3) := by decide +kernel
theorem dX12_pressed_9 : decode cX12_pressed 9 = .ok (.iconst (-1), 1) := by decide +kernel
theorem dX12_pressed_10 : decode cX12_pressed 10 = .ok (.istore 6, 2) := by decide +kernel
theorem dX12_pressed_12 : decode cX12_pressed 12 = .ok (.iload 6, 2) := by decide +kernel
theorem dX12_pressed_14 : decode cX12_pressed 14 = .ok (.iconst 1, 1) := by decide +kernel
theorem dX12_pressed_15 : decode cX12_pressed 15 = .ok (.if_icmp .gt 58, 3) := by decide +kernel
theorem dX12_pressed_18 : decode cX12_pressed 18 = .ok (.iload_n 1, 1) := by decide +kernel
theorem dX12_pressed_19 : decode cX12_pressed 19 = .ok (.iload 5, 2) := by decide +kernel
theorem dX12_pressed_21 : decode cX12_pressed 21 = .ok (.iadd, 1) := by decide +kernel
theorem dX12_pressed_22 : decode cX12_pressed 22 = .ok (.iload_n 2, 1) := by decide +kernel
theorem dX12_pressed_23 : decode cX12_pressed 23 = .ok (.iload 6, 2) := by decide +kernel
theorem dX12_pressed_25 : decode cX12_pressed 25 = .ok (.iadd, 1) := by decide +kernel
theorem dX12_pressed_26 : decode cX12_pressed 26 = .ok (.invokestatic 75, 3) := by decide +kernel
theorem dX12_pressed_29 : decode cX12_pressed 29 = .ok (.ifCond .eq 38, 3) := by decide +kernel
theorem dX12_pressed_32 : decode cX12_pressed 32 = .ok (.aload_n 0, 1) := by decide +kernel
theorem dX12_pressed_33 : decode cX12_pressed 33 = .ok (.getfield 17, 3) := by decide +kernel
theorem dX12_pressed_36 : decode cX12_pressed 36 = .ok (.iload_n 1, 1) := by decide +kernel
theorem dX12_pressed_37 : decode cX12_pressed 37 = .ok (.iload 5, 2) := by decide +kernel
theorem dX12_pressed_39 : decode cX12_pressed 39 = .ok (.iadd, 1) := by decide +kernel
theorem dX12_pressed_40 : decode cX12_pressed 40 = .ok (.iload_n 2, 1) := by decide +kernel
theorem dX12_pressed_41 : decode cX12_pressed 41 = .ok (.iload 6, 2) := by decide +kernel
theorem dX12_pressed_43 : decode cX12_pressed 43 = .ok (.iadd, 1) := by decide +kernel
theorem dX12_pressed_44 : decode cX12_pressed 44 = .ok (.invokestatic 79, 3) := by decide +kernel
theorem dX12_pressed_47 : decode cX12_pressed 47 = .ok (.dup2, 1) := by decide +kernel
theorem dX12_pressed_48 : decode cX12_pressed 48 = .ok (.iaload, 1) := by decide +kernel
theorem dX12_pressed_49 : decode cX12_pressed 49 = .ok (.iload 4, 2) := by decide +kernel
theorem dX12_pressed_51 : decode cX12_pressed 51 = .ok (.iload_n 3, 1) := by decide +kernel
theorem dX12_pressed_52 : decode cX12_pressed 52 = .ok (.iload 5, 2) := by decide +kernel
theorem dX12_pressed_54 : decode cX12_pressed 54 = .ok (.invokestatic 83, 3) := by decide +kernel
theorem dX12_pressed_57 : decode cX12_pressed 57 = .ok (.iload 6, 2) := by decide +kernel
theorem dX12_pressed_59 : decode cX12_pressed 59 = .ok (.invokestatic 83, 3) := by decide +kernel
theorem dX12_pressed_62 : decode cX12_pressed 62 = .ok (.iadd, 1) := by decide +kernel
theorem dX12_pressed_63 : decode cX12_pressed 63 = .ok (.ishr, 1) := by decide +kernel
theorem dX12_pressed_64 : decode cX12_pressed 64 = .ok (.imul, 1) := by decide +kernel
theorem dX12_pressed_65 : decode cX12_pressed 65 = .ok (.iadd, 1) := by decide +kernel
theorem dX12_pressed_66 : decode cX12_pressed 66 = .ok (.iastore, 1) := by decide +kernel
theorem dX12_pressed_67 : decode cX12_pressed 67 = .ok (.iinc 6 1, 3) := by decide +kernel
theorem dX12_pressed_70 : decode cX12_pressed 70 = .ok (.goto (-58), 3) := by decide +kernel
theorem dX12_pressed_73 : decode cX12_pressed 73 = .ok (.iinc 5 1, 3) := by decide +kernel
theorem dX12_pressed_76 : decode cX12_pressed 76 = .ok (.goto (-73), 3) := by decide +kernel
theorem dX12_pressed_79 : decode cX12_pressed 79 = .ok (.return_, 1) := by decide +kernel
theorem dX12_press_0 : decode cX12_press 0 = .ok (.aload_n 0, 1) := by decide +kernel
theorem dX12_press_1 : decode cX12_press 1 = .ok (.iload_n 1, 1) := by decide +kernel
theorem dX12_press_2 : decode cX12_press 2 = .ok (.iload_n 2, 1) := by decide +kernel
theorem dX12_press_3 : decode cX12_press 3 = .ok (.invokestatic 75, 3) := by decide +kernel
theorem dX12_press_6 : decode cX12_press 6 = .ok (.ifCond .ne 7, 3) := by decide +kernel
theorem dX12_press_9 : decode cX12_press 9 = .ok (.iconst 1, 1) := by decide +kernel
theorem dX12_press_10 : decode cX12_press 10 = .ok (.goto 4, 3) := by decide +kernel
theorem dX12_press_13 : decode cX12_press 13 = .ok (.iconst 0, 1) := by decide +kernel
theorem dX12_press_14 : decode cX12_press 14 = .ok (.iconst 1, 1) := by decide +kernel
theorem dX12_press_15 : decode cX12_press 15 = .ok (.invokevirtual 59, 3) := by decide +kernel
theorem dX12_press_18 : decode cX12_press 18 = .ok (.ifCond .ne 27, 3) := by decide +kernel
theorem dX12_press_21 : decode cX12_press 21 = .ok (.aload_n 0, 1) := by decide +kernel
theorem dX12_press_22 : decode cX12_press 22 = .ok (.iload_n 3, 1) := by decide +kernel
theorem dX12_press_23 : decode cX12_press 23 = .ok (.iconst 1, 1) := by decide +kernel
theorem dX12_press_24 : decode cX12_press 24 = .ok (.sipush 200, 3) := by decide +kernel
theorem dX12_press_27 : decode cX12_press 27 = .ok (.invokestatic 3, 3) := by decide +kernel
theorem dX12_press_30 : decode cX12_press 30 = .ok (.ifCond .ne 7, 3) := by decide +kernel
theorem dX12_press_33 : decode cX12_press 33 = .ok (.iconst 1, 1) := by decide +kernel
theorem dX12_press_34 : decode cX12_press 34 = .ok (.goto 4, 3) := by decide +kernel
theorem dX12_press_37 : decode cX12_press 37 = .ok (.iconst 0, 1) := by decide +kernel
theorem dX12_press_38 : decode cX12_press 38 = .ok (.iconst 2, 1) := by decide +kernel
theorem dX12_press_39 : decode cX12_press 39 = .ok (.invokevirtual 43, 3) := by decide +kernel
theorem dX12_press_42 : decode cX12_press 42 = .ok (.ifCond .eq 5, 3) := by decide +kernel
theorem dX12_press_45 : decode cX12_press 45 = .ok (.iconst 0, 1) := by decide +kernel
theorem dX12_press_46 : decode cX12_press 46 = .ok (.ireturn, 1) := by decide +kernel
theorem dX12_press_47 : decode cX12_press 47 = .ok (.aload_n 0, 1) := by decide +kernel
theorem dX12_press_48 : decode cX12_press 48 = .ok (.iload_n 1, 1) := by decide +kernel
theorem dX12_press_49 : decode cX12_press 49 = .ok (.iload_n 2, 1) := by decide +kernel
theorem dX12_press_50 : decode cX12_press 50 = .ok (.iload_n 3, 1) := by decide +kernel
theorem dX12_press_51 : decode cX12_press 51 = .ok (.iconst 1, 1) := by decide +kernel
theorem dX12_press_52 : decode cX12_press 52 = .ok (.invokevirtual 89, 3) := by decide +kernel
theorem dX12_press_55 : decode cX12_press 55 = .ok (.aload_n 0, 1) := by decide +kernel
theorem dX12_press_56 : decode cX12_press 56 = .ok (.getfield 47, 3) := by decide +kernel
theorem dX12_press_59 : decode cX12_press 59 = .ok (.aload_n 0, 1) := by decide +kernel
theorem dX12_press_60 : decode cX12_press 60 = .ok (.getfield 17, 3) := by decide +kernel
theorem dX12_press_63 : decode cX12_press 63 = .ok (.iload_n 1, 1) := by decide +kernel
theorem dX12_press_64 : decode cX12_press 64 = .ok (.iload_n 2, 1) := by decide +kernel
theorem dX12_press_65 : decode cX12_press 65 = .ok (.invokestatic 79, 3) := by decide +kernel
theorem dX12_press_68 : decode cX12_press 68 = .ok (.iaload, 1) := by decide +kernel
theorem dX12_press_69 : decode cX12_press 69 = .ok (.iadd, 1) := by decide +kernel
theorem dX12_press_70 : decode cX12_press 70 = .ok (.aload_n 0, 1) := by decide +kernel
theorem dX12_press_71 : decode cX12_press 71 = .ok (.getfield 13, 3) := by decide +kernel
theorem dX12_press_74 : decode cX12_press 74 = .ok (.iload_n 1, 1) := by decide +kernel
theorem dX12_press_75 : decode cX12_press 75 = .ok (.iload_n 2, 1) := by decide +kernel
theorem dX12_press_76 : decode cX12_press 76 = .ok (.invokestatic 79, 3) := by decide +kernel
theorem dX12_press_79 : decode cX12_press 79 = .ok (.iaload, 1) := by decide +kernel
theorem dX12_press_80 : decode cX12_press 80 = .ok (.isub, 1) := by decide +kernel
theorem dX12_press_81 : decode cX12_press 81 = .ok (.ireturn, 1) := by decide +kernel
theorem dX12_noise_0 : decode cX12_noise 0 = .ok (.aload_n 0, 1) := by decide +kernel
theorem dX12_noise_1 : decode cX12_noise 1 = .ok (.iload_n 1, 1) := by decide +kernel
theorem dX12_noise_2 : decode cX12_noise 2 = .ok (.iconst 0, 1) := by decide +kernel
theorem dX12_noise_3 : decode cX12_noise 3 = .ok (.iconst 5, 1) := by decide +kernel
theorem dX12_noise_4 : decode cX12_noise 4 = .ok (.invokestatic 3, 3) := by decide +kernel
theorem dX12_noise_7 : decode cX12_noise 7 = .ok (.ifCond .ne 7, 3) := by decide +kernel
theorem dX12_noise_10 : decode cX12_noise 10 = .ok (.iconst 1, 1) := by decide +kernel
theorem dX12_noise_11 : decode cX12_noise 11 = .ok (.goto 4, 3) := by decide +kernel
theorem dX12_noise_14 : decode cX12_noise 14 = .ok (.iconst 0, 1) := by decide +kernel
theorem dX12_noise_15 : decode cX12_noise 15 = .ok (.iconst 1, 1) := by decide +kernel
theorem dX12_noise_16 : decode cX12_noise 16 = .ok (.invokevirtual 59, 3) := by decide +kernel
theorem dX12_noise_19 : decode cX12_noise 19 = .ok (.ifCond .ne 27, 3) := by decide +kernel
theorem dX12_noise_22 : decode cX12_noise 22 = .ok (.aload_n 0, 1) := by decide +kernel
theorem dX12_noise_23 : decode cX12_noise 23 = .ok (.iload_n 2, 1) := by decide +kernel
theorem dX12_noise_24 : decode cX12_noise 24 = .ok (.bipush (-40), 2) := by decide +kernel
theorem dX12_noise_26 : decode cX12_noise 26 = .ok (.bipush 40, 2) := by decide +kernel
theorem dX12_noise_28 : decode cX12_noise 28 = .ok (.invokestatic 3, 3) := by decide +kernel
theorem dX12_noise_31 : decode cX12_noise 31 = .ok (.ifCond .ne 7, 3) := by decide +kernel
theorem dX12_noise_34 : decode cX12_noise 34 = .ok (.iconst 1, 1) := by decide +kernel
theorem dX12_noise_35 : decode cX12_noise 35 = .ok (.goto 4, 3) := by decide +kernel
theorem dX12_noise_38 : decode cX12_noise 38 = .ok (.iconst 0, 1) := by decide +kernel
theorem dX12_noise_39 : decode cX12_noise 39 = .ok (.iconst 2, 1) := by decide +kernel
theorem dX12_noise_40 : decode cX12_noise 40 = .ok (.invokevirtual 43, 3) := by decide +kernel
theorem dX12_noise_43 : decode cX12_noise 43 = .ok (.ifCond .eq 5, 3) := by decide +kernel
theorem dX12_noise_46 : decode cX12_noise 46 = .ok (.iconst 0, 1) := by decide +kernel
theorem dX12_noise_47 : decode cX12_noise 47 = .ok (.ireturn, 1) := by decide +kernel
theorem dX12_noise_48 : decode cX12_noise 48 = .ok (.iconst 0, 1) := by decide +kernel
theorem dX12_noise_49 : decode cX12_noise 49 = .ok (.istore_n 3, 1) := by decide +kernel
theorem dX12_noise_50 : decode cX12_noise 50 = .ok (.iload_n 3, 1) := by decide +kernel
theorem dX12_noise_51 : decode cX12_noise 51 = .ok (.bipush 8, 2) := by decide +kernel
theorem dX12_noise_53 : decode cX12_noise 53 = .ok (.if_icmp .ge 23, 3) := by decide +kernel
theorem dX12_noise_56 : decode cX12_noise 56 = .ok (.aload_n 0, 1) := by decide +kernel
theorem dX12_noise_57 : decode cX12_noise 57 = .ok (.getfield 17, 3) := by decide +kernel
theorem dX12_noise_60 : decode cX12_noise 60 = .ok (.iload_n 3, 1) := by decide +kernel
theorem dX12_noise_61 : decode cX12_noise 61 = .ok (.iload_n 1, 1) := by decide +kernel
theorem dX12_noise_62 : decode cX12_noise 62 = .ok (.invokestatic 79, 3) := by decide +kernel
theorem dX12_noise_65 : decode cX12_noise 65 = .ok (.dup2, 1) := by decide +kernel
theorem dX12_noise_66 : decode cX12_noise 66 = .ok (.iaload, 1) := by decide +kernel
theorem dX12_noise_67 : decode cX12_noise 67 = .ok (.iload_n 2, 1) := by decide +kernel
theorem dX12_noise_68 : decode cX12_noise 68 = .ok (.iadd, 1) := by decide +kernel
theorem dX12_noise_69 : decode cX12_noise 69 = .ok (.iastore, 1) := by decide +kernel
theorem dX12_noise_70 : decode cX12_noise 70 = .ok (.iinc 3 1, 3) := by decide +kernel
theorem dX12_noise_73 : decode cX12_noise 73 = .ok (.goto (-23), 3) := by decide +kernel
theorem dX12_noise_76 : decode cX12_noise 76 = .ok (.aload_n 0, 1) := by decide +kernel
theorem dX12_noise_77 : decode cX12_noise 77 = .ok (.invokevirtual 92, 3) := by decide +kernel
theorem dX12_noise_80 : decode cX12_noise 80 = .ok (.invokevirtual 96, 3) := by decide +kernel
theorem dX12_noise_83 : decode cX12_noise 83 = .ok (.ireturn, 1) := by decide +kernel
theorem dX12_count_0 : decode cX12_count 0 = .ok (.aload_n 1, 1) := by decide +kernel
theorem dX12_count_1 : decode cX12_count 1 = .ok (.getfield 99, 3) := by decide +kernel
theorem dX12_count_4 : decode cX12_count 4 = .ok (.iconst (-1), 1) := by decide +kernel
theorem dX12_count_5 : decode cX12_count 5 = .ok (.if_icmp .eq 26, 3) := by decide +kernel
theorem dX12_count_8 : decode cX12_count 8 = .ok (.aload_n 0, 1) := by decide +kernel
theorem dX12_count_9 : decode cX12_count 9 = .ok (.getfield 36, 3) := by decide +kernel
theorem dX12_count_12 : decode cX12_count 12 = .ok (.aload_n 1, 1) := by decide +kernel
theorem dX12_count_13 : decode cX12_count 13 = .ok (.getfield 99, 3) := by decide +kernel
theorem dX12_count_16 : decode cX12_count 16 = .ok (.invokevirtual 102, 3) := by decide +kernel
theorem dX12_count_19 : decode cX12_count 19 = .ok (.checkcast 66, 3) := by decide +kernel
theorem dX12_count_22 : decode cX12_count 22 = .ok (.getfield 106, 3) := by decide +kernel
theorem dX12_count_25 : decode cX12_count 25 = .ok (.iload_n 2, 1) := by decide +kernel
theorem dX12_count_26 : decode cX12_count 26 = .ok (.dup2, 1) := by decide +kernel
theorem dX12_count_27 : decode cX12_count 27 = .ok (.iaload, 1) := by decide +kernel
theorem dX12_count_28 : decode cX12_count 28 = .ok (.iload_n 3, 1) := by decide +kernel
theorem dX12_count_29 : decode cX12_count 29 = .ok (.iadd, 1) := by decide +kernel
theorem dX12_count_30 : decode cX12_count 30 = .ok (.iastore, 1) := by decide +kernel
theorem dX12_count_31 : decode cX12_count 31 = .ok (.return_, 1) := by decide +kernel
theorem dX12_cancel_0 : decode cX12_cancel 0 = .ok (.aload_n 0, 1) := by decide +kernel
theorem dX12_cancel_1 : decode cX12_cancel 1 = .ok (.getfield 29, 3) := by decide +kernel
theorem dX12_cancel_4 : decode cX12_cancel 4 = .ok (.iload_n 1, 1) := by decide +kernel
theorem dX12_cancel_5 : decode cX12_cancel 5 = .ok (.aaload, 1) := by decide +kernel
theorem dX12_cancel_6 : decode cX12_cancel 6 = .ok (.getfield 109, 3) := by decide +kernel
theorem dX12_cancel_9 : decode cX12_cancel 9 = .ok (.ifCond .eq 23, 3) := by decide +kernel
theorem dX12_cancel_12 : decode cX12_cancel 12 = .ok (.aload_n 0, 1) := by decide +kernel
theorem dX12_cancel_13 : decode cX12_cancel 13 = .ok (.aload_n 0, 1) := by decide +kernel
theorem dX12_cancel_14 : decode cX12_cancel 14 = .ok (.getfield 29, 3) := by decide +kernel
theorem dX12_cancel_17 : decode cX12_cancel 17 = .ok (.iload_n 1, 1) := by decide +kernel
theorem dX12_cancel_18 : decode cX12_cancel 18 = .ok (.aaload, 1) := by decide +kernel
theorem dX12_cancel_19 : decode cX12_cancel 19 = .ok (.aload_n 0, 1) := by decide +kernel
theorem dX12_cancel_20 : decode cX12_cancel 20 = .ok (.getfield 29, 3) := by decide +kernel
theorem dX12_cancel_23 : decode cX12_cancel 23 = .ok (.iload_n 1, 1) := by decide +kernel
theorem dX12_cancel_24 : decode cX12_cancel 24 = .ok (.aaload, 1) := by decide +kernel
theorem dX12_cancel_25 : decode cX12_cancel 25 = .ok (.getfield 109, 3) := by decide +kernel
theorem dX12_cancel_28 : decode cX12_cancel 28 = .ok (.iconst (-1), 1) := by decide +kernel
theorem dX12_cancel_29 : decode cX12_cancel 29 = .ok (.invokevirtual 112, 3) := by decide +kernel
theorem dX12_cancel_32 : decode cX12_cancel 32 = .ok (.aload_n 0, 1) := by decide +kernel
theorem dX12_cancel_33 : decode cX12_cancel 33 = .ok (.getfield 29, 3) := by decide +kernel
theorem dX12_cancel_36 : decode cX12_cancel 36 = .ok (.iload_n 1, 1) := by decide +kernel
theorem dX12_cancel_37 : decode cX12_cancel 37 = .ok (.aconst_null, 1) := by decide +kernel
theorem dX12_cancel_38 : decode cX12_cancel 38 = .ok (.aastore, 1) := by decide +kernel
theorem dX12_cancel_39 : decode cX12_cancel 39 = .ok (.aload_n 0, 1) := by decide +kernel
theorem dX12_cancel_40 : decode cX12_cancel 40 = .ok (.dup, 1) := by decide +kernel
theorem dX12_cancel_41 : decode cX12_cancel 41 = .ok (.getfield 116, 3) := by decide +kernel
theorem dX12_cancel_44 : decode cX12_cancel 44 = .ok (.iconst 1, 1) := by decide +kernel
theorem dX12_cancel_45 : decode cX12_cancel 45 = .ok (.iadd, 1) := by decide +kernel
theorem dX12_cancel_46 : decode cX12_cancel 46 = .ok (.putfield 116, 3) := by decide +kernel
theorem dX12_cancel_49 : decode cX12_cancel 49 = .ok (.return_, 1) := by decide +kernel
theorem dX12_miss_0 : decode cX12_miss 0 = .ok (.aload_n 0, 1) := by decide +kernel
theorem dX12_miss_1 : decode cX12_miss 1 = .ok (.getfield 29, 3) := by decide +kernel
theorem dX12_miss_4 : decode cX12_miss 4 = .ok (.iload_n 1, 1) := by decide +kernel
theorem dX12_miss_5 : decode cX12_miss 5 = .ok (.aaload, 1) := by decide +kernel
theorem dX12_miss_6 : decode cX12_miss 6 = .ok (.astore_n 2, 1) := by decide +kernel
theorem dX12_miss_7 : decode cX12_miss 7 = .ok (.aload_n 2, 1) := by decide +kernel
theorem dX12_miss_8 : decode cX12_miss 8 = .ok (.dup, 1) := by decide +kernel
theorem dX12_miss_9 : decode cX12_miss 9 = .ok (.getfield 119, 3) := by decide +kernel
theorem dX12_miss_12 : decode cX12_miss 12 = .ok (.iconst 1, 1) := by decide +kernel
theorem dX12_miss_13 : decode cX12_miss 13 = .ok (.iadd, 1) := by decide +kernel
theorem dX12_miss_14 : decode cX12_miss 14 = .ok (.putfield 119, 3) := by decide +kernel
theorem dX12_miss_17 : decode cX12_miss 17 = .ok (.aload_n 2, 1) := by decide +kernel
theorem dX12_miss_18 : decode cX12_miss 18 = .ok (.fconst 0, 1) := by decide +kernel
theorem dX12_miss_19 : decode cX12_miss 19 = .ok (.putfield 122, 3) := by decide +kernel
theorem dX12_miss_22 : decode cX12_miss 22 = .ok (.aload_n 2, 1) := by decide +kernel
theorem dX12_miss_23 : decode cX12_miss 23 = .ok (.fconst 0, 1) := by decide +kernel
theorem dX12_miss_24 : decode cX12_miss 24 = .ok (.putfield 126, 3) := by decide +kernel
theorem dX12_miss_27 : decode cX12_miss 27 = .ok (.aload_n 2, 1) := by decide +kernel
theorem dX12_miss_28 : decode cX12_miss 28 = .ok (.getfield 119, 3) := by decide +kernel
theorem dX12_miss_31 : decode cX12_miss 31 = .ok (.iconst 2, 1) := by decide +kernel
theorem dX12_miss_32 : decode cX12_miss 32 = .ok (.if_icmp .ge 4, 3) := by decide +kernel
theorem dX12_miss_35 : decode cX12_miss 35 = .ok (.return_, 1) := by decide +kernel
theorem dX12_miss_36 : decode cX12_miss 36 = .ok (.aload_n 2, 1) := by decide +kernel
theorem dX12_miss_37 : decode cX12_miss 37 = .ok (.getfield 109, 3) := by decide +kernel
theorem dX12_miss_40 : decode cX12_miss 40 = .ok (.ifCond .ne 18, 3) := by decide +kernel
theorem dX12_miss_43 : decode cX12_miss 43 = .ok (.aload_n 2, 1) := by decide +kernel
theorem dX12_miss_44 : decode cX12_miss 44 = .ok (.getfield 129, 3) := by decide +kernel
theorem dX12_miss_47 : decode cX12_miss 47 = .ok (.iconst 4, 1) := by decide +kernel
theorem dX12_miss_48 : decode cX12_miss 48 = .ok (.if_icmp .gt 10, 3) := by decide +kernel
theorem dX12_miss_51 : decode cX12_miss 51 = .ok (.aload_n 0, 1) := by decide +kernel
theorem dX12_miss_52 : decode cX12_miss 52 = .ok (.aload_n 2, 1) := by decide +kernel
theorem dX12_miss_53 : decode cX12_miss 53 = .ok (.iconst 0, 1) := by decide +kernel
theorem dX12_miss_54 : decode cX12_miss 54 = .ok (.iconst 1, 1) := by decide +kernel
theorem dX12_miss_55 : decode cX12_miss 55 = .ok (.invokevirtual 112, 3) := by decide +kernel
theorem dX12_miss_58 : decode cX12_miss 58 = .ok (.aload_n 0, 1) := by decide +kernel
theorem dX12_miss_59 : decode cX12_miss 59 = .ok (.getfield 29, 3) := by decide +kernel
theorem dX12_miss_62 : decode cX12_miss 62 = .ok (.iload_n 1, 1) := by decide +kernel
theorem dX12_miss_63 : decode cX12_miss 63 = .ok (.aconst_null, 1) := by decide +kernel
theorem dX12_miss_64 : decode cX12_miss 64 = .ok (.aastore, 1) := by decide +kernel
theorem dX12_miss_65 : decode cX12_miss 65 = .ok (.aload_n 0, 1) := by decide +kernel
theorem dX12_miss_66 : decode cX12_miss 66 = .ok (.dup, 1) := by decide +kernel
theorem dX12_miss_67 : decode cX12_miss 67 = .ok (.getfield 132, 3) := by decide +kernel
theorem dX12_miss_70 : decode cX12_miss 70 = .ok (.iconst 1, 1) := by decide +kernel
theorem dX12_miss_71 : decode cX12_miss 71 = .ok (.iadd, 1) := by decide +kernel
theorem dX12_miss_72 : decode cX12_miss 72 = .ok (.putfield 132, 3) := by decide +kernel
theorem dX12_miss_75 : decode cX12_miss 75 = .ok (.return_, 1) := by decide +kernel
theorem dX12_areaOf_0 : decode cX12_areaOf 0 = .ok (.aload_n 0, 1) := by decide +kernel
theorem dX12_areaOf_1 : decode cX12_areaOf 1 = .ok (.getfield 36, 3) := by decide +kernel
theorem dX12_areaOf_4 : decode cX12_areaOf 4 = .ok (.invokevirtual 62, 3) := by decide +kernel
theorem dX12_areaOf_7 : decode cX12_areaOf 7 = .ok (.iconst 1, 1) := by decide +kernel
theorem dX12_areaOf_8 : decode cX12_areaOf 8 = .ok (.isub, 1) := by decide +kernel
theorem dX12_areaOf_9 : decode cX12_areaOf 9 = .ok (.istore_n 2, 1) := by decide +kernel
theorem dX12_areaOf_10 : decode cX12_areaOf 10 = .ok (.iload_n 2, 1) := by decide +kernel
theorem dX12_areaOf_11 : decode cX12_areaOf 11 = .ok (.ifCond .lt 59, 3) := by decide +kernel
theorem dX12_areaOf_14 : decode cX12_areaOf 14 = .ok (.aload_n 0, 1) := by decide +kernel
theorem dX12_areaOf_15 : decode cX12_areaOf 15 = .ok (.getfield 36, 3) := by decide +kernel
theorem dX12_areaOf_18 : decode cX12_areaOf 18 = .ok (.iload_n 2, 1) := by decide +kernel
theorem dX12_areaOf_19 : decode cX12_areaOf 19 = .ok (.invokevirtual 102, 3) := by decide +kernel
theorem dX12_areaOf_22 : decode cX12_areaOf 22 = .ok (.checkcast 66, 3) := by decide +kernel
theorem dX12_areaOf_25 : decode cX12_areaOf 25 = .ok (.astore_n 3, 1) := by decide +kernel
theorem dX12_areaOf_26 : decode cX12_areaOf 26 = .ok (.iload_n 1, 1) := by decide +kernel
theorem dX12_areaOf_27 : decode cX12_areaOf 27 = .ok (.bipush 8, 2) := by decide +kernel
theorem dX12_areaOf_29 : decode cX12_areaOf 29 = .ok (.irem, 1) := by decide +kernel
theorem dX12_areaOf_30 : decode cX12_areaOf 30 = .ok (.aload_n 3, 1) := by decide +kernel
theorem dX12_areaOf_31 : decode cX12_areaOf 31 = .ok (.getfield 135, 3) := by decide +kernel
theorem dX12_areaOf_34 : decode cX12_areaOf 34 = .ok (.aload_n 3, 1) := by decide +kernel
theorem dX12_areaOf_35 : decode cX12_areaOf 35 = .ok (.getfield 138, 3) := by decide +kernel
theorem dX12_areaOf_38 : decode cX12_areaOf 38 = .ok (.invokestatic 3, 3) := by decide +kernel
theorem dX12_areaOf_41 : decode cX12_areaOf 41 = .ok (.ifCond .eq 23, 3) := by decide +kernel
theorem dX12_areaOf_44 : decode cX12_areaOf 44 = .ok (.iload_n 1, 1) := by decide +kernel
theorem dX12_areaOf_45 : decode cX12_areaOf 45 = .ok (.bipush 8, 2) := by decide +kernel
theorem dX12_areaOf_47 : decode cX12_areaOf 47 = .ok (.idiv, 1) := by decide +kernel
theorem dX12_areaOf_48 : decode cX12_areaOf 48 = .ok (.aload_n 3, 1) := by decide +kernel
theorem dX12_areaOf_49 : decode cX12_areaOf 49 = .ok (.getfield 141, 3) := by decide +kernel
theorem dX12_areaOf_52 : decode cX12_areaOf 52 = .ok (.aload_n 3, 1) := by decide +kernel
theorem dX12_areaOf_53 : decode cX12_areaOf 53 = .ok (.getfield 144, 3) := by decide +kernel
theorem dX12_areaOf_56 : decode cX12_areaOf 56 = .ok (.invokestatic 3, 3) := by decide +kernel
theorem dX12_areaOf_59 : decode cX12_areaOf 59 = .ok (.ifCond .eq 5, 3) := by decide +kernel
theorem dX12_areaOf_62 : decode cX12_areaOf 62 = .ok (.iload_n 2, 1) := by decide +kernel
theorem dX12_areaOf_63 : decode cX12_areaOf 63 = .ok (.ireturn, 1) := by decide +kernel
theorem dX12_areaOf_64 : decode cX12_areaOf 64 = .ok (.iinc 2 (-1), 3) := by decide +kernel
theorem dX12_areaOf_67 : decode cX12_areaOf 67 = .ok (.goto (-57), 3) := by decide +kernel
theorem dX12_areaOf_70 : decode cX12_areaOf 70 = .ok (.iconst (-1), 1) := by decide +kernel
theorem dX12_areaOf_71 : decode cX12_areaOf 71 = .ok (.ireturn, 1) := by decide +kernel
theorem dX12_begin_0 : decode cX12_begin 0 = .ok (.iconst 0, 1) := by decide +kernel
theorem dX12_begin_1 : decode cX12_begin 1 = .ok (.istore 4, 2) := by decide +kernel
theorem dX12_begin_3 : decode cX12_begin 3 = .ok (.iload 4, 2) := by decide +kernel
theorem dX12_begin_5 : decode cX12_begin 5 = .ok (.iconst 5, 1) := by decide +kernel
theorem dX12_begin_6 : decode cX12_begin 6 = .ok (.if_icmp .ge 19, 3) := by decide +kernel
theorem dX12_begin_9 : decode cX12_begin 9 = .ok (.aload_n 0, 1) := by decide +kernel
theorem dX12_begin_10 : decode cX12_begin 10 = .ok (.getfield 29, 3) := by decide +kernel
theorem dX12_begin_13 : decode cX12_begin 13 = .ok (.iload 4, 2) := by decide +kernel
theorem dX12_begin_15 : decode cX12_begin 15 = .ok (.aaload, 1) := by decide +kernel
theorem dX12_begin_16 : decode cX12_begin 16 = .ok (.ifnull 9, 3) := by decide +kernel
theorem dX12_begin_19 : decode cX12_begin 19 = .ok (.iinc 4 1, 3) := by decide +kernel
theorem dX12_begin_22 : decode cX12_begin 22 = .ok (.goto (-19), 3) := by decide +kernel
theorem dX12_begin_25 : decode cX12_begin 25 = .ok (.iload 4, 2) := by decide +kernel
theorem dX12_begin_27 : decode cX12_begin 27 = .ok (.iconst 5, 1) := by decide +kernel
theorem dX12_begin_28 : decode cX12_begin 28 = .ok (.if_icmp .ne 4, 3) := by decide +kernel
theorem dX12_begin_31 : decode cX12_begin 31 = .ok (.return_, 1) := by decide +kernel
theorem dX12_begin_32 : decode cX12_begin 32 = .ok (.new 27, 3) := by decide +kernel
theorem dX12_begin_35 : decode cX12_begin 35 = .ok (.dup, 1) := by decide +kernel
theorem dX12_begin_36 : decode cX12_begin 36 = .ok (.iload_n 2, 1) := by decide +kernel
theorem dX12_begin_37 : decode cX12_begin 37 = .ok (.iload_n 3, 1) := by decide +kernel
theorem dX12_begin_38 : decode cX12_begin 38 = .ok (.aload_n 0, 1) := by decide +kernel
theorem dX12_begin_39 : decode cX12_begin 39 = .ok (.iload_n 1, 1) := by decide +kernel
theorem dX12_begin_40 : decode cX12_begin 40 = .ok (.invokevirtual 147, 3) := by decide +kernel
theorem dX12_begin_43 : decode cX12_begin 43 = .ok (.invokespecial 150, 3) := by decide +kernel
theorem dX12_begin_46 : decode cX12_begin 46 = .ok (.astore 5, 2) := by decide +kernel
theorem dX12_begin_48 : decode cX12_begin 48 = .ok (.aload_n 0, 1) := by decide +kernel
theorem dX12_begin_49 : decode cX12_begin 49 = .ok (.getfield 29, 3) := by decide +kernel
theorem dX12_begin_52 : decode cX12_begin 52 = .ok (.iload 4, 2) := by decide +kernel
theorem dX12_begin_54 : decode cX12_begin 54 = .ok (.aload 5, 2) := by decide +kernel
theorem dX12_begin_56 : decode cX12_begin 56 = .ok (.aastore, 1) := by decide +kernel
theorem dX12_begin_57 : decode cX12_begin 57 = .ok (.aload_n 0, 1) := by decide +kernel
theorem dX12_begin_58 : decode cX12_begin 58 = .ok (.dup, 1) := by decide +kernel
theorem dX12_begin_59 : decode cX12_begin 59 = .ok (.getfield 153, 3) := by decide +kernel
theorem dX12_begin_62 : decode cX12_begin 62 = .ok (.iconst 1, 1) := by decide +kernel
theorem dX12_begin_63 : decode cX12_begin 63 = .ok (.iadd, 1) := by decide +kernel
theorem dX12_begin_64 : decode cX12_begin 64 = .ok (.putfield 153, 3) := by decide +kernel
theorem dX12_begin_67 : decode cX12_begin 67 = .ok (.iconst 0, 1) := by decide +kernel
theorem dX12_begin_68 : decode cX12_begin 68 = .ok (.istore 6, 2) := by decide +kernel
theorem dX12_begin_70 : decode cX12_begin 70 = .ok (.iload 6, 2) := by decide +kernel
theorem dX12_begin_72 : decode cX12_begin 72 = .ok (.iconst 5, 1) := by decide +kernel
theorem dX12_begin_73 : decode cX12_begin 73 = .ok (.if_icmp .ge 67, 3) := by decide +kernel
theorem dX12_begin_76 : decode cX12_begin 76 = .ok (.aload_n 0, 1) := by decide +kernel
theorem dX12_begin_77 : decode cX12_begin 77 = .ok (.getfield 29, 3) := by decide +kernel
theorem dX12_begin_80 : decode cX12_begin 80 = .ok (.iload 6, 2) := by decide +kernel
theorem dX12_begin_82 : decode cX12_begin 82 = .ok (.aaload, 1) := by decide +kernel
theorem dX12_begin_83 : decode cX12_begin 83 = .ok (.ifnull 51, 3) := by decide +kernel
theorem dX12_begin_86 : decode cX12_begin 86 = .ok (.iload 6, 2) := by decide +kernel
theorem dX12_begin_88 : decode cX12_begin 88 = .ok (.iload 4, 2) := by decide +kernel
theorem dX12_begin_90 : decode cX12_begin 90 = .ok (.if_icmp .eq 44, 3) := by decide +kernel
theorem dX12_begin_93 : decode cX12_begin 93 = .ok (.aload 5, 2) := by decide +kernel
theorem dX12_begin_95 : decode cX12_begin 95 = .ok (.getfield 156, 3) := by decide +kernel
theorem dX12_begin_98 : decode cX12_begin 98 = .ok (.iload 6, 2) := by decide +kernel
theorem dX12_begin_100 : decode cX12_begin 100 = .ok (.aload 5, 2) := by decide +kernel
theorem dX12_begin_102 : decode cX12_begin 102 = .ok (.aload_n 0, 1) := by decide +kernel
theorem dX12_begin_103 : decode cX12_begin 103 = .ok (.getfield 29, 3) := by decide +kernel
theorem dX12_begin_106 : decode cX12_begin 106 = .ok (.iload 6, 2) := by decide +kernel
theorem dX12_begin_108 : decode cX12_begin 108 = .ok (.aaload, 1) := by decide +kernel
theorem dX12_begin_109 : decode cX12_begin 109 = .ok (.invokevirtual 160, 3) := by decide +kernel
theorem dX12_begin_112 : decode cX12_begin 112 = .ok (.fastore, 1) := by decide +kernel
theorem dX12_begin_113 : decode cX12_begin 113 = .ok (.aload_n 0, 1) := by decide +kernel
theorem dX12_begin_114 : decode cX12_begin 114 = .ok (.getfield 29, 3) := by decide +kernel
theorem dX12_begin_117 : decode cX12_begin 117 = .ok (.iload 6, 2) := by decide +kernel
theorem dX12_begin_119 : decode cX12_begin 119 = .ok (.aaload, 1) := by decide +kernel
theorem dX12_begin_120 : decode cX12_begin 120 = .ok (.getfield 156, 3) := by decide +kernel
theorem dX12_begin_123 : decode cX12_begin 123 = .ok (.iload 4, 2) := by decide +kernel
theorem dX12_begin_125 : decode cX12_begin 125 = .ok (.aload 5, 2) := by decide +kernel
theorem dX12_begin_127 : decode cX12_begin 127 = .ok (.getfield 156, 3) := by decide +kernel
theorem dX12_begin_130 : decode cX12_begin 130 = .ok (.iload 6, 2) := by decide +kernel
theorem dX12_begin_132 : decode cX12_begin 132 = .ok (.faload, 1) := by decide +kernel
theorem dX12_begin_133 : decode cX12_begin 133 = .ok (.fastore, 1) := by decide +kernel
theorem dX12_begin_134 : decode cX12_begin 134 = .ok (.iinc 6 1, 3) := by decide +kernel
theorem dX12_begin_137 : decode cX12_begin 137 = .ok (.goto (-67), 3) := by decide +kernel
theorem dX12_begin_140 : decode cX12_begin 140 = .ok (.return_, 1) := by decide +kernel
theorem dX12_mayClaim_0 : decode cX12_mayClaim 0 = .ok (.aload_n 0, 1) := by decide +kernel
theorem dX12_mayClaim_1 : decode cX12_mayClaim 1 = .ok (.getfield 29, 3) := by decide +kernel
theorem dX12_mayClaim_4 : decode cX12_mayClaim 4 = .ok (.iload_n 1, 1) := by decide +kernel
theorem dX12_mayClaim_5 : decode cX12_mayClaim 5 = .ok (.aaload, 1) := by decide +kernel
theorem dX12_mayClaim_6 : decode cX12_mayClaim 6 = .ok (.ifnull 31, 3) := by decide +kernel
theorem dX12_mayClaim_9 : decode cX12_mayClaim 9 = .ok (.aload_n 0, 1) := by decide +kernel
theorem dX12_mayClaim_10 : decode cX12_mayClaim 10 = .ok (.getfield 29, 3) := by decide +kernel
theorem dX12_mayClaim_13 : decode cX12_mayClaim 13 = .ok (.iload_n 1, 1) := by decide +kernel
theorem dX12_mayClaim_14 : decode cX12_mayClaim 14 = .ok (.aaload, 1) := by decide +kernel
theorem dX12_mayClaim_15 : decode cX12_mayClaim 15 = .ok (.getfield 109, 3) := by decide +kernel
theorem dX12_mayClaim_18 : decode cX12_mayClaim 18 = .ok (.ifCond .ne 19, 3) := by decide +kernel
theorem dX12_mayClaim_21 : decode cX12_mayClaim 21 = .ok (.aload_n 0, 1) := by decide +kernel
theorem dX12_mayClaim_22 : decode cX12_mayClaim 22 = .ok (.getfield 29, 3) := by decide +kernel
theorem dX12_mayClaim_25 : decode cX12_mayClaim 25 = .ok (.iload_n 1, 1) := by decide +kernel
theorem dX12_mayClaim_26 : decode cX12_mayClaim 26 = .ok (.aaload, 1) := by decide +kernel
theorem dX12_mayClaim_27 : decode cX12_mayClaim 27 = .ok (.getfield 164, 3) := by decide +kernel
theorem dX12_mayClaim_30 : decode cX12_mayClaim 30 = .ok (.ifCond .eq 7, 3) := by decide +kernel
theorem dX12_mayClaim_33 : decode cX12_mayClaim 33 = .ok (.iconst 1, 1) := by decide +kernel
theorem dX12_mayClaim_34 : decode cX12_mayClaim 34 = .ok (.goto 4, 3) := by decide +kernel
theorem dX12_mayClaim_37 : decode cX12_mayClaim 37 = .ok (.iconst 0, 1) := by decide +kernel
theorem dX12_mayClaim_38 : decode cX12_mayClaim 38 = .ok (.ireturn, 1) := by decide +kernel
theorem dX12_claim_0 : decode cX12_claim 0 = .ok (.aload_n 0, 1) := by decide +kernel
theorem dX12_claim_1 : decode cX12_claim 1 = .ok (.getfield 29, 3) := by decide +kernel
theorem dX12_claim_4 : decode cX12_claim 4 = .ok (.iload_n 1, 1) := by decide +kernel
theorem dX12_claim_5 : decode cX12_claim 5 = .ok (.aaload, 1) := by decide +kernel
theorem dX12_claim_6 : decode cX12_claim 6 = .ok (.iload_n 2, 1) := by decide +kernel
theorem dX12_claim_7 : decode cX12_claim 7 = .ok (.putfield 109, 3) := by decide +kernel
theorem dX12_claim_10 : decode cX12_claim 10 = .ok (.aload_n 0, 1) := by decide +kernel
theorem dX12_claim_11 : decode cX12_claim 11 = .ok (.aload_n 0, 1) := by decide +kernel
theorem dX12_claim_12 : decode cX12_claim 12 = .ok (.getfield 29, 3) := by decide +kernel
theorem dX12_claim_15 : decode cX12_claim 15 = .ok (.iload_n 1, 1) := by decide +kernel
theorem dX12_claim_16 : decode cX12_claim 16 = .ok (.aaload, 1) := by decide +kernel
theorem dX12_claim_17 : decode cX12_claim 17 = .ok (.iload_n 2, 1) := by decide +kernel
theorem dX12_claim_18 : decode cX12_claim 18 = .ok (.iconst 1, 1) := by decide +kernel
theorem dX12_claim_19 : decode cX12_claim 19 = .ok (.invokevirtual 112, 3) := by decide +kernel
theorem dX12_claim_22 : decode cX12_claim 22 = .ok (.return_, 1) := by decide +kernel
theorem dX12_claims_0 : decode cX12_claims 0 = .ok (.iconst 0, 1) := by decide +kernel
theorem dX12_claims_1 : decode cX12_claims 1 = .ok (.istore_n 1, 1) := by decide +kernel
theorem dX12_claims_2 : decode cX12_claims 2 = .ok (.iload_n 1, 1) := by decide +kernel
theorem dX12_claims_3 : decode cX12_claims 3 = .ok (.iconst 5, 1) := by decide +kernel
theorem dX12_claims_4 : decode cX12_claims 4 = .ok (.if_icmp .ge 91, 3) := by decide +kernel
theorem dX12_claims_7 : decode cX12_claims 7 = .ok (.iload_n 1, 1) := by decide +kernel
theorem dX12_claims_8 : decode cX12_claims 8 = .ok (.iconst 1, 1) := by decide +kernel
theorem dX12_claims_9 : decode cX12_claims 9 = .ok (.iadd, 1) := by decide +kernel
theorem dX12_claims_10 : decode cX12_claims 10 = .ok (.istore_n 2, 1) := by decide +kernel
theorem dX12_claims_11 : decode cX12_claims 11 = .ok (.iload_n 2, 1) := by decide +kernel
theorem dX12_claims_12 : decode cX12_claims 12 = .ok (.iconst 5, 1) := by decide +kernel
theorem dX12_claims_13 : decode cX12_claims 13 = .ok (.if_icmp .ge 76, 3) := by decide +kernel
theorem dX12_claims_16 : decode cX12_claims 16 = .ok (.aload_n 0, 1) := by decide +kernel
theorem dX12_claims_17 : decode cX12_claims 17 = .ok (.iload_n 1, 1) := by decide +kernel
theorem dX12_claims_18 : decode cX12_claims 18 = .ok (.invokevirtual 168, 3) := by decide +kernel
theorem dX12_claims_21 : decode cX12_claims 21 = .ok (.ifCond .eq 62, 3) := by decide +kernel
theorem dX12_claims_24 : decode cX12_claims 24 = .ok (.aload_n 0, 1) := by decide +kernel
theorem dX12_claims_25 : decode cX12_claims 25 = .ok (.iload_n 2, 1) := by decide +kernel
theorem dX12_claims_26 : decode cX12_claims 26 = .ok (.invokevirtual 168, 3) := by decide +kernel
theorem dX12_claims_29 : decode cX12_claims 29 = .ok (.ifCond .eq 54, 3) := by decide +kernel
theorem dX12_claims_32 : decode cX12_claims 32 = .ok (.aload_n 0, 1) := by decide +kernel
theorem dX12_claims_33 : decode cX12_claims 33 = .ok (.getfield 29, 3) := by decide +kernel
theorem dX12_claims_36 : decode cX12_claims 36 = .ok (.iload_n 1, 1) := by decide +kernel
theorem dX12_claims_37 : decode cX12_claims 37 = .ok (.aaload, 1) := by decide +kernel
theorem dX12_claims_38 : decode cX12_claims 38 = .ok (.aload_n 0, 1) := by decide +kernel
theorem dX12_claims_39 : decode cX12_claims 39 = .ok (.getfield 29, 3) := by decide +kernel
theorem dX12_claims_42 : decode cX12_claims 42 = .ok (.iload_n 2, 1) := by decide +kernel
theorem dX12_claims_43 : decode cX12_claims 43 = .ok (.aaload, 1) := by decide +kernel
theorem dX12_claims_44 : decode cX12_claims 44 = .ok (.invokevirtual 160, 3) := by decide +kernel
theorem dX12_claims_47 : decode cX12_claims 47 = .ok (.aload_n 0, 1) := by decide +kernel
theorem dX12_claims_48 : decode cX12_claims 48 = .ok (.getfield 29, 3) := by decide +kernel
theorem dX12_claims_51 : decode cX12_claims 51 = .ok (.iload_n 1, 1) := by decide +kernel
theorem dX12_claims_52 : decode cX12_claims 52 = .ok (.aaload, 1) := by decide +kernel
theorem dX12_claims_53 : decode cX12_claims 53 = .ok (.getfield 156, 3) := by decide +kernel
theorem dX12_claims_56 : decode cX12_claims 56 = .ok (.iload_n 2, 1) := by decide +kernel
theorem dX12_claims_57 : decode cX12_claims 57 = .ok (.faload, 1) := by decide +kernel
theorem dX12_claims_58 : decode cX12_claims 58 = .ok (.fsub, 1) := by decide +kernel
theorem dX12_claims_59 : decode cX12_claims 59 = .ok (.invokestatic 172, 3) := by decide +kernel
theorem dX12_claims_62 : decode cX12_claims 62 = .ok (.ldc 175, 2) := by decide +kernel
theorem dX12_claims_64 : decode cX12_claims 64 = .ok (.fcmp .l, 1) := by decide +kernel
theorem dX12_claims_65 : decode cX12_claims 65 = .ok (.ifCond .gt 6, 3) := by decide +kernel
theorem dX12_claims_68 : decode cX12_claims 68 = .ok (.goto 15, 3) := by decide +kernel
theorem dX12_claims_71 : decode cX12_claims 71 = .ok (.aload_n 0, 1) := by decide +kernel
theorem dX12_claims_72 : decode cX12_claims 72 = .ok (.iload_n 1, 1) := by decide +kernel
theorem dX12_claims_73 : decode cX12_claims 73 = .ok (.iconst 1, 1) := by decide +kernel
theorem dX12_claims_74 : decode cX12_claims 74 = .ok (.invokevirtual 176, 3) := by decide +kernel
theorem dX12_claims_77 : decode cX12_claims 77 = .ok (.aload_n 0, 1) := by decide +kernel
theorem dX12_claims_78 : decode cX12_claims 78 = .ok (.iload_n 2, 1) := by decide +kernel
theorem dX12_claims_79 : decode cX12_claims 79 = .ok (.iconst 1, 1) := by decide +kernel
theorem dX12_claims_80 : decode cX12_claims 80 = .ok (.invokevirtual 176, 3) := by decide +kernel
theorem dX12_claims_83 : decode cX12_claims 83 = .ok (.iinc 2 1, 3) := by decide +kernel
theorem dX12_claims_86 : decode cX12_claims 86 = .ok (.goto (-75), 3) := by decide +kernel
theorem dX12_claims_89 : decode cX12_claims 89 = .ok (.iinc 1 1, 3) := by decide +kernel
theorem dX12_claims_92 : decode cX12_claims 92 = .ok (.goto (-90), 3) := by decide +kernel
theorem dX12_claims_95 : decode cX12_claims 95 = .ok (.iconst 0, 1) := by decide +kernel
theorem dX12_claims_96 : decode cX12_claims 96 = .ok (.istore_n 1, 1) := by decide +kernel
theorem dX12_claims_97 : decode cX12_claims 97 = .ok (.iload_n 1, 1) := by decide +kernel
theorem dX12_claims_98 : decode cX12_claims 98 = .ok (.iconst 5, 1) := by decide +kernel
theorem dX12_claims_99 : decode cX12_claims 99 = .ok (.if_icmp .ge 64, 3) := by decide +kernel
theorem dX12_claims_102 : decode cX12_claims 102 = .ok (.aload_n 0, 1) := by decide +kernel
theorem dX12_claims_103 : decode cX12_claims 103 = .ok (.iload_n 1, 1) := by decide +kernel
theorem dX12_claims_104 : decode cX12_claims 104 = .ok (.invokevirtual 168, 3) := by decide +kernel
theorem dX12_claims_107 : decode cX12_claims 107 = .ok (.ifCond .ne 6, 3) := by decide +kernel
theorem dX12_claims_110 : decode cX12_claims 110 = .ok (.goto 47, 3) := by decide +kernel
theorem dX12_claims_113 : decode cX12_claims 113 = .ok (.aload_n 0, 1) := by decide +kernel
theorem dX12_claims_114 : decode cX12_claims 114 = .ok (.getfield 29, 3) := by decide +kernel
theorem dX12_claims_117 : decode cX12_claims 117 = .ok (.iload_n 1, 1) := by decide +kernel
theorem dX12_claims_118 : decode cX12_claims 118 = .ok (.aaload, 1) := by decide +kernel
theorem dX12_claims_119 : decode cX12_claims 119 = .ok (.getfield 180, 3) := by decide +kernel
theorem dX12_claims_122 : decode cX12_claims 122 = .ok (.ldc 183, 2) := by decide +kernel
theorem dX12_claims_124 : decode cX12_claims 124 = .ok (.fcmp .l, 1) := by decide +kernel
theorem dX12_claims_125 : decode cX12_claims 125 = .ok (.ifCond .le 12, 3) := by decide +kernel
theorem dX12_claims_128 : decode cX12_claims 128 = .ok (.aload_n 0, 1) := by decide +kernel
theorem dX12_claims_129 : decode cX12_claims 129 = .ok (.iload_n 1, 1) := by decide +kernel
theorem dX12_claims_130 : decode cX12_claims 130 = .ok (.iconst 2, 1) := by decide +kernel
theorem dX12_claims_131 : decode cX12_claims 131 = .ok (.invokevirtual 176, 3) := by decide +kernel
theorem dX12_claims_134 : decode cX12_claims 134 = .ok (.goto 23, 3) := by decide +kernel
theorem dX12_claims_137 : decode cX12_claims 137 = .ok (.aload_n 0, 1) := by decide +kernel
theorem dX12_claims_138 : decode cX12_claims 138 = .ok (.getfield 29, 3) := by decide +kernel
theorem dX12_claims_141 : decode cX12_claims 141 = .ok (.iload_n 1, 1) := by decide +kernel
theorem dX12_claims_142 : decode cX12_claims 142 = .ok (.aaload, 1) := by decide +kernel
theorem dX12_claims_143 : decode cX12_claims 143 = .ok (.getfield 129, 3) := by decide +kernel
theorem dX12_claims_146 : decode cX12_claims 146 = .ok (.bipush 8, 2) := by decide +kernel
theorem dX12_claims_148 : decode cX12_claims 148 = .ok (.if_icmp .lt 9, 3) := by decide +kernel
theorem dX12_claims_151 : decode cX12_claims 151 = .ok (.aload_n 0, 1) := by decide +kernel
theorem dX12_claims_152 : decode cX12_claims 152 = .ok (.iload_n 1, 1) := by decide +kernel
theorem dX12_claims_153 : decode cX12_claims 153 = .ok (.iconst 3, 1) := by decide +kernel
theorem dX12_claims_154 : decode cX12_claims 154 = .ok (.invokevirtual 176, 3) := by decide +kernel
theorem dX12_claims_157 : decode cX12_claims 157 = .ok (.iinc 1 1, 3) := by decide +kernel
theorem dX12_claims_160 : decode cX12_claims 160 = .ok (.goto (-63), 3) := by decide +kernel
theorem dX12_claims_163 : decode cX12_claims 163 = .ok (.return_, 1) := by decide +kernel
theorem dX12_track_0 : decode cX12_track 0 = .ok (.new 184, 3) := by decide +kernel
theorem dX12_track_3 : decode cX12_track 3 = .ok (.dup, 1) := by decide +kernel
theorem dX12_track_4 : decode cX12_track 4 = .ok (.aload_n 0, 1) := by decide +kernel
theorem dX12_track_5 : decode cX12_track 5 = .ok (.aload_n 1, 1) := by decide +kernel
theorem dX12_track_6 : decode cX12_track 6 = .ok (.invokespecial 186, 3) := by decide +kernel
theorem dX12_track_9 : decode cX12_track 9 = .ok (.getfield 189, 3) := by decide +kernel
theorem dX12_track_12 : decode cX12_track 12 = .ok (.astore_n 2, 1) := by decide +kernel
theorem dX12_track_13 : decode cX12_track 13 = .ok (.bipush 48, 2) := by decide +kernel
theorem dX12_track_15 : decode cX12_track 15 = .ok (.newarray .boolean, 2) := by decide +kernel
theorem dX12_track_17 : decode cX12_track 17 = .ok (.astore_n 3, 1) := by decide +kernel
theorem dX12_track_18 : decode cX12_track 18 = .ok (.iconst 0, 1) := by decide +kernel
theorem dX12_track_19 : decode cX12_track 19 = .ok (.istore 4, 2) := by decide +kernel
theorem dX12_track_21 : decode cX12_track 21 = .ok (.iload 4, 2) := by decide +kernel
theorem dX12_track_23 : decode cX12_track 23 = .ok (.iconst 5, 1) := by decide +kernel
theorem dX12_track_24 : decode cX12_track 24 = .ok (.if_icmp .ge 105, 3) := by decide +kernel
theorem dX12_track_27 : decode cX12_track 27 = .ok (.aload_n 0, 1) := by decide +kernel
theorem dX12_track_28 : decode cX12_track 28 = .ok (.getfield 29, 3) := by decide +kernel
theorem dX12_track_31 : decode cX12_track 31 = .ok (.iload 4, 2) := by decide +kernel
theorem dX12_track_33 : decode cX12_track 33 = .ok (.aaload, 1) := by decide +kernel
theorem dX12_track_34 : decode cX12_track 34 = .ok (.ifnull 14, 3) := by decide +kernel
theorem dX12_track_37 : decode cX12_track 37 = .ok (.aload_n 0, 1) := by decide +kernel
theorem dX12_track_38 : decode cX12_track 38 = .ok (.getfield 29, 3) := by decide +kernel
theorem dX12_track_41 : decode cX12_track 41 = .ok (.iload 4, 2) := by decide +kernel
theorem dX12_track_43 : decode cX12_track 43 = .ok (.aaload, 1) := by decide +kernel
theorem dX12_track_44 : decode cX12_track 44 = .ok (.iconst 0, 1) := by decide +kernel
theorem dX12_track_45 : decode cX12_track 45 = .ok (.putfield 164, 3) := by decide +kernel
theorem dX12_track_48 : decode cX12_track 48 = .ok (.aload_n 2, 1) := by decide +kernel
theorem dX12_track_49 : decode cX12_track 49 = .ok (.iload 4, 2) := by decide +kernel
theorem dX12_track_51 : decode cX12_track 51 = .ok (.iaload, 1) := by decide +kernel
theorem dX12_track_52 : decode cX12_track 52 = .ok (.iconst (-1), 1) := by decide +kernel
theorem dX12_track_53 : decode cX12_track 53 = .ok (.if_icmp .ne 6, 3) := by decide +kernel
theorem dX12_track_56 : decode cX12_track 56 = .ok (.goto 67, 3) := by decide +kernel
theorem dX12_track_59 : decode cX12_track 59 = .ok (.aload_n 1, 1) := by decide +kernel
theorem dX12_track_60 : decode cX12_track 60 = .ok (.getfield 192, 3) := by decide +kernel
theorem dX12_track_63 : decode cX12_track 63 = .ok (.aload_n 2, 1) := by decide +kernel
theorem dX12_track_64 : decode cX12_track 64 = .ok (.iload 4, 2) := by decide +kernel
theorem dX12_track_66 : decode cX12_track 66 = .ok (.iaload, 1) := by decide +kernel
theorem dX12_track_67 : decode cX12_track 67 = .ok (.iaload, 1) := by decide +kernel
theorem dX12_track_68 : decode cX12_track 68 = .ok (.istore 5, 2) := by decide +kernel
theorem dX12_track_70 : decode cX12_track 70 = .ok (.aload_n 3, 1) := by decide +kernel
theorem dX12_track_71 : decode cX12_track 71 = .ok (.aload_n 2, 1) := by decide +kernel
theorem dX12_track_72 : decode cX12_track 72 = .ok (.iload 4, 2) := by decide +kernel
theorem dX12_track_74 : decode cX12_track 74 = .ok (.iaload, 1) := by decide +kernel
theorem dX12_track_75 : decode cX12_track 75 = .ok (.iconst 1, 1) := by decide +kernel
theorem dX12_track_76 : decode cX12_track 76 = .ok (.bastore, 1) := by decide +kernel
theorem dX12_track_77 : decode cX12_track 77 = .ok (.aload_n 1, 1) := by decide +kernel
theorem dX12_track_78 : decode cX12_track 78 = .ok (.iload 5, 2) := by decide +kernel
theorem dX12_track_80 : decode cX12_track 80 = .ok (.invokevirtual 195, 3) := by decide +kernel
theorem dX12_track_83 : decode cX12_track 83 = .ok (.ifCond .eq 12, 3) := by decide +kernel
theorem dX12_track_86 : decode cX12_track 86 = .ok (.aload_n 0, 1) := by decide +kernel
theorem dX12_track_87 : decode cX12_track 87 = .ok (.iload 4, 2) := by decide +kernel
theorem dX12_track_89 : decode cX12_track 89 = .ok (.invokevirtual 198, 3) := by decide +kernel
theorem dX12_track_92 : decode cX12_track 92 = .ok (.goto 31, 3) := by decide +kernel
theorem dX12_track_95 : decode cX12_track 95 = .ok (.aload_n 0, 1) := by decide +kernel
theorem dX12_track_96 : decode cX12_track 96 = .ok (.getfield 29, 3) := by decide +kernel
theorem dX12_track_99 : decode cX12_track 99 = .ok (.iload 4, 2) := by decide +kernel
theorem dX12_track_101 : decode cX12_track 101 = .ok (.aaload, 1) := by decide +kernel
theorem dX12_track_102 : decode cX12_track 102 = .ok (.aload_n 1, 1) := by decide +kernel
theorem dX12_track_103 : decode cX12_track 103 = .ok (.iload 5, 2) := by decide +kernel
theorem dX12_track_105 : decode cX12_track 105 = .ok (.iconst 0, 1) := by decide +kernel
theorem dX12_track_106 : decode cX12_track 106 = .ok (.invokevirtual 202, 3) := by decide +kernel
theorem dX12_track_109 : decode cX12_track 109 = .ok (.aload_n 1, 1) := by decide +kernel
theorem dX12_track_110 : decode cX12_track 110 = .ok (.iload 5, 2) := by decide +kernel
theorem dX12_track_112 : decode cX12_track 112 = .ok (.iconst 1, 1) := by decide +kernel
theorem dX12_track_113 : decode cX12_track 113 = .ok (.invokevirtual 202, 3) := by decide +kernel
theorem dX12_track_116 : decode cX12_track 116 = .ok (.aload_n 0, 1) := by decide +kernel
theorem dX12_track_117 : decode cX12_track 117 = .ok (.getfield 20, 3) := by decide +kernel
theorem dX12_track_120 : decode cX12_track 120 = .ok (.invokevirtual 206, 3) := by decide +kernel
theorem dX12_track_123 : decode cX12_track 123 = .ok (.iinc 4 1, 3) := by decide +kernel
theorem dX12_track_126 : decode cX12_track 126 = .ok (.goto (-105), 3) := by decide +kernel
theorem dX12_track_129 : decode cX12_track 129 = .ok (.iconst 0, 1) := by decide +kernel
theorem dX12_track_130 : decode cX12_track 130 = .ok (.istore 4, 2) := by decide +kernel
theorem dX12_track_132 : decode cX12_track 132 = .ok (.iload 4, 2) := by decide +kernel
theorem dX12_track_134 : decode cX12_track 134 = .ok (.iconst 5, 1) := by decide +kernel
theorem dX12_track_135 : decode cX12_track 135 = .ok (.if_icmp .ge 33, 3) := by decide +kernel
theorem dX12_track_138 : decode cX12_track 138 = .ok (.aload_n 0, 1) := by decide +kernel
theorem dX12_track_139 : decode cX12_track 139 = .ok (.getfield 29, 3) := by decide +kernel
theorem dX12_track_142 : decode cX12_track 142 = .ok (.iload 4, 2) := by decide +kernel
theorem dX12_track_144 : decode cX12_track 144 = .ok (.aaload, 1) := by decide +kernel
theorem dX12_track_145 : decode cX12_track 145 = .ok (.ifnull 17, 3) := by decide +kernel
theorem dX12_track_148 : decode cX12_track 148 = .ok (.aload_n 2, 1) := by decide +kernel
theorem dX12_track_149 : decode cX12_track 149 = .ok (.iload 4, 2) := by decide +kernel
theorem dX12_track_151 : decode cX12_track 151 = .ok (.iaload, 1) := by decide +kernel
theorem dX12_track_152 : decode cX12_track 152 = .ok (.iconst (-1), 1) := by decide +kernel
theorem dX12_track_153 : decode cX12_track 153 = .ok (.if_icmp .ne 9, 3) := by decide +kernel
theorem dX12_track_156 : decode cX12_track 156 = .ok (.aload_n 0, 1) := by decide +kernel
theorem dX12_track_157 : decode cX12_track 157 = .ok (.iload 4, 2) := by decide +kernel
theorem dX12_track_159 : decode cX12_track 159 = .ok (.invokevirtual 209, 3) := by decide +kernel
theorem dX12_track_162 : decode cX12_track 162 = .ok (.iinc 4 1, 3) := by decide +kernel
theorem dX12_track_165 : decode cX12_track 165 = .ok (.goto (-33), 3) := by decide +kernel
theorem dX12_track_168 : decode cX12_track 168 = .ok (.iconst 0, 1) := by decide +kernel
theorem dX12_track_169 : decode cX12_track 169 = .ok (.istore 4, 2) := by decide +kernel
theorem dX12_track_171 : decode cX12_track 171 = .ok (.iload 4, 2) := by decide +kernel
theorem dX12_track_173 : decode cX12_track 173 = .ok (.aload_n 1, 1) := by decide +kernel
theorem dX12_track_174 : decode cX12_track 174 = .ok (.getfield 212, 3) := by decide +kernel
theorem dX12_track_177 : decode cX12_track 177 = .ok (.if_icmp .ge 65, 3) := by decide +kernel
theorem dX12_track_180 : decode cX12_track 180 = .ok (.aload_n 3, 1) := by decide +kernel
theorem dX12_track_181 : decode cX12_track 181 = .ok (.iload 4, 2) := by decide +kernel
theorem dX12_track_183 : decode cX12_track 183 = .ok (.baload, 1) := by decide +kernel
theorem dX12_track_184 : decode cX12_track 184 = .ok (.ifCond .ne 52, 3) := by decide +kernel
theorem dX12_track_187 : decode cX12_track 187 = .ok (.aload_n 1, 1) := by decide +kernel
theorem dX12_track_188 : decode cX12_track 188 = .ok (.aload_n 1, 1) := by decide +kernel
theorem dX12_track_189 : decode cX12_track 189 = .ok (.getfield 192, 3) := by decide +kernel
theorem dX12_track_192 : decode cX12_track 192 = .ok (.iload 4, 2) := by decide +kernel
theorem dX12_track_194 : decode cX12_track 194 = .ok (.iaload, 1) := by decide +kernel
theorem dX12_track_195 : decode cX12_track 195 = .ok (.invokevirtual 195, 3) := by decide +kernel
theorem dX12_track_198 : decode cX12_track 198 = .ok (.ifCond .ne 38, 3) := by decide +kernel
theorem dX12_track_201 : decode cX12_track 201 = .ok (.aload_n 0, 1) := by decide +kernel
theorem dX12_track_202 : decode cX12_track 202 = .ok (.aload_n 1, 1) := by decide +kernel
theorem dX12_track_203 : decode cX12_track 203 = .ok (.getfield 192, 3) := by decide +kernel
theorem dX12_track_206 : decode cX12_track 206 = .ok (.iload 4, 2) := by decide +kernel
theorem dX12_track_208 : decode cX12_track 208 = .ok (.iaload, 1) := by decide +kernel
theorem dX12_track_209 : decode cX12_track 209 = .ok (.aload_n 1, 1) := by decide +kernel
theorem dX12_track_210 : decode cX12_track 210 = .ok (.aload_n 1, 1) := by decide +kernel
theorem dX12_track_211 : decode cX12_track 211 = .ok (.getfield 192, 3) := by decide +kernel
theorem dX12_track_214 : decode cX12_track 214 = .ok (.iload 4, 2) := by decide +kernel
theorem dX12_track_216 : decode cX12_track 216 = .ok (.iaload, 1) := by decide +kernel
theorem dX12_track_217 : decode cX12_track 217 = .ok (.iconst 0, 1) := by decide +kernel
theorem dX12_track_218 : decode cX12_track 218 = .ok (.invokevirtual 202, 3) := by decide +kernel
theorem dX12_track_221 : decode cX12_track 221 = .ok (.aload_n 1, 1) := by decide +kernel
theorem dX12_track_222 : decode cX12_track 222 = .ok (.aload_n 1, 1) := by decide +kernel
theorem dX12_track_223 : decode cX12_track 223 = .ok (.getfield 192, 3) := by decide +kernel
theorem dX12_track_226 : decode cX12_track 226 = .ok (.iload 4, 2) := by decide +kernel
theorem dX12_track_228 : decode cX12_track 228 = .ok (.iaload, 1) := by decide +kernel
theorem dX12_track_229 : decode cX12_track 229 = .ok (.iconst 1, 1) := by decide +kernel
theorem dX12_track_230 : decode cX12_track 230 = .ok (.invokevirtual 202, 3) := by decide +kernel
theorem dX12_track_233 : decode cX12_track 233 = .ok (.invokevirtual 215, 3) := by decide +kernel
theorem dX12_track_236 : decode cX12_track 236 = .ok (.iinc 4 1, 3) := by decide +kernel
theorem dX12_track_239 : decode cX12_track 239 = .ok (.goto (-68), 3) := by decide +kernel
theorem dX12_track_242 : decode cX12_track 242 = .ok (.aload_n 0, 1) := by decide +kernel
theorem dX12_track_243 : decode cX12_track 243 = .ok (.invokevirtual 218, 3) := by decide +kernel
theorem dX12_track_246 : decode cX12_track 246 = .ok (.aload_n 0, 1) := by decide +kernel
theorem dX12_track_247 : decode cX12_track 247 = .ok (.dup, 1) := by decide +kernel
theorem dX12_track_248 : decode cX12_track 248 = .ok (.getfield 220, 3) := by decide +kernel
theorem dX12_track_251 : decode cX12_track 251 = .ok (.iconst 1, 1) := by decide +kernel
theorem dX12_track_252 : decode cX12_track 252 = .ok (.iadd, 1) := by decide +kernel
theorem dX12_track_253 : decode cX12_track 253 = .ok (.putfield 220, 3) := by decide +kernel
theorem dX12_track_256 : decode cX12_track 256 = .ok (.return_, 1) := by decide +kernel
theorem dX12_clean_0 : decode cX12_clean 0 = .ok (.iconst 0, 1) := by decide +kernel
theorem dX12_clean_1 : decode cX12_clean 1 = .ok (.istore_n 1, 1) := by decide +kernel
theorem dX12_clean_2 : decode cX12_clean 2 = .ok (.iload_n 1, 1) := by decide +kernel
theorem dX12_clean_3 : decode cX12_clean 3 = .ok (.bipush 48, 2) := by decide +kernel
theorem dX12_clean_5 : decode cX12_clean 5 = .ok (.if_icmp .ge 16, 3) := by decide +kernel
theorem dX12_clean_8 : decode cX12_clean 8 = .ok (.aload_n 0, 1) := by decide +kernel
theorem dX12_clean_9 : decode cX12_clean 9 = .ok (.getfield 17, 3) := by decide +kernel
theorem dX12_clean_12 : decode cX12_clean 12 = .ok (.iload_n 1, 1) := by decide +kernel
theorem dX12_clean_13 : decode cX12_clean 13 = .ok (.iconst 0, 1) := by decide +kernel
theorem dX12_clean_14 : decode cX12_clean 14 = .ok (.iastore, 1) := by decide +kernel
theorem dX12_clean_15 : decode cX12_clean 15 = .ok (.iinc 1 1, 3) := by decide +kernel
theorem dX12_clean_18 : decode cX12_clean 18 = .ok (.goto (-16), 3) := by decide +kernel
theorem dX12_clean_21 : decode cX12_clean 21 = .ok (.return_, 1) := by decide +kernel
theorem dX12_frame_0 : decode cX12_frame 0 = .ok (.aload_n 0, 1) := by decide +kernel
theorem dX12_frame_1 : decode cX12_frame 1 = .ok (.iconst 0, 1) := by decide +kernel
theorem dX12_frame_2 : decode cX12_frame 2 = .ok (.putfield 40, 3) := by decide +kernel
theorem dX12_frame_5 : decode cX12_frame 5 = .ok (.aload_n 0, 1) := by decide +kernel
theorem dX12_frame_6 : decode cX12_frame 6 = .ok (.invokevirtual 92, 3) := by decide +kernel
theorem dX12_frame_9 : decode cX12_frame 9 = .ok (.astore_n 1, 1) := by decide +kernel
theorem dX12_frame_10 : decode cX12_frame 10 = .ok (.aload_n 1, 1) := by decide +kernel
theorem dX12_frame_11 : decode cX12_frame 11 = .ok (.invokevirtual 96, 3) := by decide +kernel
theorem dX12_frame_14 : decode cX12_frame 14 = .ok (.aload_n 0, 1) := by decide +kernel
theorem dX12_frame_15 : decode cX12_frame 15 = .ok (.getfield 24, 3) := by decide +kernel
theorem dX12_frame_18 : decode cX12_frame 18 = .ok (.if_icmp .le 7, 3) := by decide +kernel
theorem dX12_frame_21 : decode cX12_frame 21 = .ok (.iconst 1, 1) := by decide +kernel
theorem dX12_frame_22 : decode cX12_frame 22 = .ok (.goto 4, 3) := by decide +kernel
theorem dX12_frame_25 : decode cX12_frame 25 = .ok (.iconst 0, 1) := by decide +kernel
theorem dX12_frame_26 : decode cX12_frame 26 = .ok (.istore_n 2, 1) := by decide +kernel
theorem dX12_frame_27 : decode cX12_frame 27 = .ok (.iload_n 2, 1) := by decide +kernel
theorem dX12_frame_28 : decode cX12_frame 28 = .ok (.ifCond .eq 16, 3) := by decide +kernel
theorem dX12_frame_31 : decode cX12_frame 31 = .ok (.aload_n 0, 1) := by decide +kernel
theorem dX12_frame_32 : decode cX12_frame 32 = .ok (.dup, 1) := by decide +kernel
theorem dX12_frame_33 : decode cX12_frame 33 = .ok (.getfield 223, 3) := by decide +kernel
theorem dX12_frame_36 : decode cX12_frame 36 = .ok (.iconst 1, 1) := by decide +kernel
theorem dX12_frame_37 : decode cX12_frame 37 = .ok (.iadd, 1) := by decide +kernel
theorem dX12_frame_38 : decode cX12_frame 38 = .ok (.putfield 223, 3) := by decide +kernel
theorem dX12_frame_41 : decode cX12_frame 41 = .ok (.goto 8, 3) := by decide +kernel
theorem dX12_frame_44 : decode cX12_frame 44 = .ok (.aload_n 0, 1) := by decide +kernel
theorem dX12_frame_45 : decode cX12_frame 45 = .ok (.aload_n 1, 1) := by decide +kernel
theorem dX12_frame_46 : decode cX12_frame 46 = .ok (.invokevirtual 226, 3) := by decide +kernel
theorem dX12_frame_49 : decode cX12_frame 49 = .ok (.iconst 0, 1) := by decide +kernel
theorem dX12_frame_50 : decode cX12_frame 50 = .ok (.istore_n 3, 1) := by decide +kernel
theorem dX12_frame_51 : decode cX12_frame 51 = .ok (.iload_n 3, 1) := by decide +kernel
theorem dX12_frame_52 : decode cX12_frame 52 = .ok (.bipush 48, 2) := by decide +kernel
theorem dX12_frame_54 : decode cX12_frame 54 = .ok (.if_icmp .ge 23, 3) := by decide +kernel
theorem dX12_frame_57 : decode cX12_frame 57 = .ok (.aload_n 0, 1) := by decide +kernel
theorem dX12_frame_58 : decode cX12_frame 58 = .ok (.getfield 13, 3) := by decide +kernel
theorem dX12_frame_61 : decode cX12_frame 61 = .ok (.iload_n 3, 1) := by decide +kernel
theorem dX12_frame_62 : decode cX12_frame 62 = .ok (.dup2, 1) := by decide +kernel
theorem dX12_frame_63 : decode cX12_frame 63 = .ok (.iaload, 1) := by decide +kernel
theorem dX12_frame_64 : decode cX12_frame 64 = .ok (.aload_n 1, 1) := by decide +kernel
theorem dX12_frame_65 : decode cX12_frame 65 = .ok (.iload_n 3, 1) := by decide +kernel
theorem dX12_frame_66 : decode cX12_frame 66 = .ok (.invokevirtual 230, 3) := by decide +kernel
theorem dX12_frame_69 : decode cX12_frame 69 = .ok (.iadd, 1) := by decide +kernel
theorem dX12_frame_70 : decode cX12_frame 70 = .ok (.iastore, 1) := by decide +kernel
theorem dX12_frame_71 : decode cX12_frame 71 = .ok (.iinc 3 1, 3) := by decide +kernel
theorem dX12_frame_74 : decode cX12_frame 74 = .ok (.goto (-23), 3) := by decide +kernel
theorem dX12_frame_77 : decode cX12_frame 77 = .ok (.aload_n 0, 1) := by decide +kernel
theorem dX12_frame_78 : decode cX12_frame 78 = .ok (.invokevirtual 233, 3) := by decide +kernel
theorem dX12_frame_81 : decode cX12_frame 81 = .ok (.iload_n 2, 1) := by decide +kernel
theorem dX12_frame_82 : decode cX12_frame 82 = .ok (.ifCond .eq 8, 3) := by decide +kernel
theorem dX12_frame_85 : decode cX12_frame 85 = .ok (.bipush (-2), 2) := by decide +kernel
theorem dX12_frame_87 : decode cX12_frame 87 = .ok (.goto 7, 3) := by decide +kernel
theorem dX12_frame_90 : decode cX12_frame 90 = .ok (.aload_n 0, 1) := by decide +kernel
theorem dX12_frame_91 : decode cX12_frame 91 = .ok (.invokevirtual 236, 3) := by decide +kernel
theorem dX12_frame_94 : decode cX12_frame 94 = .ok (.ireturn, 1) := by decide +kernel
theorem dX12_wipe_0 : decode cX12_wipe 0 = .ok (.aload_n 0, 1) := by decide +kernel
theorem dX12_wipe_1 : decode cX12_wipe 1 = .ok (.iconst 0, 1) := by decide +kernel
theorem dX12_wipe_2 : decode cX12_wipe 2 = .ok (.putfield 40, 3) := by decide +kernel
theorem dX12_wipe_5 : decode cX12_wipe 5 = .ok (.aload_n 0, 1) := by decide +kernel
theorem dX12_wipe_6 : decode cX12_wipe 6 = .ok (.invokevirtual 236, 3) := by decide +kernel
theorem dX12_wipe_9 : decode cX12_wipe 9 = .ok (.istore_n 1, 1) := by decide +kernel
theorem dX12_wipe_10 : decode cX12_wipe 10 = .ok (.iconst 0, 1) := by decide +kernel
theorem dX12_wipe_11 : decode cX12_wipe 11 = .ok (.istore_n 2, 1) := by decide +kernel
theorem dX12_wipe_12 : decode cX12_wipe 12 = .ok (.iload_n 2, 1) := by decide +kernel
theorem dX12_wipe_13 : decode cX12_wipe 13 = .ok (.iconst 5, 1) := by decide +kernel
theorem dX12_wipe_14 : decode cX12_wipe 14 = .ok (.if_icmp .ge 23, 3) := by decide +kernel
theorem dX12_wipe_17 : decode cX12_wipe 17 = .ok (.aload_n 0, 1) := by decide +kernel
theorem dX12_wipe_18 : decode cX12_wipe 18 = .ok (.getfield 29, 3) := by decide +kernel
theorem dX12_wipe_21 : decode cX12_wipe 21 = .ok (.iload_n 2, 1) := by decide +kernel
theorem dX12_wipe_22 : decode cX12_wipe 22 = .ok (.aaload, 1) := by decide +kernel
theorem dX12_wipe_23 : decode cX12_wipe 23 = .ok (.ifnull 8, 3) := by decide +kernel
theorem dX12_wipe_26 : decode cX12_wipe 26 = .ok (.aload_n 0, 1) := by decide +kernel
theorem dX12_wipe_27 : decode cX12_wipe 27 = .ok (.iload_n 2, 1) := by decide +kernel
theorem dX12_wipe_28 : decode cX12_wipe 28 = .ok (.invokevirtual 198, 3) := by decide +kernel
theorem dX12_wipe_31 : decode cX12_wipe 31 = .ok (.iinc 2 1, 3) := by decide +kernel
theorem dX12_wipe_34 : decode cX12_wipe 34 = .ok (.goto (-22), 3) := by decide +kernel
theorem dX12_wipe_37 : decode cX12_wipe 37 = .ok (.iconst 0, 1) := by decide +kernel
theorem dX12_wipe_38 : decode cX12_wipe 38 = .ok (.istore_n 2, 1) := by decide +kernel
theorem dX12_wipe_39 : decode cX12_wipe 39 = .ok (.iload_n 2, 1) := by decide +kernel
theorem dX12_wipe_40 : decode cX12_wipe 40 = .ok (.bipush 48, 2) := by decide +kernel
theorem dX12_wipe_42 : decode cX12_wipe 42 = .ok (.if_icmp .ge 19, 3) := by decide +kernel
theorem dX12_wipe_45 : decode cX12_wipe 45 = .ok (.aload_n 0, 1) := by decide +kernel
theorem dX12_wipe_46 : decode cX12_wipe 46 = .ok (.getfield 13, 3) := by decide +kernel
theorem dX12_wipe_49 : decode cX12_wipe 49 = .ok (.iload_n 2, 1) := by decide +kernel
theorem dX12_wipe_50 : decode cX12_wipe 50 = .ok (.aload_n 0, 1) := by decide +kernel
theorem dX12_wipe_51 : decode cX12_wipe 51 = .ok (.getfield 47, 3) := by decide +kernel
theorem dX12_wipe_54 : decode cX12_wipe 54 = .ok (.iastore, 1) := by decide +kernel
theorem dX12_wipe_55 : decode cX12_wipe 55 = .ok (.iinc 2 1, 3) := by decide +kernel
theorem dX12_wipe_58 : decode cX12_wipe 58 = .ok (.goto (-19), 3) := by decide +kernel
theorem dX12_wipe_61 : decode cX12_wipe 61 = .ok (.aload_n 0, 1) := by decide +kernel
theorem dX12_wipe_62 : decode cX12_wipe 62 = .ok (.invokevirtual 233, 3) := by decide +kernel
theorem dX12_wipe_65 : decode cX12_wipe 65 = .ok (.iload_n 1, 1) := by decide +kernel
theorem dX12_wipe_66 : decode cX12_wipe 66 = .ok (.ireturn, 1) := by decide +kernel
theorem dX12_ofCellNow_0 : decode cX12_ofCellNow 0 = .ok (.iload_n 2, 1) := by decide +kernel
theorem dX12_ofCellNow_1 : decode cX12_ofCellNow 1 = .ok (.ifCond .ne 17, 3) := by decide +kernel
theorem dX12_ofCellNow_4 : decode cX12_ofCellNow 4 = .ok (.aload_n 0, 1) := by decide +kernel
theorem dX12_ofCellNow_5 : decode cX12_ofCellNow 5 = .ok (.getfield 47, 3) := by decide +kernel
theorem dX12_ofCellNow_8 : decode cX12_ofCellNow 8 = .ok (.aload_n 0, 1) := by decide +kernel
theorem dX12_ofCellNow_9 : decode cX12_ofCellNow 9 = .ok (.getfield 17, 3) := by decide +kernel
theorem dX12_ofCellNow_12 : decode cX12_ofCellNow 12 = .ok (.iload_n 1, 1) := by decide +kernel
theorem dX12_ofCellNow_13 : decode cX12_ofCellNow 13 = .ok (.iaload, 1) := by decide +kernel
theorem dX12_ofCellNow_14 : decode cX12_ofCellNow 14 = .ok (.iadd, 1) := by decide +kernel
theorem dX12_ofCellNow_15 : decode cX12_ofCellNow 15 = .ok (.goto 58, 3) := by decide +kernel
theorem dX12_ofCellNow_18 : decode cX12_ofCellNow 18 = .ok (.iload_n 2, 1) := by decide +kernel
theorem dX12_ofCellNow_19 : decode cX12_ofCellNow 19 = .ok (.iconst 1, 1) := by decide +kernel
theorem dX12_ofCellNow_20 : decode cX12_ofCellNow 20 = .ok (.if_icmp .ne 12, 3) := by decide +kernel
theorem dX12_ofCellNow_23 : decode cX12_ofCellNow 23 = .ok (.aload_n 0, 1) := by decide +kernel
theorem dX12_ofCellNow_24 : decode cX12_ofCellNow 24 = .ok (.getfield 13, 3) := by decide +kernel
theorem dX12_ofCellNow_27 : decode cX12_ofCellNow 27 = .ok (.iload_n 1, 1) := by decide +kernel
theorem dX12_ofCellNow_28 : decode cX12_ofCellNow 28 = .ok (.iaload, 1) := by decide +kernel
theorem dX12_ofCellNow_29 : decode cX12_ofCellNow 29 = .ok (.goto 44, 3) := by decide +kernel
theorem dX12_ofCellNow_32 : decode cX12_ofCellNow 32 = .ok (.iload_n 2, 1) := by decide +kernel
theorem dX12_ofCellNow_33 : decode cX12_ofCellNow 33 = .ok (.iconst 2, 1) := by decide +kernel
theorem dX12_ofCellNow_34 : decode cX12_ofCellNow 34 = .ok (.if_icmp .ne 12, 3) := by decide +kernel
theorem dX12_ofCellNow_37 : decode cX12_ofCellNow 37 = .ok (.aload_n 3, 1) := by decide +kernel
theorem dX12_ofCellNow_38 : decode cX12_ofCellNow 38 = .ok (.getfield 239, 3) := by decide +kernel
theorem dX12_ofCellNow_41 : decode cX12_ofCellNow 41 = .ok (.iload_n 1, 1) := by decide +kernel
theorem dX12_ofCellNow_42 : decode cX12_ofCellNow 42 = .ok (.iaload, 1) := by decide +kernel
theorem dX12_ofCellNow_43 : decode cX12_ofCellNow 43 = .ok (.goto 30, 3) := by decide +kernel
theorem dX12_ofCellNow_46 : decode cX12_ofCellNow 46 = .ok (.iload_n 2, 1) := by decide +kernel
theorem dX12_ofCellNow_47 : decode cX12_ofCellNow 47 = .ok (.iconst 3, 1) := by decide +kernel
theorem dX12_ofCellNow_48 : decode cX12_ofCellNow 48 = .ok (.if_icmp .ne 19, 3) := by decide +kernel
theorem dX12_ofCellNow_51 : decode cX12_ofCellNow 51 = .ok (.aload_n 3, 1) := by decide +kernel
theorem dX12_ofCellNow_52 : decode cX12_ofCellNow 52 = .ok (.iload_n 1, 1) := by decide +kernel
theorem dX12_ofCellNow_53 : decode cX12_ofCellNow 53 = .ok (.invokevirtual 242, 3) := by decide +kernel
theorem dX12_ofCellNow_56 : decode cX12_ofCellNow 56 = .ok (.ifCond .eq 7, 3) := by decide +kernel
theorem dX12_ofCellNow_59 : decode cX12_ofCellNow 59 = .ok (.iconst 1, 1) := by decide +kernel
theorem dX12_ofCellNow_60 : decode cX12_ofCellNow 60 = .ok (.goto 13, 3) := by decide +kernel
theorem dX12_ofCellNow_63 : decode cX12_ofCellNow 63 = .ok (.iconst 0, 1) := by decide +kernel
theorem dX12_ofCellNow_64 : decode cX12_ofCellNow 64 = .ok (.goto 9, 3) := by decide +kernel
theorem dX12_ofCellNow_67 : decode cX12_ofCellNow 67 = .ok (.aload_n 3, 1) := by decide +kernel
theorem dX12_ofCellNow_68 : decode cX12_ofCellNow 68 = .ok (.getfield 245, 3) := by decide +kernel
theorem dX12_ofCellNow_71 : decode cX12_ofCellNow 71 = .ok (.iload_n 1, 1) := by decide +kernel
theorem dX12_ofCellNow_72 : decode cX12_ofCellNow 72 = .ok (.iaload, 1) := by decide +kernel
theorem dX12_ofCellNow_73 : decode cX12_ofCellNow 73 = .ok (.ireturn, 1) := by decide +kernel
theorem dX12_ofCell_0 : decode cX12_ofCell 0 = .ok (.aload_n 0, 1) := by decide +kernel
theorem dX12_ofCell_1 : decode cX12_ofCell 1 = .ok (.iload_n 1, 1) := by decide +kernel
theorem dX12_ofCell_2 : decode cX12_ofCell 2 = .ok (.iload_n 2, 1) := by decide +kernel
theorem dX12_ofCell_3 : decode cX12_ofCell 3 = .ok (.invokestatic 75, 3) := by decide +kernel
theorem dX12_ofCell_6 : decode cX12_ofCell 6 = .ok (.ifCond .ne 7, 3) := by decide +kernel
theorem dX12_ofCell_9 : decode cX12_ofCell 9 = .ok (.iconst 1, 1) := by decide +kernel
theorem dX12_ofCell_10 : decode cX12_ofCell 10 = .ok (.goto 4, 3) := by decide +kernel
theorem dX12_ofCell_13 : decode cX12_ofCell 13 = .ok (.iconst 0, 1) := by decide +kernel
theorem dX12_ofCell_14 : decode cX12_ofCell 14 = .ok (.iconst 1, 1) := by decide +kernel
theorem dX12_ofCell_15 : decode cX12_ofCell 15 = .ok (.invokevirtual 59, 3) := by decide +kernel
theorem dX12_ofCell_18 : decode cX12_ofCell 18 = .ok (.ifCond .ne 25, 3) := by decide +kernel
theorem dX12_ofCell_21 : decode cX12_ofCell 21 = .ok (.aload_n 0, 1) := by decide +kernel
theorem dX12_ofCell_22 : decode cX12_ofCell 22 = .ok (.iload_n 3, 1) := by decide +kernel
theorem dX12_ofCell_23 : decode cX12_ofCell 23 = .ok (.iconst 0, 1) := by decide +kernel
theorem dX12_ofCell_24 : decode cX12_ofCell 24 = .ok (.iconst 4, 1) := by decide +kernel
theorem dX12_ofCell_25 : decode cX12_ofCell 25 = .ok (.invokestatic 3, 3) := by decide +kernel
theorem dX12_ofCell_28 : decode cX12_ofCell 28 = .ok (.ifCond .ne 7, 3) := by decide +kernel
theorem dX12_ofCell_31 : decode cX12_ofCell 31 = .ok (.iconst 1, 1) := by decide +kernel
theorem dX12_ofCell_32 : decode cX12_ofCell 32 = .ok (.goto 4, 3) := by decide +kernel
theorem dX12_ofCell_35 : decode cX12_ofCell 35 = .ok (.iconst 0, 1) := by decide +kernel
theorem dX12_ofCell_36 : decode cX12_ofCell 36 = .ok (.iconst 2, 1) := by decide +kernel
theorem dX12_ofCell_37 : decode cX12_ofCell 37 = .ok (.invokevirtual 43, 3) := by decide +kernel
theorem dX12_ofCell_40 : decode cX12_ofCell 40 = .ok (.ifCond .eq 7, 3) := by decide +kernel
theorem dX12_ofCell_43 : decode cX12_ofCell 43 = .ok (.iconst 0, 1) := by decide +kernel
theorem dX12_ofCell_44 : decode cX12_ofCell 44 = .ok (.goto 17, 3) := by decide +kernel
theorem dX12_ofCell_47 : decode cX12_ofCell 47 = .ok (.aload_n 0, 1) := by decide +kernel
theorem dX12_ofCell_48 : decode cX12_ofCell 48 = .ok (.iload_n 1, 1) := by decide +kernel
theorem dX12_ofCell_49 : decode cX12_ofCell 49 = .ok (.iload_n 2, 1) := by decide +kernel
theorem dX12_ofCell_50 : decode cX12_ofCell 50 = .ok (.invokestatic 79, 3) := by decide +kernel
theorem dX12_ofCell_53 : decode cX12_ofCell 53 = .ok (.iload_n 3, 1) := by decide +kernel
theorem dX12_ofCell_54 : decode cX12_ofCell 54 = .ok (.aload_n 0, 1) := by decide +kernel
theorem dX12_ofCell_55 : decode cX12_ofCell 55 = .ok (.invokevirtual 92, 3) := by decide +kernel
theorem dX12_ofCell_58 : decode cX12_ofCell 58 = .ok (.invokevirtual 248, 3) := by decide +kernel
theorem dX12_ofCell_61 : decode cX12_ofCell 61 = .ok (.ireturn, 1) := by decide +kernel
theorem dX12_ofPeakNow_0 : decode cX12_ofPeakNow 0 = .ok (.aload_n 2, 1) := by decide +kernel
theorem dX12_ofPeakNow_1 : decode cX12_ofPeakNow 1 = .ok (.getfield 192, 3) := by decide +kernel
theorem dX12_ofPeakNow_4 : decode cX12_ofPeakNow 4 = .ok (.iload_n 0, 1) := by decide +kernel
theorem dX12_ofPeakNow_5 : decode cX12_ofPeakNow 5 = .ok (.iaload, 1) := by decide +kernel
theorem dX12_ofPeakNow_6 : decode cX12_ofPeakNow 6 = .ok (.istore_n 3, 1) := by decide +kernel
theorem dX12_ofPeakNow_7 : decode cX12_ofPeakNow 7 = .ok (.iload_n 1, 1) := by decide +kernel
theorem dX12_ofPeakNow_8 : decode cX12_ofPeakNow 8 = .ok (.ifCond .ne 7, 3) := by decide +kernel
theorem dX12_ofPeakNow_11 : decode cX12_ofPeakNow 11 = .ok (.iload_n 3, 1) := by decide +kernel
theorem dX12_ofPeakNow_12 : decode cX12_ofPeakNow 12 = .ok (.goto 53, 3) := by decide +kernel
theorem dX12_ofPeakNow_15 : decode cX12_ofPeakNow 15 = .ok (.iload_n 1, 1) := by decide +kernel
theorem dX12_ofPeakNow_16 : decode cX12_ofPeakNow 16 = .ok (.iconst 3, 1) := by decide +kernel
theorem dX12_ofPeakNow_17 : decode cX12_ofPeakNow 17 = .ok (.if_icmp .ge 21, 3) := by decide +kernel
theorem dX12_ofPeakNow_20 : decode cX12_ofPeakNow 20 = .ok (.aload_n 2, 1) := by decide +kernel
theorem dX12_ofPeakNow_21 : decode cX12_ofPeakNow 21 = .ok (.iload_n 3, 1) := by decide +kernel
theorem dX12_ofPeakNow_22 : decode cX12_ofPeakNow 22 = .ok (.iload_n 1, 1) := by decide +kernel
theorem dX12_ofPeakNow_23 : decode cX12_ofPeakNow 23 = .ok (.iconst 2, 1) := by decide +kernel
theorem dX12_ofPeakNow_24 : decode cX12_ofPeakNow 24 = .ok (.if_icmp .ne 7, 3) := by decide +kernel
theorem dX12_ofPeakNow_27 : decode cX12_ofPeakNow 27 = .ok (.iconst 1, 1) := by decide +kernel
theorem dX12_ofPeakNow_28 : decode cX12_ofPeakNow 28 = .ok (.goto 4, 3) := by decide +kernel
theorem dX12_ofPeakNow_31 : decode cX12_ofPeakNow 31 = .ok (.iconst 0, 1) := by decide +kernel
theorem dX12_ofPeakNow_32 : decode cX12_ofPeakNow 32 = .ok (.invokevirtual 202, 3) := by decide +kernel
theorem dX12_ofPeakNow_35 : decode cX12_ofPeakNow 35 = .ok (.goto 30, 3) := by decide +kernel
theorem dX12_ofPeakNow_38 : decode cX12_ofPeakNow 38 = .ok (.iload_n 1, 1) := by decide +kernel
theorem dX12_ofPeakNow_39 : decode cX12_ofPeakNow 39 = .ok (.iconst 3, 1) := by decide +kernel
theorem dX12_ofPeakNow_40 : decode cX12_ofPeakNow 40 = .ok (.if_icmp .ne 12, 3) := by decide +kernel
theorem dX12_ofPeakNow_43 : decode cX12_ofPeakNow 43 = .ok (.aload_n 2, 1) := by decide +kernel
theorem dX12_ofPeakNow_44 : decode cX12_ofPeakNow 44 = .ok (.getfield 245, 3) := by decide +kernel
theorem dX12_ofPeakNow_47 : decode cX12_ofPeakNow 47 = .ok (.iload_n 3, 1) := by decide +kernel
theorem dX12_ofPeakNow_48 : decode cX12_ofPeakNow 48 = .ok (.iaload, 1) := by decide +kernel
theorem dX12_ofPeakNow_49 : decode cX12_ofPeakNow 49 = .ok (.goto 16, 3) := by decide +kernel
theorem dX12_ofPeakNow_52 : decode cX12_ofPeakNow 52 = .ok (.aload_n 2, 1) := by decide +kernel
theorem dX12_ofPeakNow_53 : decode cX12_ofPeakNow 53 = .ok (.iload_n 3, 1) := by decide +kernel
theorem dX12_ofPeakNow_54 : decode cX12_ofPeakNow 54 = .ok (.invokevirtual 195, 3) := by decide +kernel
theorem dX12_ofPeakNow_57 : decode cX12_ofPeakNow 57 = .ok (.ifCond .eq 7, 3) := by decide +kernel
theorem dX12_ofPeakNow_60 : decode cX12_ofPeakNow 60 = .ok (.iconst 1, 1) := by decide +kernel
theorem dX12_ofPeakNow_61 : decode cX12_ofPeakNow 61 = .ok (.goto 4, 3) := by decide +kernel
theorem dX12_ofPeakNow_64 : decode cX12_ofPeakNow 64 = .ok (.iconst 0, 1) := by decide +kernel
theorem dX12_ofPeakNow_65 : decode cX12_ofPeakNow 65 = .ok (.ireturn, 1) := by decide +kernel
theorem dX12_ofPeak_0 : decode cX12_ofPeak 0 = .ok (.aload_n 0, 1) := by decide +kernel
theorem dX12_ofPeak_1 : decode cX12_ofPeak 1 = .ok (.invokevirtual 92, 3) := by decide +kernel
theorem dX12_ofPeak_4 : decode cX12_ofPeak 4 = .ok (.astore_n 3, 1) := by decide +kernel
theorem dX12_ofPeak_5 : decode cX12_ofPeak 5 = .ok (.aload_n 0, 1) := by decide +kernel
theorem dX12_ofPeak_6 : decode cX12_ofPeak 6 = .ok (.iload_n 1, 1) := by decide +kernel
theorem dX12_ofPeak_7 : decode cX12_ofPeak 7 = .ok (.iconst 0, 1) := by decide +kernel
theorem dX12_ofPeak_8 : decode cX12_ofPeak 8 = .ok (.aload_n 3, 1) := by decide +kernel
theorem dX12_ofPeak_9 : decode cX12_ofPeak 9 = .ok (.getfield 212, 3) := by decide +kernel
theorem dX12_ofPeak_12 : decode cX12_ofPeak 12 = .ok (.iconst 1, 1) := by decide +kernel
theorem dX12_ofPeak_13 : decode cX12_ofPeak 13 = .ok (.isub, 1) := by decide +kernel
theorem dX12_ofPeak_14 : decode cX12_ofPeak 14 = .ok (.invokestatic 3, 3) := by decide +kernel
theorem dX12_ofPeak_17 : decode cX12_ofPeak 17 = .ok (.ifCond .ne 7, 3) := by decide +kernel
theorem dX12_ofPeak_20 : decode cX12_ofPeak 20 = .ok (.iconst 1, 1) := by decide +kernel
theorem dX12_ofPeak_21 : decode cX12_ofPeak 21 = .ok (.goto 4, 3) := by decide +kernel
theorem dX12_ofPeak_24 : decode cX12_ofPeak 24 = .ok (.iconst 0, 1) := by decide +kernel
theorem dX12_ofPeak_25 : decode cX12_ofPeak 25 = .ok (.iconst 1, 1) := by decide +kernel
theorem dX12_ofPeak_26 : decode cX12_ofPeak 26 = .ok (.invokevirtual 59, 3) := by decide +kernel
theorem dX12_ofPeak_29 : decode cX12_ofPeak 29 = .ok (.ifCond .ne 25, 3) := by decide +kernel
theorem dX12_ofPeak_32 : decode cX12_ofPeak 32 = .ok (.aload_n 0, 1) := by decide +kernel
theorem dX12_ofPeak_33 : decode cX12_ofPeak 33 = .ok (.iload_n 2, 1) := by decide +kernel
theorem dX12_ofPeak_34 : decode cX12_ofPeak 34 = .ok (.iconst 0, 1) := by decide +kernel
theorem dX12_ofPeak_35 : decode cX12_ofPeak 35 = .ok (.iconst 4, 1) := by decide +kernel
theorem dX12_ofPeak_36 : decode cX12_ofPeak 36 = .ok (.invokestatic 3, 3) := by decide +kernel
theorem dX12_ofPeak_39 : decode cX12_ofPeak 39 = .ok (.ifCond .ne 7, 3) := by decide +kernel
theorem dX12_ofPeak_42 : decode cX12_ofPeak 42 = .ok (.iconst 1, 1) := by decide +kernel
theorem dX12_ofPeak_43 : decode cX12_ofPeak 43 = .ok (.goto 4, 3) := by decide +kernel
theorem dX12_ofPeak_46 : decode cX12_ofPeak 46 = .ok (.iconst 0, 1) := by decide +kernel
theorem dX12_ofPeak_47 : decode cX12_ofPeak 47 = .ok (.iconst 2, 1) := by decide +kernel
theorem dX12_ofPeak_48 : decode cX12_ofPeak 48 = .ok (.invokevirtual 43, 3) := by decide +kernel
theorem dX12_ofPeak_51 : decode cX12_ofPeak 51 = .ok (.ifCond .eq 7, 3) := by decide +kernel
theorem dX12_ofPeak_54 : decode cX12_ofPeak 54 = .ok (.iconst 0, 1) := by decide +kernel
theorem dX12_ofPeak_55 : decode cX12_ofPeak 55 = .ok (.goto 9, 3) := by decide +kernel
theorem dX12_ofPeak_58 : decode cX12_ofPeak 58 = .ok (.iload_n 1, 1) := by decide +kernel
theorem dX12_ofPeak_59 : decode cX12_ofPeak 59 = .ok (.iload_n 2, 1) := by decide +kernel
theorem dX12_ofPeak_60 : decode cX12_ofPeak 60 = .ok (.aload_n 3, 1) := by decide +kernel
theorem dX12_ofPeak_61 : decode cX12_ofPeak 61 = .ok (.invokestatic 252, 3) := by decide +kernel
theorem dX12_ofPeak_64 : decode cX12_ofPeak 64 = .ok (.ireturn, 1) := by decide +kernel
theorem dX12_ofContactNow_0 : decode cX12_ofContactNow 0 = .ok (.bipush 6, 2) := by decide +kernel
theorem dX12_ofContactNow_2 : decode cX12_ofContactNow 2 = .ok (.newarray .int, 2) := by decide +kernel
theorem dX12_ofContactNow_4 : decode cX12_ofContactNow 4 = .ok (.dup, 1) := by decide +kernel
theorem dX12_ofContactNow_5 : decode cX12_ofContactNow 5 = .ok (.iconst 0, 1) := by decide +kernel
theorem dX12_ofContactNow_6 : decode cX12_ofContactNow 6 = .ok (.aload_n 0, 1) := by decide +kernel
theorem dX12_ofContactNow_7 : decode cX12_ofContactNow 7 = .ok (.getfield 255, 3) := by decide +kernel
theorem dX12_ofContactNow_10 : decode cX12_ofContactNow 10 = .ok (.iastore, 1) := by decide +kernel
theorem dX12_ofContactNow_11 : decode cX12_ofContactNow 11 = .ok (.dup, 1) := by decide +kernel
theorem dX12_ofContactNow_12 : decode cX12_ofContactNow 12 = .ok (.iconst 1, 1) := by decide +kernel
theorem dX12_ofContactNow_13 : decode cX12_ofContactNow 13 = .ok (.aload_n 0, 1) := by decide +kernel
theorem dX12_ofContactNow_14 : decode cX12_ofContactNow 14 = .ok (.getfield 258, 3) := by decide +kernel
theorem dX12_ofContactNow_17 : decode cX12_ofContactNow 17 = .ok (.iastore, 1) := by decide +kernel
theorem dX12_ofContactNow_18 : decode cX12_ofContactNow 18 = .ok (.dup, 1) := by decide +kernel
theorem dX12_ofContactNow_19 : decode cX12_ofContactNow 19 = .ok (.iconst 2, 1) := by decide +kernel
theorem dX12_ofContactNow_20 : decode cX12_ofContactNow 20 = .ok (.aload_n 0, 1) := by decide +kernel
theorem dX12_ofContactNow_21 : decode cX12_ofContactNow 21 = .ok (.getfield 129, 3) := by decide +kernel
theorem dX12_ofContactNow_24 : decode cX12_ofContactNow 24 = .ok (.iastore, 1) := by decide +kernel
theorem dX12_ofContactNow_25 : decode cX12_ofContactNow 25 = .ok (.dup, 1) := by decide +kernel
theorem dX12_ofContactNow_26 : decode cX12_ofContactNow 26 = .ok (.iconst 3, 1) := by decide +kernel
theorem dX12_ofContactNow_27 : decode cX12_ofContactNow 27 = .ok (.aload_n 0, 1) := by decide +kernel
theorem dX12_ofContactNow_28 : decode cX12_ofContactNow 28 = .ok (.getfield 119, 3) := by decide +kernel
theorem dX12_ofContactNow_31 : decode cX12_ofContactNow 31 = .ok (.iastore, 1) := by decide +kernel
theorem dX12_ofContactNow_32 : decode cX12_ofContactNow 32 = .ok (.dup, 1) := by decide +kernel
theorem dX12_ofContactNow_33 : decode cX12_ofContactNow 33 = .ok (.iconst 4, 1) := by decide +kernel
theorem dX12_ofContactNow_34 : decode cX12_ofContactNow 34 = .ok (.aload_n 0, 1) := by decide +kernel
theorem dX12_ofContactNow_35 : decode cX12_ofContactNow 35 = .ok (.getfield 109, 3) := by decide +kernel
theorem dX12_ofContactNow_38 : decode cX12_ofContactNow 38 = .ok (.iastore, 1) := by decide +kernel
theorem dX12_ofContactNow_39 : decode cX12_ofContactNow 39 = .ok (.dup, 1) := by decide +kernel
theorem dX12_ofContactNow_40 : decode cX12_ofContactNow 40 = .ok (.iconst 5, 1) := by decide +kernel
theorem dX12_ofContactNow_41 : decode cX12_ofContactNow 41 = .ok (.aload_n 0, 1) := by decide +kernel
theorem dX12_ofContactNow_42 : decode cX12_ofContactNow 42 = .ok (.getfield 99, 3) := by decide +kernel
theorem dX12_ofContactNow_45 : decode cX12_ofContactNow 45 = .ok (.iastore, 1) := by decide +kernel
theorem dX12_ofContactNow_46 : decode cX12_ofContactNow 46 = .ok (.astore_n 2, 1) := by decide +kernel
theorem dX12_ofContactNow_47 : decode cX12_ofContactNow 47 = .ok (.aload_n 2, 1) := by decide +kernel
theorem dX12_ofContactNow_48 : decode cX12_ofContactNow 48 = .ok (.iload_n 1, 1) := by decide +kernel
theorem dX12_ofContactNow_49 : decode cX12_ofContactNow 49 = .ok (.iaload, 1) := by decide +kernel
theorem dX12_ofContactNow_50 : decode cX12_ofContactNow 50 = .ok (.ireturn, 1) := by decide +kernel
theorem dX12_ofContact_0 : decode cX12_ofContact 0 = .ok (.aload_n 0, 1) := by decide +kernel
theorem dX12_ofContact_1 : decode cX12_ofContact 1 = .ok (.aload_n 0, 1) := by decide +kernel
theorem dX12_ofContact_2 : decode cX12_ofContact 2 = .ok (.iload_n 1, 1) := by decide +kernel
theorem dX12_ofContact_3 : decode cX12_ofContact 3 = .ok (.invokevirtual 261, 3) := by decide +kernel
theorem dX12_ofContact_6 : decode cX12_ofContact 6 = .ok (.iconst 1, 1) := by decide +kernel
theorem dX12_ofContact_7 : decode cX12_ofContact 7 = .ok (.invokevirtual 59, 3) := by decide +kernel
theorem dX12_ofContact_10 : decode cX12_ofContact 10 = .ok (.ifCond .ne 25, 3) := by decide +kernel
theorem dX12_ofContact_13 : decode cX12_ofContact 13 = .ok (.aload_n 0, 1) := by decide +kernel
theorem dX12_ofContact_14 : decode cX12_ofContact 14 = .ok (.iload_n 2, 1) := by decide +kernel
theorem dX12_ofContact_15 : decode cX12_ofContact 15 = .ok (.iconst 0, 1) := by decide +kernel
theorem dX12_ofContact_16 : decode cX12_ofContact 16 = .ok (.iconst 5, 1) := by decide +kernel
theorem dX12_ofContact_17 : decode cX12_ofContact 17 = .ok (.invokestatic 3, 3) := by decide +kernel
theorem dX12_ofContact_20 : decode cX12_ofContact 20 = .ok (.ifCond .ne 7, 3) := by decide +kernel
theorem dX12_ofContact_23 : decode cX12_ofContact 23 = .ok (.iconst 1, 1) := by decide +kernel
theorem dX12_ofContact_24 : decode cX12_ofContact 24 = .ok (.goto 4, 3) := by decide +kernel
theorem dX12_ofContact_27 : decode cX12_ofContact 27 = .ok (.iconst 0, 1) := by decide +kernel
theorem dX12_ofContact_28 : decode cX12_ofContact 28 = .ok (.iconst 2, 1) := by decide +kernel
theorem dX12_ofContact_29 : decode cX12_ofContact 29 = .ok (.invokevirtual 43, 3) := by decide +kernel
theorem dX12_ofContact_32 : decode cX12_ofContact 32 = .ok (.ifCond .eq 7, 3) := by decide +kernel
theorem dX12_ofContact_35 : decode cX12_ofContact 35 = .ok (.iconst 0, 1) := by decide +kernel
theorem dX12_ofContact_36 : decode cX12_ofContact 36 = .ok (.goto 13, 3) := by decide +kernel
theorem dX12_ofContact_39 : decode cX12_ofContact 39 = .ok (.aload_n 0, 1) := by decide +kernel
theorem dX12_ofContact_40 : decode cX12_ofContact 40 = .ok (.getfield 29, 3) := by decide +kernel
theorem dX12_ofContact_43 : decode cX12_ofContact 43 = .ok (.iload_n 1, 1) := by decide +kernel
theorem dX12_ofContact_44 : decode cX12_ofContact 44 = .ok (.aaload, 1) := by decide +kernel
theorem dX12_ofContact_45 : decode cX12_ofContact 45 = .ok (.iload_n 2, 1) := by decide +kernel
theorem dX12_ofContact_46 : decode cX12_ofContact 46 = .ok (.invokestatic 264, 3) := by decide +kernel
theorem dX12_ofContact_49 : decode cX12_ofContact 49 = .ok (.ireturn, 1) := by decide +kernel
theorem dX12_whereNow_0 : decode cX12_whereNow 0 = .ok (.iload_n 1, 1) := by decide +kernel
theorem dX12_whereNow_1 : decode cX12_whereNow 1 = .ok (.ifCond .ne 11, 3) := by decide +kernel
theorem dX12_whereNow_4 : decode cX12_whereNow 4 = .ok (.aload_n 0, 1) := by decide +kernel
theorem dX12_whereNow_5 : decode cX12_whereNow 5 = .ok (.getfield 268, 3) := by decide +kernel
theorem dX12_whereNow_8 : decode cX12_whereNow 8 = .ok (.f2d, 1) := by decide +kernel
theorem dX12_whereNow_9 : decode cX12_whereNow 9 = .ok (.goto 47, 3) := by decide +kernel
theorem dX12_whereNow_12 : decode cX12_whereNow 12 = .ok (.iload_n 1, 1) := by decide +kernel
theorem dX12_whereNow_13 : decode cX12_whereNow 13 = .ok (.iconst 1, 1) := by decide +kernel
theorem dX12_whereNow_14 : decode cX12_whereNow 14 = .ok (.if_icmp .ne 11, 3) := by decide +kernel
theorem dX12_whereNow_17 : decode cX12_whereNow 17 = .ok (.aload_n 0, 1) := by decide +kernel
theorem dX12_whereNow_18 : decode cX12_whereNow 18 = .ok (.getfield 271, 3) := by decide +kernel
theorem dX12_whereNow_21 : decode cX12_whereNow 21 = .ok (.f2d, 1) := by decide +kernel
theorem dX12_whereNow_22 : decode cX12_whereNow 22 = .ok (.goto 34, 3) := by decide +kernel
theorem dX12_whereNow_25 : decode cX12_whereNow 25 = .ok (.iload_n 1, 1) := by decide +kernel
theorem dX12_whereNow_26 : decode cX12_whereNow 26 = .ok (.iconst 2, 1) := by decide +kernel
theorem dX12_whereNow_27 : decode cX12_whereNow 27 = .ok (.if_icmp .ne 11, 3) := by decide +kernel
theorem dX12_whereNow_30 : decode cX12_whereNow 30 = .ok (.aload_n 0, 1) := by decide +kernel
theorem dX12_whereNow_31 : decode cX12_whereNow 31 = .ok (.getfield 122, 3) := by decide +kernel
theorem dX12_whereNow_34 : decode cX12_whereNow 34 = .ok (.f2d, 1) := by decide +kernel
theorem dX12_whereNow_35 : decode cX12_whereNow 35 = .ok (.goto 21, 3) := by decide +kernel
theorem dX12_whereNow_38 : decode cX12_whereNow 38 = .ok (.iload_n 1, 1) := by decide +kernel
theorem dX12_whereNow_39 : decode cX12_whereNow 39 = .ok (.iconst 3, 1) := by decide +kernel
theorem dX12_whereNow_40 : decode cX12_whereNow 40 = .ok (.if_icmp .ne 11, 3) := by decide +kernel
theorem dX12_whereNow_43 : decode cX12_whereNow 43 = .ok (.aload_n 0, 1) := by decide +kernel
theorem dX12_whereNow_44 : decode cX12_whereNow 44 = .ok (.getfield 126, 3) := by decide +kernel
theorem dX12_whereNow_47 : decode cX12_whereNow 47 = .ok (.f2d, 1) := by decide +kernel
theorem dX12_whereNow_48 : decode cX12_whereNow 48 = .ok (.goto 8, 3) := by decide +kernel
theorem dX12_whereNow_51 : decode cX12_whereNow 51 = .ok (.aload_n 0, 1) := by decide +kernel
theorem dX12_whereNow_52 : decode cX12_whereNow 52 = .ok (.getfield 180, 3) := by decide +kernel
theorem dX12_whereNow_55 : decode cX12_whereNow 55 = .ok (.f2d, 1) := by decide +kernel
theorem dX12_whereNow_56 : decode cX12_whereNow 56 = .ok (.dreturn, 1) := by decide +kernel
theorem dX12_where_0 : decode cX12_where 0 = .ok (.aload_n 0, 1) := by decide +kernel
theorem dX12_where_1 : decode cX12_where 1 = .ok (.aload_n 0, 1) := by decide +kernel
theorem dX12_where_2 : decode cX12_where 2 = .ok (.iload_n 1, 1) := by decide +kernel
theorem dX12_where_3 : decode cX12_where 3 = .ok (.invokevirtual 261, 3) := by decide +kernel
theorem dX12_where_6 : decode cX12_where 6 = .ok (.iconst 1, 1) := by decide +kernel
theorem dX12_where_7 : decode cX12_where 7 = .ok (.invokevirtual 59, 3) := by decide +kernel
theorem dX12_where_10 : decode cX12_where 10 = .ok (.ifCond .ne 25, 3) := by decide +kernel
theorem dX12_where_13 : decode cX12_where 13 = .ok (.aload_n 0, 1) := by decide +kernel
theorem dX12_where_14 : decode cX12_where 14 = .ok (.iload_n 2, 1) := by decide +kernel
theorem dX12_where_15 : decode cX12_where 15 = .ok (.iconst 0, 1) := by decide +kernel
theorem dX12_where_16 : decode cX12_where 16 = .ok (.iconst 4, 1) := by decide +kernel
theorem dX12_where_17 : decode cX12_where 17 = .ok (.invokestatic 3, 3) := by decide +kernel
theorem dX12_where_20 : decode cX12_where 20 = .ok (.ifCond .ne 7, 3) := by decide +kernel
theorem dX12_where_23 : decode cX12_where 23 = .ok (.iconst 1, 1) := by decide +kernel
theorem dX12_where_24 : decode cX12_where 24 = .ok (.goto 4, 3) := by decide +kernel
theorem dX12_where_27 : decode cX12_where 27 = .ok (.iconst 0, 1) := by decide +kernel
theorem dX12_where_28 : decode cX12_where 28 = .ok (.iconst 2, 1) := by decide +kernel
theorem dX12_where_29 : decode cX12_where 29 = .ok (.invokevirtual 43, 3) := by decide +kernel
theorem dX12_where_32 : decode cX12_where 32 = .ok (.ifCond .eq 7, 3) := by decide +kernel
theorem dX12_where_35 : decode cX12_where 35 = .ok (.dconst 0, 1) := by decide +kernel
theorem dX12_where_36 : decode cX12_where 36 = .ok (.goto 13, 3) := by decide +kernel
theorem dX12_where_39 : decode cX12_where 39 = .ok (.aload_n 0, 1) := by decide +kernel
theorem dX12_where_40 : decode cX12_where 40 = .ok (.getfield 29, 3) := by decide +kernel
theorem dX12_where_43 : decode cX12_where 43 = .ok (.iload_n 1, 1) := by decide +kernel
theorem dX12_where_44 : decode cX12_where 44 = .ok (.aaload, 1) := by decide +kernel
theorem dX12_where_45 : decode cX12_where 45 = .ok (.iload_n 2, 1) := by decide +kernel
theorem dX12_where_46 : decode cX12_where 46 = .ok (.invokestatic 274, 3) := by decide +kernel
theorem dX12_where_49 : decode cX12_where 49 = .ok (.dreturn, 1) := by decide +kernel
theorem dX12_apart_0 : decode cX12_apart 0 = .ok (.aload_n 0, 1) := by decide +kernel
theorem dX12_apart_1 : decode cX12_apart 1 = .ok (.aload_n 0, 1) := by decide +kernel
theorem dX12_apart_2 : decode cX12_apart 2 = .ok (.iload_n 1, 1) := by decide +kernel
theorem dX12_apart_3 : decode cX12_apart 3 = .ok (.invokevirtual 261, 3) := by decide +kernel
theorem dX12_apart_6 : decode cX12_apart 6 = .ok (.ifCond .ne 11, 3) := by decide +kernel
theorem dX12_apart_9 : decode cX12_apart 9 = .ok (.aload_n 0, 1) := by decide +kernel
theorem dX12_apart_10 : decode cX12_apart 10 = .ok (.iload_n 2, 1) := by decide +kernel
theorem dX12_apart_11 : decode cX12_apart 11 = .ok (.invokevirtual 261, 3) := by decide +kernel
theorem dX12_apart_14 : decode cX12_apart 14 = .ok (.ifCond .eq 7, 3) := by decide +kernel
theorem dX12_apart_17 : decode cX12_apart 17 = .ok (.iconst 1, 1) := by decide +kernel
theorem dX12_apart_18 : decode cX12_apart 18 = .ok (.goto 4, 3) := by decide +kernel
theorem dX12_apart_21 : decode cX12_apart 21 = .ok (.iconst 0, 1) := by decide +kernel
theorem dX12_apart_22 : decode cX12_apart 22 = .ok (.iconst 1, 1) := by decide +kernel
theorem dX12_apart_23 : decode cX12_apart 23 = .ok (.invokevirtual 59, 3) := by decide +kernel
theorem dX12_apart_26 : decode cX12_apart 26 = .ok (.ifCond .eq 7, 3) := by decide +kernel
theorem dX12_apart_29 : decode cX12_apart 29 = .ok (.dconst 0, 1) := by decide +kernel
theorem dX12_apart_30 : decode cX12_apart 30 = .ok (.goto 19, 3) := by decide +kernel
theorem dX12_apart_33 : decode cX12_apart 33 = .ok (.aload_n 0, 1) := by decide +kernel
theorem dX12_apart_34 : decode cX12_apart 34 = .ok (.getfield 29, 3) := by decide +kernel
theorem dX12_apart_37 : decode cX12_apart 37 = .ok (.iload_n 1, 1) := by decide +kernel
theorem dX12_apart_38 : decode cX12_apart 38 = .ok (.aaload, 1) := by decide +kernel
theorem dX12_apart_39 : decode cX12_apart 39 = .ok (.aload_n 0, 1) := by decide +kernel
theorem dX12_apart_40 : decode cX12_apart 40 = .ok (.getfield 29, 3) := by decide +kernel
theorem dX12_apart_43 : decode cX12_apart 43 = .ok (.iload_n 2, 1) := by decide +kernel
theorem dX12_apart_44 : decode cX12_apart 44 = .ok (.aaload, 1) := by decide +kernel
theorem dX12_apart_45 : decode cX12_apart 45 = .ok (.invokevirtual 160, 3) := by decide +kernel
theorem dX12_apart_48 : decode cX12_apart 48 = .ok (.f2d, 1) := by decide +kernel
theorem dX12_apart_49 : decode cX12_apart 49 = .ok (.dreturn, 1) := by decide +kernel
theorem dX12_ofRowNow_0 : decode cX12_ofRowNow 0 = .ok (.iconst 0, 1) := by decide +kernel
theorem dX12_ofRowNow_1 : decode cX12_ofRowNow 1 = .ok (.istore_n 3, 1) := by decide +kernel
theorem dX12_ofRowNow_2 : decode cX12_ofRowNow 2 = .ok (.iconst 0, 1) := by decide +kernel
theorem dX12_ofRowNow_3 : decode cX12_ofRowNow 3 = .ok (.istore 4, 2) := by decide +kernel
theorem dX12_ofRowNow_5 : decode cX12_ofRowNow 5 = .ok (.iload 4, 2) := by decide +kernel
theorem dX12_ofRowNow_7 : decode cX12_ofRowNow 7 = .ok (.bipush 8, 2) := by decide +kernel
theorem dX12_ofRowNow_9 : decode cX12_ofRowNow 9 = .ok (.if_icmp .ge 53, 3) := by decide +kernel
theorem dX12_ofRowNow_12 : decode cX12_ofRowNow 12 = .ok (.iload_n 3, 1) := by decide +kernel
theorem dX12_ofRowNow_13 : decode cX12_ofRowNow 13 = .ok (.iload_n 1, 1) := by decide +kernel
theorem dX12_ofRowNow_14 : decode cX12_ofRowNow 14 = .ok (.ifCond .ne 17, 3) := by decide +kernel
theorem dX12_ofRowNow_17 : decode cX12_ofRowNow 17 = .ok (.aload_n 2, 1) := by decide +kernel
theorem dX12_ofRowNow_18 : decode cX12_ofRowNow 18 = .ok (.getfield 239, 3) := by decide +kernel
theorem dX12_ofRowNow_21 : decode cX12_ofRowNow 21 = .ok (.iload 4, 2) := by decide +kernel
theorem dX12_ofRowNow_23 : decode cX12_ofRowNow 23 = .ok (.iload_n 0, 1) := by decide +kernel
theorem dX12_ofRowNow_24 : decode cX12_ofRowNow 24 = .ok (.invokestatic 79, 3) := by decide +kernel
theorem dX12_ofRowNow_27 : decode cX12_ofRowNow 27 = .ok (.iaload, 1) := by decide +kernel
theorem dX12_ofRowNow_28 : decode cX12_ofRowNow 28 = .ok (.goto 26, 3) := by decide +kernel
theorem dX12_ofRowNow_31 : decode cX12_ofRowNow 31 = .ok (.iload_n 1, 1) := by decide +kernel
theorem dX12_ofRowNow_32 : decode cX12_ofRowNow 32 = .ok (.iconst 1, 1) := by decide +kernel
theorem dX12_ofRowNow_33 : decode cX12_ofRowNow 33 = .ok (.if_icmp .ne 20, 3) := by decide +kernel
theorem dX12_ofRowNow_36 : decode cX12_ofRowNow 36 = .ok (.aload_n 2, 1) := by decide +kernel
theorem dX12_ofRowNow_37 : decode cX12_ofRowNow 37 = .ok (.iload 4, 2) := by decide +kernel
theorem dX12_ofRowNow_39 : decode cX12_ofRowNow 39 = .ok (.iload_n 0, 1) := by decide +kernel
theorem dX12_ofRowNow_40 : decode cX12_ofRowNow 40 = .ok (.invokestatic 79, 3) := by decide +kernel
theorem dX12_ofRowNow_43 : decode cX12_ofRowNow 43 = .ok (.invokevirtual 242, 3) := by decide +kernel
theorem dX12_ofRowNow_46 : decode cX12_ofRowNow 46 = .ok (.ifCond .eq 7, 3) := by decide +kernel
theorem dX12_ofRowNow_49 : decode cX12_ofRowNow 49 = .ok (.iconst 1, 1) := by decide +kernel
theorem dX12_ofRowNow_50 : decode cX12_ofRowNow 50 = .ok (.goto 4, 3) := by decide +kernel
theorem dX12_ofRowNow_53 : decode cX12_ofRowNow 53 = .ok (.iconst 0, 1) := by decide +kernel
theorem dX12_ofRowNow_54 : decode cX12_ofRowNow 54 = .ok (.iadd, 1) := by decide +kernel
theorem dX12_ofRowNow_55 : decode cX12_ofRowNow 55 = .ok (.istore_n 3, 1) := by decide +kernel
theorem dX12_ofRowNow_56 : decode cX12_ofRowNow 56 = .ok (.iinc 4 1, 3) := by decide +kernel
theorem dX12_ofRowNow_59 : decode cX12_ofRowNow 59 = .ok (.goto (-54), 3) := by decide +kernel
theorem dX12_ofRowNow_62 : decode cX12_ofRowNow 62 = .ok (.iconst 0, 1) := by decide +kernel
theorem dX12_ofRowNow_63 : decode cX12_ofRowNow 63 = .ok (.istore 4, 2) := by decide +kernel
theorem dX12_ofRowNow_65 : decode cX12_ofRowNow 65 = .ok (.iload 4, 2) := by decide +kernel
theorem dX12_ofRowNow_67 : decode cX12_ofRowNow 67 = .ok (.aload_n 2, 1) := by decide +kernel
theorem dX12_ofRowNow_68 : decode cX12_ofRowNow 68 = .ok (.getfield 212, 3) := by decide +kernel
theorem dX12_ofRowNow_71 : decode cX12_ofRowNow 71 = .ok (.if_icmp .ge 36, 3) := by decide +kernel
theorem dX12_ofRowNow_74 : decode cX12_ofRowNow 74 = .ok (.iload_n 1, 1) := by decide +kernel
theorem dX12_ofRowNow_75 : decode cX12_ofRowNow 75 = .ok (.iconst 2, 1) := by decide +kernel
theorem dX12_ofRowNow_76 : decode cX12_ofRowNow 76 = .ok (.if_icmp .ne 31, 3) := by decide +kernel
theorem dX12_ofRowNow_79 : decode cX12_ofRowNow 79 = .ok (.iload_n 3, 1) := by decide +kernel
theorem dX12_ofRowNow_80 : decode cX12_ofRowNow 80 = .ok (.aload_n 2, 1) := by decide +kernel
theorem dX12_ofRowNow_81 : decode cX12_ofRowNow 81 = .ok (.getfield 192, 3) := by decide +kernel
theorem dX12_ofRowNow_84 : decode cX12_ofRowNow 84 = .ok (.iload 4, 2) := by decide +kernel
theorem dX12_ofRowNow_86 : decode cX12_ofRowNow 86 = .ok (.iaload, 1) := by decide +kernel
theorem dX12_ofRowNow_87 : decode cX12_ofRowNow 87 = .ok (.bipush 8, 2) := by decide +kernel
theorem dX12_ofRowNow_89 : decode cX12_ofRowNow 89 = .ok (.idiv, 1) := by decide +kernel
theorem dX12_ofRowNow_90 : decode cX12_ofRowNow 90 = .ok (.iload_n 0, 1) := by decide +kernel
theorem dX12_ofRowNow_91 : decode cX12_ofRowNow 91 = .ok (.if_icmp .ne 7, 3) := by decide +kernel
theorem dX12_ofRowNow_94 : decode cX12_ofRowNow 94 = .ok (.iconst 1, 1) := by decide +kernel
theorem dX12_ofRowNow_95 : decode cX12_ofRowNow 95 = .ok (.goto 4, 3) := by decide +kernel
theorem dX12_ofRowNow_98 : decode cX12_ofRowNow 98 = .ok (.iconst 0, 1) := by decide +kernel
theorem dX12_ofRowNow_99 : decode cX12_ofRowNow 99 = .ok (.iadd, 1) := by decide +kernel
theorem dX12_ofRowNow_100 : decode cX12_ofRowNow 100 = .ok (.istore_n 3, 1) := by decide +kernel
theorem dX12_ofRowNow_101 : decode cX12_ofRowNow 101 = .ok (.iinc 4 1, 3) := by decide +kernel
theorem dX12_ofRowNow_104 : decode cX12_ofRowNow 104 = .ok (.goto (-39), 3) := by decide +kernel
theorem dX12_ofRowNow_107 : decode cX12_ofRowNow 107 = .ok (.iload_n 3, 1) := by decide +kernel
theorem dX12_ofRowNow_108 : decode cX12_ofRowNow 108 = .ok (.ireturn, 1) := by decide +kernel
theorem dX12_ofRow_0 : decode cX12_ofRow 0 = .ok (.aload_n 0, 1) := by decide +kernel
theorem dX12_ofRow_1 : decode cX12_ofRow 1 = .ok (.iload_n 1, 1) := by decide +kernel
theorem dX12_ofRow_2 : decode cX12_ofRow 2 = .ok (.iconst 0, 1) := by decide +kernel
theorem dX12_ofRow_3 : decode cX12_ofRow 3 = .ok (.iconst 5, 1) := by decide +kernel
theorem dX12_ofRow_4 : decode cX12_ofRow 4 = .ok (.invokestatic 3, 3) := by decide +kernel
theorem dX12_ofRow_7 : decode cX12_ofRow 7 = .ok (.ifCond .ne 7, 3) := by decide +kernel
theorem dX12_ofRow_10 : decode cX12_ofRow 10 = .ok (.iconst 1, 1) := by decide +kernel
theorem dX12_ofRow_11 : decode cX12_ofRow 11 = .ok (.goto 4, 3) := by decide +kernel
theorem dX12_ofRow_14 : decode cX12_ofRow 14 = .ok (.iconst 0, 1) := by decide +kernel
theorem dX12_ofRow_15 : decode cX12_ofRow 15 = .ok (.iconst 1, 1) := by decide +kernel
theorem dX12_ofRow_16 : decode cX12_ofRow 16 = .ok (.invokevirtual 59, 3) := by decide +kernel
theorem dX12_ofRow_19 : decode cX12_ofRow 19 = .ok (.ifCond .ne 25, 3) := by decide +kernel
theorem dX12_ofRow_22 : decode cX12_ofRow 22 = .ok (.aload_n 0, 1) := by decide +kernel
theorem dX12_ofRow_23 : decode cX12_ofRow 23 = .ok (.iload_n 2, 1) := by decide +kernel
theorem dX12_ofRow_24 : decode cX12_ofRow 24 = .ok (.iconst 0, 1) := by decide +kernel
theorem dX12_ofRow_25 : decode cX12_ofRow 25 = .ok (.iconst 2, 1) := by decide +kernel
theorem dX12_ofRow_26 : decode cX12_ofRow 26 = .ok (.invokestatic 3, 3) := by decide +kernel
theorem dX12_ofRow_29 : decode cX12_ofRow 29 = .ok (.ifCond .ne 7, 3) := by decide +kernel
theorem dX12_ofRow_32 : decode cX12_ofRow 32 = .ok (.iconst 1, 1) := by decide +kernel
theorem dX12_ofRow_33 : decode cX12_ofRow 33 = .ok (.goto 4, 3) := by decide +kernel
theorem dX12_ofRow_36 : decode cX12_ofRow 36 = .ok (.iconst 0, 1) := by decide +kernel
theorem dX12_ofRow_37 : decode cX12_ofRow 37 = .ok (.iconst 2, 1) := by decide +kernel
theorem dX12_ofRow_38 : decode cX12_ofRow 38 = .ok (.invokevirtual 43, 3) := by decide +kernel
theorem dX12_ofRow_41 : decode cX12_ofRow 41 = .ok (.ifCond .eq 7, 3) := by decide +kernel
theorem dX12_ofRow_44 : decode cX12_ofRow 44 = .ok (.iconst 0, 1) := by decide +kernel
theorem dX12_ofRow_45 : decode cX12_ofRow 45 = .ok (.goto 12, 3) := by decide +kernel
theorem dX12_ofRow_48 : decode cX12_ofRow 48 = .ok (.iload_n 1, 1) := by decide +kernel
theorem dX12_ofRow_49 : decode cX12_ofRow 49 = .ok (.iload_n 2, 1) := by decide +kernel
theorem dX12_ofRow_50 : decode cX12_ofRow 50 = .ok (.aload_n 0, 1) := by decide +kernel
theorem dX12_ofRow_51 : decode cX12_ofRow 51 = .ok (.invokevirtual 92, 3) := by decide +kernel
theorem dX12_ofRow_54 : decode cX12_ofRow 54 = .ok (.invokestatic 278, 3) := by decide +kernel
theorem dX12_ofRow_57 : decode cX12_ofRow 57 = .ok (.ireturn, 1) := by decide +kernel
theorem dX12_ofAreaNow_0 : decode cX12_ofAreaNow 0 = .ok (.iload_n 2, 1) := by decide +kernel
theorem dX12_ofAreaNow_1 : decode cX12_ofAreaNow 1 = .ok (.iconst 4, 1) := by decide +kernel
theorem dX12_ofAreaNow_2 : decode cX12_ofAreaNow 2 = .ok (.if_icmp .ge 20, 3) := by decide +kernel
theorem dX12_ofAreaNow_5 : decode cX12_ofAreaNow 5 = .ok (.aload_n 0, 1) := by decide +kernel
theorem dX12_ofAreaNow_6 : decode cX12_ofAreaNow 6 = .ok (.getfield 36, 3) := by decide +kernel
theorem dX12_ofAreaNow_9 : decode cX12_ofAreaNow 9 = .ok (.iload_n 1, 1) := by decide +kernel
theorem dX12_ofAreaNow_10 : decode cX12_ofAreaNow 10 = .ok (.invokevirtual 102, 3) := by decide +kernel
theorem dX12_ofAreaNow_13 : decode cX12_ofAreaNow 13 = .ok (.checkcast 66, 3) := by decide +kernel
theorem dX12_ofAreaNow_16 : decode cX12_ofAreaNow 16 = .ok (.getfield 106, 3) := by decide +kernel
theorem dX12_ofAreaNow_19 : decode cX12_ofAreaNow 19 = .ok (.iload_n 2, 1) := by decide +kernel
theorem dX12_ofAreaNow_20 : decode cX12_ofAreaNow 20 = .ok (.iaload, 1) := by decide +kernel
theorem dX12_ofAreaNow_21 : decode cX12_ofAreaNow 21 = .ok (.ireturn, 1) := by decide +kernel
theorem dX12_ofAreaNow_22 : decode cX12_ofAreaNow 22 = .ok (.iconst 0, 1) := by decide +kernel
theorem dX12_ofAreaNow_23 : decode cX12_ofAreaNow 23 = .ok (.istore_n 3, 1) := by decide +kernel
theorem dX12_ofAreaNow_24 : decode cX12_ofAreaNow 24 = .ok (.aload_n 0, 1) := by decide +kernel
theorem dX12_ofAreaNow_25 : decode cX12_ofAreaNow 25 = .ok (.getfield 29, 3) := by decide +kernel
theorem dX12_ofAreaNow_28 : decode cX12_ofAreaNow 28 = .ok (.astore 4, 2) := by decide +kernel
theorem dX12_ofAreaNow_30 : decode cX12_ofAreaNow 30 = .ok (.aload 4, 2) := by decide +kernel
theorem dX12_ofAreaNow_32 : decode cX12_ofAreaNow 32 = .ok (.arraylength, 1) := by decide +kernel
theorem dX12_ofAreaNow_33 : decode cX12_ofAreaNow 33 = .ok (.istore 5, 2) := by decide +kernel
theorem dX12_ofAreaNow_35 : decode cX12_ofAreaNow 35 = .ok (.iconst 0, 1) := by decide +kernel
theorem dX12_ofAreaNow_36 : decode cX12_ofAreaNow 36 = .ok (.istore 6, 2) := by decide +kernel
theorem dX12_ofAreaNow_38 : decode cX12_ofAreaNow 38 = .ok (.iload 6, 2) := by decide +kernel
theorem dX12_ofAreaNow_40 : decode cX12_ofAreaNow 40 = .ok (.iload 5, 2) := by decide +kernel
theorem dX12_ofAreaNow_42 : decode cX12_ofAreaNow 42 = .ok (.if_icmp .ge 38, 3) := by decide +kernel
theorem dX12_ofAreaNow_45 : decode cX12_ofAreaNow 45 = .ok (.aload 4, 2) := by decide +kernel
theorem dX12_ofAreaNow_47 : decode cX12_ofAreaNow 47 = .ok (.iload 6, 2) := by decide +kernel
theorem dX12_ofAreaNow_49 : decode cX12_ofAreaNow 49 = .ok (.aaload, 1) := by decide +kernel
theorem dX12_ofAreaNow_50 : decode cX12_ofAreaNow 50 = .ok (.astore 7, 2) := by decide +kernel
theorem dX12_ofAreaNow_52 : decode cX12_ofAreaNow 52 = .ok (.iload_n 3, 1) := by decide +kernel
theorem dX12_ofAreaNow_53 : decode cX12_ofAreaNow 53 = .ok (.aload 7, 2) := by decide +kernel
theorem dX12_ofAreaNow_55 : decode cX12_ofAreaNow 55 = .ok (.ifnull 16, 3) := by decide +kernel
theorem dX12_ofAreaNow_58 : decode cX12_ofAreaNow 58 = .ok (.aload 7, 2) := by decide +kernel
theorem dX12_ofAreaNow_60 : decode cX12_ofAreaNow 60 = .ok (.getfield 99, 3) := by decide +kernel
theorem dX12_ofAreaNow_63 : decode cX12_ofAreaNow 63 = .ok (.iload_n 1, 1) := by decide +kernel
theorem dX12_ofAreaNow_64 : decode cX12_ofAreaNow 64 = .ok (.if_icmp .ne 7, 3) := by decide +kernel
theorem dX12_ofAreaNow_67 : decode cX12_ofAreaNow 67 = .ok (.iconst 1, 1) := by decide +kernel
theorem dX12_ofAreaNow_68 : decode cX12_ofAreaNow 68 = .ok (.goto 4, 3) := by decide +kernel
theorem dX12_ofAreaNow_71 : decode cX12_ofAreaNow 71 = .ok (.iconst 0, 1) := by decide +kernel
theorem dX12_ofAreaNow_72 : decode cX12_ofAreaNow 72 = .ok (.iadd, 1) := by decide +kernel
theorem dX12_ofAreaNow_73 : decode cX12_ofAreaNow 73 = .ok (.istore_n 3, 1) := by decide +kernel
theorem dX12_ofAreaNow_74 : decode cX12_ofAreaNow 74 = .ok (.iinc 6 1, 3) := by decide +kernel
theorem dX12_ofAreaNow_77 : decode cX12_ofAreaNow 77 = .ok (.goto (-39), 3) := by decide +kernel
theorem dX12_ofAreaNow_80 : decode cX12_ofAreaNow 80 = .ok (.iload_n 3, 1) := by decide +kernel
theorem dX12_ofAreaNow_81 : decode cX12_ofAreaNow 81 = .ok (.ireturn, 1) := by decide +kernel
theorem dX12_ofArea_0 : decode cX12_ofArea 0 = .ok (.aload_n 0, 1) := by decide +kernel
theorem dX12_ofArea_1 : decode cX12_ofArea 1 = .ok (.iload_n 1, 1) := by decide +kernel
theorem dX12_ofArea_2 : decode cX12_ofArea 2 = .ok (.iconst 0, 1) := by decide +kernel
theorem dX12_ofArea_3 : decode cX12_ofArea 3 = .ok (.aload_n 0, 1) := by decide +kernel
theorem dX12_ofArea_4 : decode cX12_ofArea 4 = .ok (.getfield 36, 3) := by decide +kernel
theorem dX12_ofArea_7 : decode cX12_ofArea 7 = .ok (.invokevirtual 62, 3) := by decide +kernel
theorem dX12_ofArea_10 : decode cX12_ofArea 10 = .ok (.iconst 1, 1) := by decide +kernel
theorem dX12_ofArea_11 : decode cX12_ofArea 11 = .ok (.isub, 1) := by decide +kernel
theorem dX12_ofArea_12 : decode cX12_ofArea 12 = .ok (.invokestatic 3, 3) := by decide +kernel
theorem dX12_ofArea_15 : decode cX12_ofArea 15 = .ok (.ifCond .ne 7, 3) := by decide +kernel
theorem dX12_ofArea_18 : decode cX12_ofArea 18 = .ok (.iconst 1, 1) := by decide +kernel
theorem dX12_ofArea_19 : decode cX12_ofArea 19 = .ok (.goto 4, 3) := by decide +kernel
theorem dX12_ofArea_22 : decode cX12_ofArea 22 = .ok (.iconst 0, 1) := by decide +kernel
theorem dX12_ofArea_23 : decode cX12_ofArea 23 = .ok (.iconst 1, 1) := by decide +kernel
theorem dX12_ofArea_24 : decode cX12_ofArea 24 = .ok (.invokevirtual 59, 3) := by decide +kernel
theorem dX12_ofArea_27 : decode cX12_ofArea 27 = .ok (.ifCond .ne 25, 3) := by decide +kernel
theorem dX12_ofArea_30 : decode cX12_ofArea 30 = .ok (.aload_n 0, 1) := by decide +kernel
theorem dX12_ofArea_31 : decode cX12_ofArea 31 = .ok (.iload_n 2, 1) := by decide +kernel
theorem dX12_ofArea_32 : decode cX12_ofArea 32 = .ok (.iconst 0, 1) := by decide +kernel
theorem dX12_ofArea_33 : decode cX12_ofArea 33 = .ok (.iconst 4, 1) := by decide +kernel
theorem dX12_ofArea_34 : decode cX12_ofArea 34 = .ok (.invokestatic 3, 3) := by decide +kernel
theorem dX12_ofArea_37 : decode cX12_ofArea 37 = .ok (.ifCond .ne 7, 3) := by decide +kernel
theorem dX12_ofArea_40 : decode cX12_ofArea 40 = .ok (.iconst 1, 1) := by decide +kernel
theorem dX12_ofArea_41 : decode cX12_ofArea 41 = .ok (.goto 4, 3) := by decide +kernel
theorem dX12_ofArea_44 : decode cX12_ofArea 44 = .ok (.iconst 0, 1) := by decide +kernel
theorem dX12_ofArea_45 : decode cX12_ofArea 45 = .ok (.iconst 2, 1) := by decide +kernel
theorem dX12_ofArea_46 : decode cX12_ofArea 46 = .ok (.invokevirtual 43, 3) := by decide +kernel
theorem dX12_ofArea_49 : decode cX12_ofArea 49 = .ok (.ifCond .eq 7, 3) := by decide +kernel
theorem dX12_ofArea_52 : decode cX12_ofArea 52 = .ok (.iconst 0, 1) := by decide +kernel
theorem dX12_ofArea_53 : decode cX12_ofArea 53 = .ok (.goto 9, 3) := by decide +kernel
theorem dX12_ofArea_56 : decode cX12_ofArea 56 = .ok (.aload_n 0, 1) := by decide +kernel
theorem dX12_ofArea_57 : decode cX12_ofArea 57 = .ok (.iload_n 1, 1) := by decide +kernel
theorem dX12_ofArea_58 : decode cX12_ofArea 58 = .ok (.iload_n 2, 1) := by decide +kernel
theorem dX12_ofArea_59 : decode cX12_ofArea 59 = .ok (.invokevirtual 281, 3) := by decide +kernel
theorem dX12_ofArea_62 : decode cX12_ofArea 62 = .ok (.ireturn, 1) := by decide +kernel
theorem dX12_manyNow_0 : decode cX12_manyNow 0 = .ok (.iload_n 1, 1) := by decide +kernel
theorem dX12_manyNow_1 : decode cX12_manyNow 1 = .ok (.tableswitch 99 0 8 #[51, 56, 61, 66, 71, 76, 81, 89, 94], 51) := by decide +kernel
theorem dX12_manyNow_52 : decode cX12_manyNow 52 = .ok (.aload_n 0, 1) := by decide +kernel
theorem dX12_manyNow_53 : decode cX12_manyNow 53 = .ok (.getfield 220, 3) := by decide +kernel
theorem dX12_manyNow_56 : decode cX12_manyNow 56 = .ok (.ireturn, 1) := by decide +kernel
theorem dX12_manyNow_57 : decode cX12_manyNow 57 = .ok (.aload_n 0, 1) := by decide +kernel
theorem dX12_manyNow_58 : decode cX12_manyNow 58 = .ok (.getfield 223, 3) := by decide +kernel
theorem dX12_manyNow_61 : decode cX12_manyNow 61 = .ok (.ireturn, 1) := by decide +kernel
theorem dX12_manyNow_62 : decode cX12_manyNow 62 = .ok (.aload_n 0, 1) := by decide +kernel
theorem dX12_manyNow_63 : decode cX12_manyNow 63 = .ok (.invokevirtual 236, 3) := by decide +kernel
theorem dX12_manyNow_66 : decode cX12_manyNow 66 = .ok (.ireturn, 1) := by decide +kernel
theorem dX12_manyNow_67 : decode cX12_manyNow 67 = .ok (.aload_n 0, 1) := by decide +kernel
theorem dX12_manyNow_68 : decode cX12_manyNow 68 = .ok (.getfield 153, 3) := by decide +kernel
theorem dX12_manyNow_71 : decode cX12_manyNow 71 = .ok (.ireturn, 1) := by decide +kernel
theorem dX12_manyNow_72 : decode cX12_manyNow 72 = .ok (.aload_n 0, 1) := by decide +kernel
theorem dX12_manyNow_73 : decode cX12_manyNow 73 = .ok (.getfield 132, 3) := by decide +kernel
theorem dX12_manyNow_76 : decode cX12_manyNow 76 = .ok (.ireturn, 1) := by decide +kernel
theorem dX12_manyNow_77 : decode cX12_manyNow 77 = .ok (.aload_n 0, 1) := by decide +kernel
theorem dX12_manyNow_78 : decode cX12_manyNow 78 = .ok (.getfield 116, 3) := by decide +kernel
theorem dX12_manyNow_81 : decode cX12_manyNow 81 = .ok (.ireturn, 1) := by decide +kernel
theorem dX12_manyNow_82 : decode cX12_manyNow 82 = .ok (.aload_n 0, 1) := by decide +kernel
theorem dX12_manyNow_83 : decode cX12_manyNow 83 = .ok (.getfield 36, 3) := by decide +kernel
theorem dX12_manyNow_86 : decode cX12_manyNow 86 = .ok (.invokevirtual 62, 3) := by decide +kernel
theorem dX12_manyNow_89 : decode cX12_manyNow 89 = .ok (.ireturn, 1) := by decide +kernel
theorem dX12_manyNow_90 : decode cX12_manyNow 90 = .ok (.aload_n 2, 1) := by decide +kernel
theorem dX12_manyNow_91 : decode cX12_manyNow 91 = .ok (.invokevirtual 96, 3) := by decide +kernel
theorem dX12_manyNow_94 : decode cX12_manyNow 94 = .ok (.ireturn, 1) := by decide +kernel
theorem dX12_manyNow_95 : decode cX12_manyNow 95 = .ok (.aload_n 2, 1) := by decide +kernel
theorem dX12_manyNow_96 : decode cX12_manyNow 96 = .ok (.getfield 212, 3) := by decide +kernel
theorem dX12_manyNow_99 : decode cX12_manyNow 99 = .ok (.ireturn, 1) := by decide +kernel
theorem dX12_manyNow_100 : decode cX12_manyNow 100 = .ok (.iconst 0, 1) := by decide +kernel
theorem dX12_manyNow_101 : decode cX12_manyNow 101 = .ok (.istore_n 3, 1) := by decide +kernel
theorem dX12_manyNow_102 : decode cX12_manyNow 102 = .ok (.iconst 0, 1) := by decide +kernel
theorem dX12_manyNow_103 : decode cX12_manyNow 103 = .ok (.istore 4, 2) := by decide +kernel
theorem dX12_manyNow_105 : decode cX12_manyNow 105 = .ok (.iload 4, 2) := by decide +kernel
theorem dX12_manyNow_107 : decode cX12_manyNow 107 = .ok (.aload_n 2, 1) := by decide +kernel
theorem dX12_manyNow_108 : decode cX12_manyNow 108 = .ok (.getfield 212, 3) := by decide +kernel
theorem dX12_manyNow_111 : decode cX12_manyNow 111 = .ok (.if_icmp .ge 31, 3) := by decide +kernel
theorem dX12_manyNow_114 : decode cX12_manyNow 114 = .ok (.iload_n 3, 1) := by decide +kernel
theorem dX12_manyNow_115 : decode cX12_manyNow 115 = .ok (.aload_n 2, 1) := by decide +kernel
theorem dX12_manyNow_116 : decode cX12_manyNow 116 = .ok (.aload_n 2, 1) := by decide +kernel
theorem dX12_manyNow_117 : decode cX12_manyNow 117 = .ok (.getfield 192, 3) := by decide +kernel
theorem dX12_manyNow_120 : decode cX12_manyNow 120 = .ok (.iload 4, 2) := by decide +kernel
theorem dX12_manyNow_122 : decode cX12_manyNow 122 = .ok (.iaload, 1) := by decide +kernel
theorem dX12_manyNow_123 : decode cX12_manyNow 123 = .ok (.invokevirtual 195, 3) := by decide +kernel
theorem dX12_manyNow_126 : decode cX12_manyNow 126 = .ok (.ifCond .eq 7, 3) := by decide +kernel
theorem dX12_manyNow_129 : decode cX12_manyNow 129 = .ok (.iconst 1, 1) := by decide +kernel
theorem dX12_manyNow_130 : decode cX12_manyNow 130 = .ok (.goto 4, 3) := by decide +kernel
theorem dX12_manyNow_133 : decode cX12_manyNow 133 = .ok (.iconst 0, 1) := by decide +kernel
theorem dX12_manyNow_134 : decode cX12_manyNow 134 = .ok (.iadd, 1) := by decide +kernel
theorem dX12_manyNow_135 : decode cX12_manyNow 135 = .ok (.istore_n 3, 1) := by decide +kernel
theorem dX12_manyNow_136 : decode cX12_manyNow 136 = .ok (.iinc 4 1, 3) := by decide +kernel
theorem dX12_manyNow_139 : decode cX12_manyNow 139 = .ok (.goto (-34), 3) := by decide +kernel
theorem dX12_manyNow_142 : decode cX12_manyNow 142 = .ok (.iload_n 3, 1) := by decide +kernel
theorem dX12_manyNow_143 : decode cX12_manyNow 143 = .ok (.ireturn, 1) := by decide +kernel
theorem dX12_many_0 : decode cX12_many 0 = .ok (.aload_n 0, 1) := by decide +kernel
theorem dX12_many_1 : decode cX12_many 1 = .ok (.iload_n 1, 1) := by decide +kernel
theorem dX12_many_2 : decode cX12_many 2 = .ok (.iconst 0, 1) := by decide +kernel
theorem dX12_many_3 : decode cX12_many 3 = .ok (.bipush 9, 2) := by decide +kernel
theorem dX12_many_5 : decode cX12_many 5 = .ok (.invokestatic 3, 3) := by decide +kernel
theorem dX12_many_8 : decode cX12_many 8 = .ok (.ifCond .ne 7, 3) := by decide +kernel
theorem dX12_many_11 : decode cX12_many 11 = .ok (.iconst 1, 1) := by decide +kernel
theorem dX12_many_12 : decode cX12_many 12 = .ok (.goto 4, 3) := by decide +kernel
theorem dX12_many_15 : decode cX12_many 15 = .ok (.iconst 0, 1) := by decide +kernel
theorem dX12_many_16 : decode cX12_many 16 = .ok (.iconst 1, 1) := by decide +kernel
theorem dX12_many_17 : decode cX12_many 17 = .ok (.invokevirtual 59, 3) := by decide +kernel
theorem dX12_many_20 : decode cX12_many 20 = .ok (.ifCond .eq 7, 3) := by decide +kernel
theorem dX12_many_23 : decode cX12_many 23 = .ok (.iconst 0, 1) := by decide +kernel
theorem dX12_many_24 : decode cX12_many 24 = .ok (.goto 12, 3) := by decide +kernel
theorem dX12_many_27 : decode cX12_many 27 = .ok (.aload_n 0, 1) := by decide +kernel
theorem dX12_many_28 : decode cX12_many 28 = .ok (.iload_n 1, 1) := by decide +kernel
theorem dX12_many_29 : decode cX12_many 29 = .ok (.aload_n 0, 1) := by decide +kernel
theorem dX12_many_30 : decode cX12_many 30 = .ok (.invokevirtual 92, 3) := by decide +kernel
theorem dX12_many_33 : decode cX12_many 33 = .ok (.invokevirtual 284, 3) := by decide +kernel
theorem dX12_many_36 : decode cX12_many 36 = .ok (.ireturn, 1) := by decide +kernel
theorem dX12_guessNow_0 : decode cX12_guessNow 0 = .ok (.iload_n 2, 1) := by decide +kernel
theorem dX12_guessNow_1 : decode cX12_guessNow 1 = .ok (.ifCond .eq 18, 3) := by decide +kernel
theorem dX12_guessNow_4 : decode cX12_guessNow 4 = .ok (.aload_n 0, 1) := by decide +kernel
theorem dX12_guessNow_5 : decode cX12_guessNow 5 = .ok (.getfield 271, 3) := by decide +kernel
theorem dX12_guessNow_8 : decode cX12_guessNow 8 = .ok (.aload_n 0, 1) := by decide +kernel
theorem dX12_guessNow_9 : decode cX12_guessNow 9 = .ok (.getfield 126, 3) := by decide +kernel
theorem dX12_guessNow_12 : decode cX12_guessNow 12 = .ok (.iload_n 1, 1) := by decide +kernel
theorem dX12_guessNow_13 : decode cX12_guessNow 13 = .ok (.i2f, 1) := by decide +kernel
theorem dX12_guessNow_14 : decode cX12_guessNow 14 = .ok (.fmul, 1) := by decide +kernel
theorem dX12_guessNow_15 : decode cX12_guessNow 15 = .ok (.fadd, 1) := by decide +kernel
theorem dX12_guessNow_16 : decode cX12_guessNow 16 = .ok (.goto 15, 3) := by decide +kernel
theorem dX12_guessNow_19 : decode cX12_guessNow 19 = .ok (.aload_n 0, 1) := by decide +kernel
theorem dX12_guessNow_20 : decode cX12_guessNow 20 = .ok (.getfield 268, 3) := by decide +kernel
theorem dX12_guessNow_23 : decode cX12_guessNow 23 = .ok (.aload_n 0, 1) := by decide +kernel
theorem dX12_guessNow_24 : decode cX12_guessNow 24 = .ok (.getfield 122, 3) := by decide +kernel
theorem dX12_guessNow_27 : decode cX12_guessNow 27 = .ok (.iload_n 1, 1) := by decide +kernel
theorem dX12_guessNow_28 : decode cX12_guessNow 28 = .ok (.i2f, 1) := by decide +kernel
theorem dX12_guessNow_29 : decode cX12_guessNow 29 = .ok (.fmul, 1) := by decide +kernel
theorem dX12_guessNow_30 : decode cX12_guessNow 30 = .ok (.fadd, 1) := by decide +kernel
theorem dX12_guessNow_31 : decode cX12_guessNow 31 = .ok (.fstore_n 3, 1) := by decide +kernel
theorem dX12_guessNow_32 : decode cX12_guessNow 32 = .ok (.fconst 0, 1) := by decide +kernel
theorem dX12_guessNow_33 : decode cX12_guessNow 33 = .ok (.iload_n 2, 1) := by decide +kernel
theorem dX12_guessNow_34 : decode cX12_guessNow 34 = .ok (.ifCond .eq 9, 3) := by decide +kernel
theorem dX12_guessNow_37 : decode cX12_guessNow 37 = .ok (.ldc_w 288, 3) := by decide +kernel
theorem dX12_guessNow_40 : decode cX12_guessNow 40 = .ok (.goto 6, 3) := by decide +kernel
theorem dX12_guessNow_43 : decode cX12_guessNow 43 = .ok (.ldc_w 289, 3) := by decide +kernel
theorem dX12_guessNow_46 : decode cX12_guessNow 46 = .ok (.fload_n 3, 1) := by decide +kernel
theorem dX12_guessNow_47 : decode cX12_guessNow 47 = .ok (.invokestatic 290, 3) := by decide +kernel
theorem dX12_guessNow_50 : decode cX12_guessNow 50 = .ok (.invokestatic 294, 3) := by decide +kernel
theorem dX12_guessNow_53 : decode cX12_guessNow 53 = .ok (.f2d, 1) := by decide +kernel
theorem dX12_guessNow_54 : decode cX12_guessNow 54 = .ok (.dreturn, 1) := by decide +kernel
theorem dX12_guess_0 : decode cX12_guess 0 = .ok (.aload_n 0, 1) := by decide +kernel
theorem dX12_guess_1 : decode cX12_guess 1 = .ok (.aload_n 0, 1) := by decide +kernel
theorem dX12_guess_2 : decode cX12_guess 2 = .ok (.iload_n 1, 1) := by decide +kernel
theorem dX12_guess_3 : decode cX12_guess 3 = .ok (.invokevirtual 261, 3) := by decide +kernel
theorem dX12_guess_6 : decode cX12_guess 6 = .ok (.iconst 1, 1) := by decide +kernel
theorem dX12_guess_7 : decode cX12_guess 7 = .ok (.invokevirtual 59, 3) := by decide +kernel
theorem dX12_guess_10 : decode cX12_guess 10 = .ok (.ifCond .ne 26, 3) := by decide +kernel
theorem dX12_guess_13 : decode cX12_guess 13 = .ok (.aload_n 0, 1) := by decide +kernel
theorem dX12_guess_14 : decode cX12_guess 14 = .ok (.iload_n 2, 1) := by decide +kernel
theorem dX12_guess_15 : decode cX12_guess 15 = .ok (.iconst 0, 1) := by decide +kernel
theorem dX12_guess_16 : decode cX12_guess 16 = .ok (.bipush 9, 2) := by decide +kernel
theorem dX12_guess_18 : decode cX12_guess 18 = .ok (.invokestatic 3, 3) := by decide +kernel
theorem dX12_guess_21 : decode cX12_guess 21 = .ok (.ifCond .ne 7, 3) := by decide +kernel
theorem dX12_guess_24 : decode cX12_guess 24 = .ok (.iconst 1, 1) := by decide +kernel
theorem dX12_guess_25 : decode cX12_guess 25 = .ok (.goto 4, 3) := by decide +kernel
theorem dX12_guess_28 : decode cX12_guess 28 = .ok (.iconst 0, 1) := by decide +kernel
theorem dX12_guess_29 : decode cX12_guess 29 = .ok (.iconst 2, 1) := by decide +kernel
theorem dX12_guess_30 : decode cX12_guess 30 = .ok (.invokevirtual 43, 3) := by decide +kernel
theorem dX12_guess_33 : decode cX12_guess 33 = .ok (.ifCond .eq 7, 3) := by decide +kernel
theorem dX12_guess_36 : decode cX12_guess 36 = .ok (.dconst 0, 1) := by decide +kernel
theorem dX12_guess_37 : decode cX12_guess 37 = .ok (.goto 14, 3) := by decide +kernel
theorem dX12_guess_40 : decode cX12_guess 40 = .ok (.aload_n 0, 1) := by decide +kernel
theorem dX12_guess_41 : decode cX12_guess 41 = .ok (.getfield 29, 3) := by decide +kernel
theorem dX12_guess_44 : decode cX12_guess 44 = .ok (.iload_n 1, 1) := by decide +kernel
theorem dX12_guess_45 : decode cX12_guess 45 = .ok (.aaload, 1) := by decide +kernel
theorem dX12_guess_46 : decode cX12_guess 46 = .ok (.iload_n 2, 1) := by decide +kernel
theorem dX12_guess_47 : decode cX12_guess 47 = .ok (.iload_n 3, 1) := by decide +kernel
theorem dX12_guess_48 : decode cX12_guess 48 = .ok (.invokestatic 297, 3) := by decide +kernel
theorem dX12_guess_51 : decode cX12_guess 51 = .ok (.dreturn, 1) := by decide +kernel
theorem dX12_wouldMatchNow_0 : decode cX12_wouldMatchNow 0 = .ok (.aload_n 2, 1) := by decide +kernel
theorem dX12_wouldMatchNow_1 : decode cX12_wouldMatchNow 1 = .ok (.invokevirtual 96, 3) := by decide +kernel
theorem dX12_wouldMatchNow_4 : decode cX12_wouldMatchNow 4 = .ok (.aload_n 0, 1) := by decide +kernel
theorem dX12_wouldMatchNow_5 : decode cX12_wouldMatchNow 5 = .ok (.getfield 24, 3) := by decide +kernel
theorem dX12_wouldMatchNow_8 : decode cX12_wouldMatchNow 8 = .ok (.if_icmp .le 7, 3) := by decide +kernel
theorem dX12_wouldMatchNow_11 : decode cX12_wouldMatchNow 11 = .ok (.iconst (-1), 1) := by decide +kernel
theorem dX12_wouldMatchNow_12 : decode cX12_wouldMatchNow 12 = .ok (.goto 17, 3) := by decide +kernel
theorem dX12_wouldMatchNow_15 : decode cX12_wouldMatchNow 15 = .ok (.new 184, 3) := by decide +kernel
theorem dX12_wouldMatchNow_18 : decode cX12_wouldMatchNow 18 = .ok (.dup, 1) := by decide +kernel
theorem dX12_wouldMatchNow_19 : decode cX12_wouldMatchNow 19 = .ok (.aload_n 0, 1) := by decide +kernel
theorem dX12_wouldMatchNow_20 : decode cX12_wouldMatchNow 20 = .ok (.aload_n 2, 1) := by decide +kernel
theorem dX12_wouldMatchNow_21 : decode cX12_wouldMatchNow 21 = .ok (.invokespecial 186, 3) := by decide +kernel
theorem dX12_wouldMatchNow_24 : decode cX12_wouldMatchNow 24 = .ok (.getfield 189, 3) := by decide +kernel
theorem dX12_wouldMatchNow_27 : decode cX12_wouldMatchNow 27 = .ok (.iload_n 1, 1) := by decide +kernel
theorem dX12_wouldMatchNow_28 : decode cX12_wouldMatchNow 28 = .ok (.iaload, 1) := by decide +kernel
theorem dX12_wouldMatchNow_29 : decode cX12_wouldMatchNow 29 = .ok (.ireturn, 1) := by decide +kernel
theorem dX12_wouldMatch_0 : decode cX12_wouldMatch 0 = .ok (.aload_n 0, 1) := by decide +kernel
theorem dX12_wouldMatch_1 : decode cX12_wouldMatch 1 = .ok (.aload_n 0, 1) := by decide +kernel
theorem dX12_wouldMatch_2 : decode cX12_wouldMatch 2 = .ok (.iload_n 1, 1) := by decide +kernel
theorem dX12_wouldMatch_3 : decode cX12_wouldMatch 3 = .ok (.invokevirtual 261, 3) := by decide +kernel
theorem dX12_wouldMatch_6 : decode cX12_wouldMatch 6 = .ok (.iconst 1, 1) := by decide +kernel
theorem dX12_wouldMatch_7 : decode cX12_wouldMatch 7 = .ok (.invokevirtual 59, 3) := by decide +kernel
theorem dX12_wouldMatch_10 : decode cX12_wouldMatch 10 = .ok (.ifCond .eq 7, 3) := by decide +kernel
theorem dX12_wouldMatch_13 : decode cX12_wouldMatch 13 = .ok (.iconst 0, 1) := by decide +kernel
theorem dX12_wouldMatch_14 : decode cX12_wouldMatch 14 = .ok (.goto 12, 3) := by decide +kernel
theorem dX12_wouldMatch_17 : decode cX12_wouldMatch 17 = .ok (.aload_n 0, 1) := by decide +kernel
theorem dX12_wouldMatch_18 : decode cX12_wouldMatch 18 = .ok (.iload_n 1, 1) := by decide +kernel
theorem dX12_wouldMatch_19 : decode cX12_wouldMatch 19 = .ok (.aload_n 0, 1) := by decide +kernel
theorem dX12_wouldMatch_20 : decode cX12_wouldMatch 20 = .ok (.invokevirtual 92, 3) := by decide +kernel
theorem dX12_wouldMatch_23 : decode cX12_wouldMatch 23 = .ok (.invokevirtual 301, 3) := by decide +kernel
theorem dX12_wouldMatch_26 : decode cX12_wouldMatch 26 = .ok (.ireturn, 1) := by decide +kernel
theorem dX12_calmInNow_0 : decode cX12_calmInNow 0 = .ok (.bipush 48, 2) := by decide +kernel
theorem dX12_calmInNow_2 : decode cX12_calmInNow 2 = .ok (.newarray .int, 2) := by decide +kernel
theorem dX12_calmInNow_4 : decode cX12_calmInNow 4 = .ok (.astore_n 1, 1) := by decide +kernel
theorem dX12_calmInNow_5 : decode cX12_calmInNow 5 = .ok (.bipush 48, 2) := by decide +kernel
theorem dX12_calmInNow_7 : decode cX12_calmInNow 7 = .ok (.newarray .int, 2) := by decide +kernel
theorem dX12_calmInNow_9 : decode cX12_calmInNow 9 = .ok (.astore_n 2, 1) := by decide +kernel
theorem dX12_calmInNow_10 : decode cX12_calmInNow 10 = .ok (.iconst 0, 1) := by decide +kernel
theorem dX12_calmInNow_11 : decode cX12_calmInNow 11 = .ok (.istore_n 3, 1) := by decide +kernel
theorem dX12_calmInNow_12 : decode cX12_calmInNow 12 = .ok (.iload_n 3, 1) := by decide +kernel
theorem dX12_calmInNow_13 : decode cX12_calmInNow 13 = .ok (.bipush 48, 2) := by decide +kernel
theorem dX12_calmInNow_15 : decode cX12_calmInNow 15 = .ok (.if_icmp .ge 25, 3) := by decide +kernel
theorem dX12_calmInNow_18 : decode cX12_calmInNow 18 = .ok (.aload_n 1, 1) := by decide +kernel
theorem dX12_calmInNow_19 : decode cX12_calmInNow 19 = .ok (.iload_n 3, 1) := by decide +kernel
theorem dX12_calmInNow_20 : decode cX12_calmInNow 20 = .ok (.aload_n 0, 1) := by decide +kernel
theorem dX12_calmInNow_21 : decode cX12_calmInNow 21 = .ok (.getfield 47, 3) := by decide +kernel
theorem dX12_calmInNow_24 : decode cX12_calmInNow 24 = .ok (.iastore, 1) := by decide +kernel
theorem dX12_calmInNow_25 : decode cX12_calmInNow 25 = .ok (.aload_n 2, 1) := by decide +kernel
theorem dX12_calmInNow_26 : decode cX12_calmInNow 26 = .ok (.iload_n 3, 1) := by decide +kernel
theorem dX12_calmInNow_27 : decode cX12_calmInNow 27 = .ok (.aload_n 0, 1) := by decide +kernel
theorem dX12_calmInNow_28 : decode cX12_calmInNow 28 = .ok (.getfield 13, 3) := by decide +kernel
theorem dX12_calmInNow_31 : decode cX12_calmInNow 31 = .ok (.iload_n 3, 1) := by decide +kernel
theorem dX12_calmInNow_32 : decode cX12_calmInNow 32 = .ok (.iaload, 1) := by decide +kernel
theorem dX12_calmInNow_33 : decode cX12_calmInNow 33 = .ok (.iastore, 1) := by decide +kernel
theorem dX12_calmInNow_34 : decode cX12_calmInNow 34 = .ok (.iinc 3 1, 3) := by decide +kernel
theorem dX12_calmInNow_37 : decode cX12_calmInNow 37 = .ok (.goto (-25), 3) := by decide +kernel
theorem dX12_calmInNow_40 : decode cX12_calmInNow 40 = .ok (.iconst 0, 1) := by decide +kernel
theorem dX12_calmInNow_41 : decode cX12_calmInNow 41 = .ok (.istore_n 3, 1) := by decide +kernel
theorem dX12_calmInNow_42 : decode cX12_calmInNow 42 = .ok (.iload_n 3, 1) := by decide +kernel
theorem dX12_calmInNow_43 : decode cX12_calmInNow 43 = .ok (.bipush 60, 2) := by decide +kernel
theorem dX12_calmInNow_45 : decode cX12_calmInNow 45 = .ok (.if_icmp .gt 76, 3) := by decide +kernel
theorem dX12_calmInNow_48 : decode cX12_calmInNow 48 = .ok (.new 50, 3) := by decide +kernel
theorem dX12_calmInNow_51 : decode cX12_calmInNow 51 = .ok (.dup, 1) := by decide +kernel
theorem dX12_calmInNow_52 : decode cX12_calmInNow 52 = .ok (.aload_n 1, 1) := by decide +kernel
theorem dX12_calmInNow_53 : decode cX12_calmInNow 53 = .ok (.aload_n 2, 1) := by decide +kernel
theorem dX12_calmInNow_54 : decode cX12_calmInNow 54 = .ok (.invokespecial 56, 3) := by decide +kernel
theorem dX12_calmInNow_57 : decode cX12_calmInNow 57 = .ok (.astore 4, 2) := by decide +kernel
theorem dX12_calmInNow_59 : decode cX12_calmInNow 59 = .ok (.iconst 0, 1) := by decide +kernel
theorem dX12_calmInNow_60 : decode cX12_calmInNow 60 = .ok (.istore 5, 2) := by decide +kernel
theorem dX12_calmInNow_62 : decode cX12_calmInNow 62 = .ok (.iconst 0, 1) := by decide +kernel
theorem dX12_calmInNow_63 : decode cX12_calmInNow 63 = .ok (.istore 6, 2) := by decide +kernel
theorem dX12_calmInNow_65 : decode cX12_calmInNow 65 = .ok (.iload 6, 2) := by decide +kernel
theorem dX12_calmInNow_67 : decode cX12_calmInNow 67 = .ok (.bipush 48, 2) := by decide +kernel
theorem dX12_calmInNow_69 : decode cX12_calmInNow 69 = .ok (.if_icmp .ge 39, 3) := by decide +kernel
theorem dX12_calmInNow_72 : decode cX12_calmInNow 72 = .ok (.iload 5, 2) := by decide +kernel
theorem dX12_calmInNow_74 : decode cX12_calmInNow 74 = .ok (.aload 4, 2) := by decide +kernel
theorem dX12_calmInNow_76 : decode cX12_calmInNow 76 = .ok (.getfield 239, 3) := by decide +kernel
theorem dX12_calmInNow_79 : decode cX12_calmInNow 79 = .ok (.iload 6, 2) := by decide +kernel
theorem dX12_calmInNow_81 : decode cX12_calmInNow 81 = .ok (.iaload, 1) := by decide +kernel
theorem dX12_calmInNow_82 : decode cX12_calmInNow 82 = .ok (.invokestatic 83, 3) := by decide +kernel
theorem dX12_calmInNow_85 : decode cX12_calmInNow 85 = .ok (.iadd, 1) := by decide +kernel
theorem dX12_calmInNow_86 : decode cX12_calmInNow 86 = .ok (.istore 5, 2) := by decide +kernel
theorem dX12_calmInNow_88 : decode cX12_calmInNow 88 = .ok (.aload_n 2, 1) := by decide +kernel
theorem dX12_calmInNow_89 : decode cX12_calmInNow 89 = .ok (.iload 6, 2) := by decide +kernel
theorem dX12_calmInNow_91 : decode cX12_calmInNow 91 = .ok (.dup2, 1) := by decide +kernel
theorem dX12_calmInNow_92 : decode cX12_calmInNow 92 = .ok (.iaload, 1) := by decide +kernel
theorem dX12_calmInNow_93 : decode cX12_calmInNow 93 = .ok (.aload 4, 2) := by decide +kernel
theorem dX12_calmInNow_95 : decode cX12_calmInNow 95 = .ok (.iload 6, 2) := by decide +kernel
theorem dX12_calmInNow_97 : decode cX12_calmInNow 97 = .ok (.invokevirtual 230, 3) := by decide +kernel
theorem dX12_calmInNow_100 : decode cX12_calmInNow 100 = .ok (.iadd, 1) := by decide +kernel
theorem dX12_calmInNow_101 : decode cX12_calmInNow 101 = .ok (.iastore, 1) := by decide +kernel
theorem dX12_calmInNow_102 : decode cX12_calmInNow 102 = .ok (.iinc 6 1, 3) := by decide +kernel
theorem dX12_calmInNow_105 : decode cX12_calmInNow 105 = .ok (.goto (-40), 3) := by decide +kernel
theorem dX12_calmInNow_108 : decode cX12_calmInNow 108 = .ok (.iload 5, 2) := by decide +kernel
theorem dX12_calmInNow_110 : decode cX12_calmInNow 110 = .ok (.ifCond .ne 5, 3) := by decide +kernel
theorem dX12_calmInNow_113 : decode cX12_calmInNow 113 = .ok (.iload_n 3, 1) := by decide +kernel
theorem dX12_calmInNow_114 : decode cX12_calmInNow 114 = .ok (.ireturn, 1) := by decide +kernel
theorem dX12_calmInNow_115 : decode cX12_calmInNow 115 = .ok (.iinc 3 1, 3) := by decide +kernel
theorem dX12_calmInNow_118 : decode cX12_calmInNow 118 = .ok (.goto (-76), 3) := by decide +kernel
theorem dX12_calmInNow_121 : decode cX12_calmInNow 121 = .ok (.iconst (-1), 1) := by decide +kernel
theorem dX12_calmInNow_122 : decode cX12_calmInNow 122 = .ok (.ireturn, 1) := by decide +kernel
theorem dX12_calmIn_0 : decode cX12_calmIn 0 = .ok (.aload_n 0, 1) := by decide +kernel
theorem dX12_calmIn_1 : decode cX12_calmIn 1 = .ok (.iconst 0, 1) := by decide +kernel
theorem dX12_calmIn_2 : decode cX12_calmIn 2 = .ok (.putfield 40, 3) := by decide +kernel
theorem dX12_calmIn_5 : decode cX12_calmIn 5 = .ok (.aload_n 0, 1) := by decide +kernel
theorem dX12_calmIn_6 : decode cX12_calmIn 6 = .ok (.invokevirtual 304, 3) := by decide +kernel
theorem dX12_calmIn_9 : decode cX12_calmIn 9 = .ok (.ireturn, 1) := by decide +kernel
theorem dX12_keepByNow_0 : decode cX12_keepByNow 0 = .ok (.iconst 0, 1) := by decide +kernel
theorem dX12_keepByNow_1 : decode cX12_keepByNow 1 = .ok (.istore_n 3, 1) := by decide +kernel
theorem dX12_keepByNow_2 : decode cX12_keepByNow 2 = .ok (.iload_n 3, 1) := by decide +kernel
theorem dX12_keepByNow_3 : decode cX12_keepByNow 3 = .ok (.bipush 48, 2) := by decide +kernel
theorem dX12_keepByNow_5 : decode cX12_keepByNow 5 = .ok (.if_icmp .ge 72, 3) := by decide +kernel
theorem dX12_keepByNow_8 : decode cX12_keepByNow 8 = .ok (.aload_n 0, 1) := by decide +kernel
theorem dX12_keepByNow_9 : decode cX12_keepByNow 9 = .ok (.iload_n 3, 1) := by decide +kernel
theorem dX12_keepByNow_10 : decode cX12_keepByNow 10 = .ok (.bipush 8, 2) := by decide +kernel
theorem dX12_keepByNow_12 : decode cX12_keepByNow 12 = .ok (.irem, 1) := by decide +kernel
theorem dX12_keepByNow_13 : decode cX12_keepByNow 13 = .ok (.iload_n 3, 1) := by decide +kernel
theorem dX12_keepByNow_14 : decode cX12_keepByNow 14 = .ok (.bipush 8, 2) := by decide +kernel
theorem dX12_keepByNow_16 : decode cX12_keepByNow 16 = .ok (.idiv, 1) := by decide +kernel
theorem dX12_keepByNow_17 : decode cX12_keepByNow 17 = .ok (.iload_n 2, 1) := by decide +kernel
theorem dX12_keepByNow_18 : decode cX12_keepByNow 18 = .ok (.iconst 1, 1) := by decide +kernel
theorem dX12_keepByNow_19 : decode cX12_keepByNow 19 = .ok (.invokevirtual 89, 3) := by decide +kernel
theorem dX12_keepByNow_22 : decode cX12_keepByNow 22 = .ok (.aload_n 0, 1) := by decide +kernel
theorem dX12_keepByNow_23 : decode cX12_keepByNow 23 = .ok (.invokevirtual 92, 3) := by decide +kernel
theorem dX12_keepByNow_26 : decode cX12_keepByNow 26 = .ok (.astore 4, 2) := by decide +kernel
theorem dX12_keepByNow_28 : decode cX12_keepByNow 28 = .ok (.aload_n 0, 1) := by decide +kernel
theorem dX12_keepByNow_29 : decode cX12_keepByNow 29 = .ok (.iload_n 3, 1) := by decide +kernel
theorem dX12_keepByNow_30 : decode cX12_keepByNow 30 = .ok (.bipush 8, 2) := by decide +kernel
theorem dX12_keepByNow_32 : decode cX12_keepByNow 32 = .ok (.irem, 1) := by decide +kernel
theorem dX12_keepByNow_33 : decode cX12_keepByNow 33 = .ok (.iload_n 3, 1) := by decide +kernel
theorem dX12_keepByNow_34 : decode cX12_keepByNow 34 = .ok (.bipush 8, 2) := by decide +kernel
theorem dX12_keepByNow_36 : decode cX12_keepByNow 36 = .ok (.idiv, 1) := by decide +kernel
theorem dX12_keepByNow_37 : decode cX12_keepByNow 37 = .ok (.iload_n 2, 1) := by decide +kernel
theorem dX12_keepByNow_38 : decode cX12_keepByNow 38 = .ok (.iconst (-1), 1) := by decide +kernel
theorem dX12_keepByNow_39 : decode cX12_keepByNow 39 = .ok (.invokevirtual 89, 3) := by decide +kernel
theorem dX12_keepByNow_42 : decode cX12_keepByNow 42 = .ok (.aload_n 0, 1) := by decide +kernel
theorem dX12_keepByNow_43 : decode cX12_keepByNow 43 = .ok (.iload_n 1, 1) := by decide +kernel
theorem dX12_keepByNow_44 : decode cX12_keepByNow 44 = .ok (.aload 4, 2) := by decide +kernel
theorem dX12_keepByNow_46 : decode cX12_keepByNow 46 = .ok (.invokevirtual 301, 3) := by decide +kernel
theorem dX12_keepByNow_49 : decode cX12_keepByNow 49 = .ok (.istore 5, 2) := by decide +kernel
theorem dX12_keepByNow_51 : decode cX12_keepByNow 51 = .ok (.iload 5, 2) := by decide +kernel
theorem dX12_keepByNow_53 : decode cX12_keepByNow 53 = .ok (.iconst (-1), 1) := by decide +kernel
theorem dX12_keepByNow_54 : decode cX12_keepByNow 54 = .ok (.if_icmp .eq 17, 3) := by decide +kernel
theorem dX12_keepByNow_57 : decode cX12_keepByNow 57 = .ok (.aload 4, 2) := by decide +kernel
theorem dX12_keepByNow_59 : decode cX12_keepByNow 59 = .ok (.getfield 192, 3) := by decide +kernel
theorem dX12_keepByNow_62 : decode cX12_keepByNow 62 = .ok (.iload 5, 2) := by decide +kernel
theorem dX12_keepByNow_64 : decode cX12_keepByNow 64 = .ok (.iaload, 1) := by decide +kernel
theorem dX12_keepByNow_65 : decode cX12_keepByNow 65 = .ok (.iload_n 3, 1) := by decide +kernel
theorem dX12_keepByNow_66 : decode cX12_keepByNow 66 = .ok (.if_icmp .ne 5, 3) := by decide +kernel
theorem dX12_keepByNow_69 : decode cX12_keepByNow 69 = .ok (.iload_n 3, 1) := by decide +kernel
theorem dX12_keepByNow_70 : decode cX12_keepByNow 70 = .ok (.ireturn, 1) := by decide +kernel
theorem dX12_keepByNow_71 : decode cX12_keepByNow 71 = .ok (.iinc 3 1, 3) := by decide +kernel
theorem dX12_keepByNow_74 : decode cX12_keepByNow 74 = .ok (.goto (-72), 3) := by decide +kernel
theorem dX12_keepByNow_77 : decode cX12_keepByNow 77 = .ok (.iconst (-1), 1) := by decide +kernel
theorem dX12_keepByNow_78 : decode cX12_keepByNow 78 = .ok (.ireturn, 1) := by decide +kernel
theorem dX12_keepBy_0 : decode cX12_keepBy 0 = .ok (.aload_n 0, 1) := by decide +kernel
theorem dX12_keepBy_1 : decode cX12_keepBy 1 = .ok (.aload_n 0, 1) := by decide +kernel
theorem dX12_keepBy_2 : decode cX12_keepBy 2 = .ok (.iload_n 1, 1) := by decide +kernel
theorem dX12_keepBy_3 : decode cX12_keepBy 3 = .ok (.invokevirtual 261, 3) := by decide +kernel
theorem dX12_keepBy_6 : decode cX12_keepBy 6 = .ok (.iconst 1, 1) := by decide +kernel
theorem dX12_keepBy_7 : decode cX12_keepBy 7 = .ok (.invokevirtual 59, 3) := by decide +kernel
theorem dX12_keepBy_10 : decode cX12_keepBy 10 = .ok (.ifCond .ne 27, 3) := by decide +kernel
theorem dX12_keepBy_13 : decode cX12_keepBy 13 = .ok (.aload_n 0, 1) := by decide +kernel
theorem dX12_keepBy_14 : decode cX12_keepBy 14 = .ok (.iload_n 2, 1) := by decide +kernel
theorem dX12_keepBy_15 : decode cX12_keepBy 15 = .ok (.iconst 1, 1) := by decide +kernel
theorem dX12_keepBy_16 : decode cX12_keepBy 16 = .ok (.sipush 200, 3) := by decide +kernel
theorem dX12_keepBy_19 : decode cX12_keepBy 19 = .ok (.invokestatic 3, 3) := by decide +kernel
theorem dX12_keepBy_22 : decode cX12_keepBy 22 = .ok (.ifCond .ne 7, 3) := by decide +kernel
theorem dX12_keepBy_25 : decode cX12_keepBy 25 = .ok (.iconst 1, 1) := by decide +kernel
theorem dX12_keepBy_26 : decode cX12_keepBy 26 = .ok (.goto 4, 3) := by decide +kernel
theorem dX12_keepBy_29 : decode cX12_keepBy 29 = .ok (.iconst 0, 1) := by decide +kernel
theorem dX12_keepBy_30 : decode cX12_keepBy 30 = .ok (.iconst 2, 1) := by decide +kernel
theorem dX12_keepBy_31 : decode cX12_keepBy 31 = .ok (.invokevirtual 43, 3) := by decide +kernel
theorem dX12_keepBy_34 : decode cX12_keepBy 34 = .ok (.ifCond .eq 7, 3) := by decide +kernel
theorem dX12_keepBy_37 : decode cX12_keepBy 37 = .ok (.iconst 0, 1) := by decide +kernel
theorem dX12_keepBy_38 : decode cX12_keepBy 38 = .ok (.goto 9, 3) := by decide +kernel
theorem dX12_keepBy_41 : decode cX12_keepBy 41 = .ok (.aload_n 0, 1) := by decide +kernel
theorem dX12_keepBy_42 : decode cX12_keepBy 42 = .ok (.iload_n 1, 1) := by decide +kernel
theorem dX12_keepBy_43 : decode cX12_keepBy 43 = .ok (.iload_n 2, 1) := by decide +kernel
theorem dX12_keepBy_44 : decode cX12_keepBy 44 = .ok (.invokevirtual 307, 3) := by decide +kernel
theorem dX12_keepBy_47 : decode cX12_keepBy 47 = .ok (.ireturn, 1) := by decide +kernel
theorem dX12_add_0 : decode cX12_add 0 = .ok (.lload_n 0, 1) := by decide +kernel
theorem dX12_add_1 : decode cX12_add 1 = .ok (.ldc2_w 310, 3) := by decide +kernel
theorem dX12_add_4 : decode cX12_add 4 = .ok (.lmul, 1) := by decide +kernel
theorem dX12_add_5 : decode cX12_add 5 = .ok (.lload_n 2, 1) := by decide +kernel
theorem dX12_add_6 : decode cX12_add 6 = .ok (.ladd, 1) := by decide +kernel
theorem dX12_add_7 : decode cX12_add 7 = .ok (.lreturn, 1) := by decide +kernel
theorem dX12_digestContact_0 : decode cX12_digestContact 0 = .ok (.aload_n 0, 1) := by decide +kernel
theorem dX12_digestContact_1 : decode cX12_digestContact 1 = .ok (.getfield 29, 3) := by decide +kernel
theorem dX12_digestContact_4 : decode cX12_digestContact 4 = .ok (.iload_n 3, 1) := by decide +kernel
theorem dX12_digestContact_5 : decode cX12_digestContact 5 = .ok (.aaload, 1) := by decide +kernel
theorem dX12_digestContact_6 : decode cX12_digestContact 6 = .ok (.astore 5, 2) := by decide +kernel
theorem dX12_digestContact_8 : decode cX12_digestContact 8 = .ok (.lload_n 1, 1) := by decide +kernel
theorem dX12_digestContact_9 : decode cX12_digestContact 9 = .ok (.iload_n 3, 1) := by decide +kernel
theorem dX12_digestContact_10 : decode cX12_digestContact 10 = .ok (.i2l, 1) := by decide +kernel
theorem dX12_digestContact_11 : decode cX12_digestContact 11 = .ok (.invokestatic 312, 3) := by decide +kernel
theorem dX12_digestContact_14 : decode cX12_digestContact 14 = .ok (.lstore 6, 2) := by decide +kernel
theorem dX12_digestContact_16 : decode cX12_digestContact 16 = .ok (.iconst 0, 1) := by decide +kernel
theorem dX12_digestContact_17 : decode cX12_digestContact 17 = .ok (.istore 8, 2) := by decide +kernel
theorem dX12_digestContact_19 : decode cX12_digestContact 19 = .ok (.iload 8, 2) := by decide +kernel
theorem dX12_digestContact_21 : decode cX12_digestContact 21 = .ok (.bipush 6, 2) := by decide +kernel
theorem dX12_digestContact_23 : decode cX12_digestContact 23 = .ok (.if_icmp .ge 24, 3) := by decide +kernel
theorem dX12_digestContact_26 : decode cX12_digestContact 26 = .ok (.lload 6, 2) := by decide +kernel
theorem dX12_digestContact_28 : decode cX12_digestContact 28 = .ok (.aload 5, 2) := by decide +kernel
theorem dX12_digestContact_30 : decode cX12_digestContact 30 = .ok (.iload 8, 2) := by decide +kernel
theorem dX12_digestContact_32 : decode cX12_digestContact 32 = .ok (.invokestatic 264, 3) := by decide +kernel
theorem dX12_digestContact_35 : decode cX12_digestContact 35 = .ok (.i2l, 1) := by decide +kernel
theorem dX12_digestContact_36 : decode cX12_digestContact 36 = .ok (.invokestatic 312, 3) := by decide +kernel
theorem dX12_digestContact_39 : decode cX12_digestContact 39 = .ok (.lstore 6, 2) := by decide +kernel
theorem dX12_digestContact_41 : decode cX12_digestContact 41 = .ok (.iinc 8 1, 3) := by decide +kernel
theorem dX12_digestContact_44 : decode cX12_digestContact 44 = .ok (.goto (-25), 3) := by decide +kernel
theorem dX12_digestContact_47 : decode cX12_digestContact 47 = .ok (.lload 6, 2) := by decide +kernel
theorem dX12_digestContact_49 : decode cX12_digestContact 49 = .ok (.iload 4, 2) := by decide +kernel
theorem dX12_digestContact_51 : decode cX12_digestContact 51 = .ok (.i2l, 1) := by decide +kernel
theorem dX12_digestContact_52 : decode cX12_digestContact 52 = .ok (.invokestatic 312, 3) := by decide +kernel
theorem dX12_digestContact_55 : decode cX12_digestContact 55 = .ok (.lstore 6, 2) := by decide +kernel
theorem dX12_digestContact_57 : decode cX12_digestContact 57 = .ok (.iconst 0, 1) := by decide +kernel
theorem dX12_digestContact_58 : decode cX12_digestContact 58 = .ok (.istore 8, 2) := by decide +kernel
theorem dX12_digestContact_60 : decode cX12_digestContact 60 = .ok (.iload 8, 2) := by decide +kernel
theorem dX12_digestContact_62 : decode cX12_digestContact 62 = .ok (.iconst 5, 1) := by decide +kernel
theorem dX12_digestContact_63 : decode cX12_digestContact 63 = .ok (.if_icmp .ge 28, 3) := by decide +kernel
theorem dX12_digestContact_66 : decode cX12_digestContact 66 = .ok (.lload 6, 2) := by decide +kernel
theorem dX12_digestContact_68 : decode cX12_digestContact 68 = .ok (.ldc2_w 315, 3) := by decide +kernel
theorem dX12_digestContact_71 : decode cX12_digestContact 71 = .ok (.aload 5, 2) := by decide +kernel
theorem dX12_digestContact_73 : decode cX12_digestContact 73 = .ok (.iload 8, 2) := by decide +kernel
theorem dX12_digestContact_75 : decode cX12_digestContact 75 = .ok (.invokestatic 274, 3) := by decide +kernel
theorem dX12_digestContact_78 : decode cX12_digestContact 78 = .ok (.dmul, 1) := by decide +kernel
theorem dX12_digestContact_79 : decode cX12_digestContact 79 = .ok (.d2l, 1) := by decide +kernel
theorem dX12_digestContact_80 : decode cX12_digestContact 80 = .ok (.invokestatic 312, 3) := by decide +kernel
theorem dX12_digestContact_83 : decode cX12_digestContact 83 = .ok (.lstore 6, 2) := by decide +kernel
theorem dX12_digestContact_85 : decode cX12_digestContact 85 = .ok (.iinc 8 1, 3) := by decide +kernel
theorem dX12_digestContact_88 : decode cX12_digestContact 88 = .ok (.goto (-28), 3) := by decide +kernel
theorem dX12_digestContact_91 : decode cX12_digestContact 91 = .ok (.lload 6, 2) := by decide +kernel
theorem dX12_digestContact_93 : decode cX12_digestContact 93 = .ok (.ldc2_w 315, 3) := by decide +kernel
theorem dX12_digestContact_96 : decode cX12_digestContact 96 = .ok (.aload 5, 2) := by decide +kernel
theorem dX12_digestContact_98 : decode cX12_digestContact 98 = .ok (.iconst 2, 1) := by decide +kernel
theorem dX12_digestContact_99 : decode cX12_digestContact 99 = .ok (.iconst 0, 1) := by decide +kernel
theorem dX12_digestContact_100 : decode cX12_digestContact 100 = .ok (.invokestatic 297, 3) := by decide +kernel
theorem dX12_digestContact_103 : decode cX12_digestContact 103 = .ok (.dmul, 1) := by decide +kernel
theorem dX12_digestContact_104 : decode cX12_digestContact 104 = .ok (.d2l, 1) := by decide +kernel
theorem dX12_digestContact_105 : decode cX12_digestContact 105 = .ok (.invokestatic 312, 3) := by decide +kernel
theorem dX12_digestContact_108 : decode cX12_digestContact 108 = .ok (.ldc2_w 315, 3) := by decide +kernel
theorem dX12_digestContact_111 : decode cX12_digestContact 111 = .ok (.aload 5, 2) := by decide +kernel
theorem dX12_digestContact_113 : decode cX12_digestContact 113 = .ok (.iconst 2, 1) := by decide +kernel
theorem dX12_digestContact_114 : decode cX12_digestContact 114 = .ok (.iconst 1, 1) := by decide +kernel
theorem dX12_digestContact_115 : decode cX12_digestContact 115 = .ok (.invokestatic 297, 3) := by decide +kernel
theorem dX12_digestContact_118 : decode cX12_digestContact 118 = .ok (.dmul, 1) := by decide +kernel
theorem dX12_digestContact_119 : decode cX12_digestContact 119 = .ok (.d2l, 1) := by decide +kernel
theorem dX12_digestContact_120 : decode cX12_digestContact 120 = .ok (.invokestatic 312, 3) := by decide +kernel
theorem dX12_digestContact_123 : decode cX12_digestContact 123 = .ok (.lreturn, 1) := by decide +kernel
theorem dX12_digest_0 : decode cX12_digest 0 = .ok (.aload_n 0, 1) := by decide +kernel
theorem dX12_digest_1 : decode cX12_digest 1 = .ok (.iconst 0, 1) := by decide +kernel
theorem dX12_digest_2 : decode cX12_digest 2 = .ok (.putfield 40, 3) := by decide +kernel
theorem dX12_digest_5 : decode cX12_digest 5 = .ok (.aload_n 0, 1) := by decide +kernel
theorem dX12_digest_6 : decode cX12_digest 6 = .ok (.invokevirtual 92, 3) := by decide +kernel
theorem dX12_digest_9 : decode cX12_digest 9 = .ok (.astore_n 1, 1) := by decide +kernel
theorem dX12_digest_10 : decode cX12_digest 10 = .ok (.ldc2_w 317, 3) := by decide +kernel
theorem dX12_digest_13 : decode cX12_digest 13 = .ok (.lstore_n 2, 1) := by decide +kernel
theorem dX12_digest_14 : decode cX12_digest 14 = .ok (.iconst 0, 1) := by decide +kernel
theorem dX12_digest_15 : decode cX12_digest 15 = .ok (.istore 4, 2) := by decide +kernel
theorem dX12_digest_17 : decode cX12_digest 17 = .ok (.iload 4, 2) := by decide +kernel
theorem dX12_digest_19 : decode cX12_digest 19 = .ok (.bipush 10, 2) := by decide +kernel
theorem dX12_digest_21 : decode cX12_digest 21 = .ok (.if_icmp .ge 22, 3) := by decide +kernel
theorem dX12_digest_24 : decode cX12_digest 24 = .ok (.lload_n 2, 1) := by decide +kernel
theorem dX12_digest_25 : decode cX12_digest 25 = .ok (.aload_n 0, 1) := by decide +kernel
theorem dX12_digest_26 : decode cX12_digest 26 = .ok (.iload 4, 2) := by decide +kernel
theorem dX12_digest_28 : decode cX12_digest 28 = .ok (.aload_n 1, 1) := by decide +kernel
theorem dX12_digest_29 : decode cX12_digest 29 = .ok (.invokevirtual 284, 3) := by decide +kernel
theorem dX12_digest_32 : decode cX12_digest 32 = .ok (.i2l, 1) := by decide +kernel
theorem dX12_digest_33 : decode cX12_digest 33 = .ok (.invokestatic 312, 3) := by decide +kernel
theorem dX12_digest_36 : decode cX12_digest 36 = .ok (.lstore_n 2, 1) := by decide +kernel
theorem dX12_digest_37 : decode cX12_digest 37 = .ok (.iinc 4 1, 3) := by decide +kernel
theorem dX12_digest_40 : decode cX12_digest 40 = .ok (.goto (-23), 3) := by decide +kernel
theorem dX12_digest_43 : decode cX12_digest 43 = .ok (.iconst 0, 1) := by decide +kernel
theorem dX12_digest_44 : decode cX12_digest 44 = .ok (.istore 4, 2) := by decide +kernel
theorem dX12_digest_46 : decode cX12_digest 46 = .ok (.iload 4, 2) := by decide +kernel
theorem dX12_digest_48 : decode cX12_digest 48 = .ok (.bipush 48, 2) := by decide +kernel
theorem dX12_digest_50 : decode cX12_digest 50 = .ok (.if_icmp .ge 33, 3) := by decide +kernel
theorem dX12_digest_53 : decode cX12_digest 53 = .ok (.lload_n 2, 1) := by decide +kernel
theorem dX12_digest_54 : decode cX12_digest 54 = .ok (.aload_n 0, 1) := by decide +kernel
theorem dX12_digest_55 : decode cX12_digest 55 = .ok (.getfield 13, 3) := by decide +kernel
theorem dX12_digest_58 : decode cX12_digest 58 = .ok (.iload 4, 2) := by decide +kernel
theorem dX12_digest_60 : decode cX12_digest 60 = .ok (.iaload, 1) := by decide +kernel
theorem dX12_digest_61 : decode cX12_digest 61 = .ok (.i2l, 1) := by decide +kernel
theorem dX12_digest_62 : decode cX12_digest 62 = .ok (.invokestatic 312, 3) := by decide +kernel
theorem dX12_digest_65 : decode cX12_digest 65 = .ok (.aload_n 1, 1) := by decide +kernel
theorem dX12_digest_66 : decode cX12_digest 66 = .ok (.getfield 239, 3) := by decide +kernel
theorem dX12_digest_69 : decode cX12_digest 69 = .ok (.iload 4, 2) := by decide +kernel
theorem dX12_digest_71 : decode cX12_digest 71 = .ok (.iaload, 1) := by decide +kernel
theorem dX12_digest_72 : decode cX12_digest 72 = .ok (.i2l, 1) := by decide +kernel
theorem dX12_digest_73 : decode cX12_digest 73 = .ok (.invokestatic 312, 3) := by decide +kernel
theorem dX12_digest_76 : decode cX12_digest 76 = .ok (.lstore_n 2, 1) := by decide +kernel
theorem dX12_digest_77 : decode cX12_digest 77 = .ok (.iinc 4 1, 3) := by decide +kernel
theorem dX12_digest_80 : decode cX12_digest 80 = .ok (.goto (-34), 3) := by decide +kernel
theorem dX12_digest_83 : decode cX12_digest 83 = .ok (.iconst 0, 1) := by decide +kernel
theorem dX12_digest_84 : decode cX12_digest 84 = .ok (.istore 4, 2) := by decide +kernel
theorem dX12_digest_86 : decode cX12_digest 86 = .ok (.iload 4, 2) := by decide +kernel
theorem dX12_digest_88 : decode cX12_digest 88 = .ok (.aload_n 1, 1) := by decide +kernel
theorem dX12_digest_89 : decode cX12_digest 89 = .ok (.getfield 212, 3) := by decide +kernel
theorem dX12_digest_92 : decode cX12_digest 92 = .ok (.if_icmp .ge 38, 3) := by decide +kernel
theorem dX12_digest_95 : decode cX12_digest 95 = .ok (.iconst 0, 1) := by decide +kernel
theorem dX12_digest_96 : decode cX12_digest 96 = .ok (.istore 5, 2) := by decide +kernel
theorem dX12_digest_98 : decode cX12_digest 98 = .ok (.iload 5, 2) := by decide +kernel
theorem dX12_digest_100 : decode cX12_digest 100 = .ok (.iconst 5, 1) := by decide +kernel
theorem dX12_digest_101 : decode cX12_digest 101 = .ok (.if_icmp .ge 23, 3) := by decide +kernel
theorem dX12_digest_104 : decode cX12_digest 104 = .ok (.lload_n 2, 1) := by decide +kernel
theorem dX12_digest_105 : decode cX12_digest 105 = .ok (.iload 4, 2) := by decide +kernel
theorem dX12_digest_107 : decode cX12_digest 107 = .ok (.iload 5, 2) := by decide +kernel
theorem dX12_digest_109 : decode cX12_digest 109 = .ok (.aload_n 1, 1) := by decide +kernel
theorem dX12_digest_110 : decode cX12_digest 110 = .ok (.invokestatic 252, 3) := by decide +kernel
theorem dX12_digest_113 : decode cX12_digest 113 = .ok (.i2l, 1) := by decide +kernel
theorem dX12_digest_114 : decode cX12_digest 114 = .ok (.invokestatic 312, 3) := by decide +kernel
theorem dX12_digest_117 : decode cX12_digest 117 = .ok (.lstore_n 2, 1) := by decide +kernel
theorem dX12_digest_118 : decode cX12_digest 118 = .ok (.iinc 5 1, 3) := by decide +kernel
theorem dX12_digest_121 : decode cX12_digest 121 = .ok (.goto (-23), 3) := by decide +kernel
theorem dX12_digest_124 : decode cX12_digest 124 = .ok (.iinc 4 1, 3) := by decide +kernel
theorem dX12_digest_127 : decode cX12_digest 127 = .ok (.goto (-41), 3) := by decide +kernel
theorem dX12_digest_130 : decode cX12_digest 130 = .ok (.iconst 0, 1) := by decide +kernel
theorem dX12_digest_131 : decode cX12_digest 131 = .ok (.istore 4, 2) := by decide +kernel
theorem dX12_digest_133 : decode cX12_digest 133 = .ok (.iload 4, 2) := by decide +kernel
theorem dX12_digest_135 : decode cX12_digest 135 = .ok (.iconst 5, 1) := by decide +kernel
theorem dX12_digest_136 : decode cX12_digest 136 = .ok (.if_icmp .ge 34, 3) := by decide +kernel
theorem dX12_digest_139 : decode cX12_digest 139 = .ok (.aload_n 0, 1) := by decide +kernel
theorem dX12_digest_140 : decode cX12_digest 140 = .ok (.getfield 29, 3) := by decide +kernel
theorem dX12_digest_143 : decode cX12_digest 143 = .ok (.iload 4, 2) := by decide +kernel
theorem dX12_digest_145 : decode cX12_digest 145 = .ok (.aaload, 1) := by decide +kernel
theorem dX12_digest_146 : decode cX12_digest 146 = .ok (.ifnull 18, 3) := by decide +kernel
theorem dX12_digest_149 : decode cX12_digest 149 = .ok (.aload_n 0, 1) := by decide +kernel
theorem dX12_digest_150 : decode cX12_digest 150 = .ok (.lload_n 2, 1) := by decide +kernel
theorem dX12_digest_151 : decode cX12_digest 151 = .ok (.iload 4, 2) := by decide +kernel
theorem dX12_digest_153 : decode cX12_digest 153 = .ok (.aload_n 0, 1) := by decide +kernel
theorem dX12_digest_154 : decode cX12_digest 154 = .ok (.iload 4, 2) := by decide +kernel
theorem dX12_digest_156 : decode cX12_digest 156 = .ok (.aload_n 1, 1) := by decide +kernel
theorem dX12_digest_157 : decode cX12_digest 157 = .ok (.invokevirtual 301, 3) := by decide +kernel
theorem dX12_digest_160 : decode cX12_digest 160 = .ok (.invokevirtual 319, 3) := by decide +kernel
theorem dX12_digest_163 : decode cX12_digest 163 = .ok (.lstore_n 2, 1) := by decide +kernel
theorem dX12_digest_164 : decode cX12_digest 164 = .ok (.iinc 4 1, 3) := by decide +kernel
theorem dX12_digest_167 : decode cX12_digest 167 = .ok (.goto (-34), 3) := by decide +kernel
theorem dX12_digest_170 : decode cX12_digest 170 = .ok (.iconst 0, 1) := by decide +kernel
theorem dX12_digest_171 : decode cX12_digest 171 = .ok (.istore 4, 2) := by decide +kernel
theorem dX12_digest_173 : decode cX12_digest 173 = .ok (.iload 4, 2) := by decide +kernel
theorem dX12_digest_175 : decode cX12_digest 175 = .ok (.aload_n 0, 1) := by decide +kernel
theorem dX12_digest_176 : decode cX12_digest 176 = .ok (.getfield 36, 3) := by decide +kernel
theorem dX12_digest_179 : decode cX12_digest 179 = .ok (.invokevirtual 62, 3) := by decide +kernel
theorem dX12_digest_182 : decode cX12_digest 182 = .ok (.if_icmp .ge 38, 3) := by decide +kernel
theorem dX12_digest_185 : decode cX12_digest 185 = .ok (.iconst 0, 1) := by decide +kernel
theorem dX12_digest_186 : decode cX12_digest 186 = .ok (.istore 5, 2) := by decide +kernel
theorem dX12_digest_188 : decode cX12_digest 188 = .ok (.iload 5, 2) := by decide +kernel
theorem dX12_digest_190 : decode cX12_digest 190 = .ok (.iconst 5, 1) := by decide +kernel
theorem dX12_digest_191 : decode cX12_digest 191 = .ok (.if_icmp .ge 23, 3) := by decide +kernel
theorem dX12_digest_194 : decode cX12_digest 194 = .ok (.lload_n 2, 1) := by decide +kernel
theorem dX12_digest_195 : decode cX12_digest 195 = .ok (.aload_n 0, 1) := by decide +kernel
theorem dX12_digest_196 : decode cX12_digest 196 = .ok (.iload 4, 2) := by decide +kernel
theorem dX12_digest_198 : decode cX12_digest 198 = .ok (.iload 5, 2) := by decide +kernel
theorem dX12_digest_200 : decode cX12_digest 200 = .ok (.invokevirtual 281, 3) := by decide +kernel
theorem dX12_digest_203 : decode cX12_digest 203 = .ok (.i2l, 1) := by decide +kernel
theorem dX12_digest_204 : decode cX12_digest 204 = .ok (.invokestatic 312, 3) := by decide +kernel
theorem dX12_digest_207 : decode cX12_digest 207 = .ok (.lstore_n 2, 1) := by decide +kernel
theorem dX12_digest_208 : decode cX12_digest 208 = .ok (.iinc 5 1, 3) := by decide +kernel
theorem dX12_digest_211 : decode cX12_digest 211 = .ok (.goto (-23), 3) := by decide +kernel
theorem dX12_digest_214 : decode cX12_digest 214 = .ok (.iinc 4 1, 3) := by decide +kernel
theorem dX12_digest_217 : decode cX12_digest 217 = .ok (.goto (-44), 3) := by decide +kernel
theorem dX12_digest_220 : decode cX12_digest 220 = .ok (.iconst 0, 1) := by decide +kernel
theorem dX12_digest_221 : decode cX12_digest 221 = .ok (.istore 4, 2) := by decide +kernel
theorem dX12_digest_223 : decode cX12_digest 223 = .ok (.iload 4, 2) := by decide +kernel
theorem dX12_digest_225 : decode cX12_digest 225 = .ok (.bipush 6, 2) := by decide +kernel
theorem dX12_digest_227 : decode cX12_digest 227 = .ok (.if_icmp .ge 38, 3) := by decide +kernel
theorem dX12_digest_230 : decode cX12_digest 230 = .ok (.iconst 0, 1) := by decide +kernel
theorem dX12_digest_231 : decode cX12_digest 231 = .ok (.istore 5, 2) := by decide +kernel
theorem dX12_digest_233 : decode cX12_digest 233 = .ok (.iload 5, 2) := by decide +kernel
theorem dX12_digest_235 : decode cX12_digest 235 = .ok (.iconst 3, 1) := by decide +kernel
theorem dX12_digest_236 : decode cX12_digest 236 = .ok (.if_icmp .ge 23, 3) := by decide +kernel
theorem dX12_digest_239 : decode cX12_digest 239 = .ok (.lload_n 2, 1) := by decide +kernel
theorem dX12_digest_240 : decode cX12_digest 240 = .ok (.iload 4, 2) := by decide +kernel
theorem dX12_digest_242 : decode cX12_digest 242 = .ok (.iload 5, 2) := by decide +kernel
theorem dX12_digest_244 : decode cX12_digest 244 = .ok (.aload_n 1, 1) := by decide +kernel
theorem dX12_digest_245 : decode cX12_digest 245 = .ok (.invokestatic 278, 3) := by decide +kernel
theorem dX12_digest_248 : decode cX12_digest 248 = .ok (.i2l, 1) := by decide +kernel
theorem dX12_digest_249 : decode cX12_digest 249 = .ok (.invokestatic 312, 3) := by decide +kernel
theorem dX12_digest_252 : decode cX12_digest 252 = .ok (.lstore_n 2, 1) := by decide +kernel
theorem dX12_digest_253 : decode cX12_digest 253 = .ok (.iinc 5 1, 3) := by decide +kernel
theorem dX12_digest_256 : decode cX12_digest 256 = .ok (.goto (-23), 3) := by decide +kernel
theorem dX12_digest_259 : decode cX12_digest 259 = .ok (.iinc 4 1, 3) := by decide +kernel
theorem dX12_digest_262 : decode cX12_digest 262 = .ok (.goto (-39), 3) := by decide +kernel
theorem dX12_digest_265 : decode cX12_digest 265 = .ok (.lload_n 2, 1) := by decide +kernel
theorem dX12_digest_266 : decode cX12_digest 266 = .ok (.aload_n 0, 1) := by decide +kernel
theorem dX12_digest_267 : decode cX12_digest 267 = .ok (.invokevirtual 304, 3) := by decide +kernel
theorem dX12_digest_270 : decode cX12_digest 270 = .ok (.i2l, 1) := by decide +kernel
theorem dX12_digest_271 : decode cX12_digest 271 = .ok (.invokestatic 312, 3) := by decide +kernel
theorem dX12_digest_274 : decode cX12_digest 274 = .ok (.lreturn, 1) := by decide +kernel
