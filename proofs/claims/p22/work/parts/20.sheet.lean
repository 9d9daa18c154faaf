/-! ===== Sheet ===== -/
theorem dX6_init_0 : decode cX6_init 0 = .ok (.aload_n 0, 1) := by decide +kernel
theorem dX6_init_1 : decode cX6_init 1 = .ok (.invokespecial 3, 3) := by decide +kernel
theorem dX6_init_4 : decode cX6_init 4 = .ok (.aload_n 0, 1) := by decide +kernel
theorem dX6_init_5 : decode cX6_init 5 = .ok (.bipush 48, 2) := by decide +kernel
theorem dX6_init_7 : decode cX6_init 7 = .ok (.newarray .int, 2) := by decide +kernel
theorem dX6_init_9 : decode cX6_init 9 = .ok (.putfield 9, 3) := by decide +kernel
theorem dX6_init_12 : decode cX6_init 12 = .ok (.aload_n 0, 1) := by decide +kernel
theorem dX6_init_13 : decode cX6_init 13 = .ok (.bipush 48, 2) := by decide +kernel
theorem dX6_init_15 : decode cX6_init 15 = .ok (.newarray .int, 2) := by decide +kernel
theorem dX6_init_17 : decode cX6_init 17 = .ok (.putfield 15, 3) := by decide +kernel
theorem dX6_init_20 : decode cX6_init 20 = .ok (.return_, 1) := by decide +kernel
theorem dX6_chargeOf_0 : decode cX6_chargeOf 0 = .ok (.aload_n 0, 1) := by decide +kernel
theorem dX6_chargeOf_1 : decode cX6_chargeOf 1 = .ok (.getfield 18, 3) := by decide +kernel
theorem dX6_chargeOf_4 : decode cX6_chargeOf 4 = .ok (.aload_n 0, 1) := by decide +kernel
theorem dX6_chargeOf_5 : decode cX6_chargeOf 5 = .ok (.getfield 9, 3) := by decide +kernel
theorem dX6_chargeOf_8 : decode cX6_chargeOf 8 = .ok (.iload_n 1, 1) := by decide +kernel
theorem dX6_chargeOf_9 : decode cX6_chargeOf 9 = .ok (.iaload, 1) := by decide +kernel
theorem dX6_chargeOf_10 : decode cX6_chargeOf 10 = .ok (.iadd, 1) := by decide +kernel
theorem dX6_chargeOf_11 : decode cX6_chargeOf 11 = .ok (.ireturn, 1) := by decide +kernel
theorem dX6_signalOf_0 : decode cX6_signalOf 0 = .ok (.aload_n 0, 1) := by decide +kernel
theorem dX6_signalOf_1 : decode cX6_signalOf 1 = .ok (.iload_n 1, 1) := by decide +kernel
theorem dX6_signalOf_2 : decode cX6_signalOf 2 = .ok (.invokevirtual 22, 3) := by decide +kernel
theorem dX6_signalOf_5 : decode cX6_signalOf 5 = .ok (.aload_n 0, 1) := by decide +kernel
theorem dX6_signalOf_6 : decode cX6_signalOf 6 = .ok (.getfield 15, 3) := by decide +kernel
theorem dX6_signalOf_9 : decode cX6_signalOf 9 = .ok (.iload_n 1, 1) := by decide +kernel
theorem dX6_signalOf_10 : decode cX6_signalOf 10 = .ok (.iaload, 1) := by decide +kernel
theorem dX6_signalOf_11 : decode cX6_signalOf 11 = .ok (.isub, 1) := by decide +kernel
theorem dX6_signalOf_12 : decode cX6_signalOf 12 = .ok (.ireturn, 1) := by decide +kernel
theorem dX6_addPress_0 : decode cX6_addPress 0 = .ok (.iload_n 2, 1) := by decide +kernel
theorem dX6_addPress_1 : decode cX6_addPress 1 = .ok (.iconst 1, 1) := by decide +kernel
theorem dX6_addPress_2 : decode cX6_addPress 2 = .ok (.isub, 1) := by decide +kernel
theorem dX6_addPress_3 : decode cX6_addPress 3 = .ok (.iconst 0, 1) := by decide +kernel
theorem dX6_addPress_4 : decode cX6_addPress 4 = .ok (.invokestatic 26, 3) := by decide +kernel
theorem dX6_addPress_7 : decode cX6_addPress 7 = .ok (.istore 4, 2) := by decide +kernel
theorem dX6_addPress_9 : decode cX6_addPress 9 = .ok (.iload 4, 2) := by decide +kernel
theorem dX6_addPress_11 : decode cX6_addPress 11 = .ok (.iload_n 2, 1) := by decide +kernel
theorem dX6_addPress_12 : decode cX6_addPress 12 = .ok (.iconst 1, 1) := by decide +kernel
theorem dX6_addPress_13 : decode cX6_addPress 13 = .ok (.iadd, 1) := by decide +kernel
theorem dX6_addPress_14 : decode cX6_addPress 14 = .ok (.iconst 5, 1) := by decide +kernel
theorem dX6_addPress_15 : decode cX6_addPress 15 = .ok (.invokestatic 32, 3) := by decide +kernel
theorem dX6_addPress_18 : decode cX6_addPress 18 = .ok (.if_icmp .gt 82, 3) := by decide +kernel
theorem dX6_addPress_21 : decode cX6_addPress 21 = .ok (.iload_n 1, 1) := by decide +kernel
theorem dX6_addPress_22 : decode cX6_addPress 22 = .ok (.iconst 1, 1) := by decide +kernel
theorem dX6_addPress_23 : decode cX6_addPress 23 = .ok (.isub, 1) := by decide +kernel
theorem dX6_addPress_24 : decode cX6_addPress 24 = .ok (.iconst 0, 1) := by decide +kernel
theorem dX6_addPress_25 : decode cX6_addPress 25 = .ok (.invokestatic 26, 3) := by decide +kernel
theorem dX6_addPress_28 : decode cX6_addPress 28 = .ok (.istore 5, 2) := by decide +kernel
theorem dX6_addPress_30 : decode cX6_addPress 30 = .ok (.iload 5, 2) := by decide +kernel
theorem dX6_addPress_32 : decode cX6_addPress 32 = .ok (.iload_n 1, 1) := by decide +kernel
theorem dX6_addPress_33 : decode cX6_addPress 33 = .ok (.iconst 1, 1) := by decide +kernel
theorem dX6_addPress_34 : decode cX6_addPress 34 = .ok (.iadd, 1) := by decide +kernel
theorem dX6_addPress_35 : decode cX6_addPress 35 = .ok (.bipush 7, 2) := by decide +kernel
theorem dX6_addPress_37 : decode cX6_addPress 37 = .ok (.invokestatic 32, 3) := by decide +kernel
theorem dX6_addPress_40 : decode cX6_addPress 40 = .ok (.if_icmp .gt 54, 3) := by decide +kernel
theorem dX6_addPress_43 : decode cX6_addPress 43 = .ok (.iload 4, 2) := by decide +kernel
theorem dX6_addPress_45 : decode cX6_addPress 45 = .ok (.iload_n 2, 1) := by decide +kernel
theorem dX6_addPress_46 : decode cX6_addPress 46 = .ok (.if_icmp .ne 7, 3) := by decide +kernel
theorem dX6_addPress_49 : decode cX6_addPress 49 = .ok (.iconst 0, 1) := by decide +kernel
theorem dX6_addPress_50 : decode cX6_addPress 50 = .ok (.goto 4, 3) := by decide +kernel
theorem dX6_addPress_53 : decode cX6_addPress 53 = .ok (.iconst 1, 1) := by decide +kernel
theorem dX6_addPress_54 : decode cX6_addPress 54 = .ok (.iload 5, 2) := by decide +kernel
theorem dX6_addPress_56 : decode cX6_addPress 56 = .ok (.iload_n 1, 1) := by decide +kernel
theorem dX6_addPress_57 : decode cX6_addPress 57 = .ok (.if_icmp .ne 7, 3) := by decide +kernel
theorem dX6_addPress_60 : decode cX6_addPress 60 = .ok (.iconst 0, 1) := by decide +kernel
theorem dX6_addPress_61 : decode cX6_addPress 61 = .ok (.goto 4, 3) := by decide +kernel
theorem dX6_addPress_64 : decode cX6_addPress 64 = .ok (.iconst 1, 1) := by decide +kernel
theorem dX6_addPress_65 : decode cX6_addPress 65 = .ok (.iadd, 1) := by decide +kernel
theorem dX6_addPress_66 : decode cX6_addPress 66 = .ok (.istore 6, 2) := by decide +kernel
theorem dX6_addPress_68 : decode cX6_addPress 68 = .ok (.aload_n 0, 1) := by decide +kernel
theorem dX6_addPress_69 : decode cX6_addPress 69 = .ok (.getfield 9, 3) := by decide +kernel
theorem dX6_addPress_72 : decode cX6_addPress 72 = .ok (.iload 4, 2) := by decide +kernel
theorem dX6_addPress_74 : decode cX6_addPress 74 = .ok (.bipush 8, 2) := by decide +kernel
theorem dX6_addPress_76 : decode cX6_addPress 76 = .ok (.imul, 1) := by decide +kernel
theorem dX6_addPress_77 : decode cX6_addPress 77 = .ok (.iload 5, 2) := by decide +kernel
theorem dX6_addPress_79 : decode cX6_addPress 79 = .ok (.iadd, 1) := by decide +kernel
theorem dX6_addPress_80 : decode cX6_addPress 80 = .ok (.dup2, 1) := by decide +kernel
theorem dX6_addPress_81 : decode cX6_addPress 81 = .ok (.iaload, 1) := by decide +kernel
theorem dX6_addPress_82 : decode cX6_addPress 82 = .ok (.iload_n 3, 1) := by decide +kernel
theorem dX6_addPress_83 : decode cX6_addPress 83 = .ok (.iload 6, 2) := by decide +kernel
theorem dX6_addPress_85 : decode cX6_addPress 85 = .ok (.ishr, 1) := by decide +kernel
theorem dX6_addPress_86 : decode cX6_addPress 86 = .ok (.iadd, 1) := by decide +kernel
theorem dX6_addPress_87 : decode cX6_addPress 87 = .ok (.iastore, 1) := by decide +kernel
theorem dX6_addPress_88 : decode cX6_addPress 88 = .ok (.iinc 5 1, 3) := by decide +kernel
theorem dX6_addPress_91 : decode cX6_addPress 91 = .ok (.goto (-61), 3) := by decide +kernel
theorem dX6_addPress_94 : decode cX6_addPress 94 = .ok (.iinc 4 1, 3) := by decide +kernel
theorem dX6_addPress_97 : decode cX6_addPress 97 = .ok (.goto (-88), 3) := by decide +kernel
theorem dX6_addPress_100 : decode cX6_addPress 100 = .ok (.return_, 1) := by decide +kernel
theorem dX6_addNoise_0 : decode cX6_addNoise 0 = .ok (.iconst 0, 1) := by decide +kernel
theorem dX6_addNoise_1 : decode cX6_addNoise 1 = .ok (.istore_n 3, 1) := by decide +kernel
theorem dX6_addNoise_2 : decode cX6_addNoise 2 = .ok (.iload_n 3, 1) := by decide +kernel
theorem dX6_addNoise_3 : decode cX6_addNoise 3 = .ok (.bipush 8, 2) := by decide +kernel
theorem dX6_addNoise_5 : decode cX6_addNoise 5 = .ok (.if_icmp .ge 24, 3) := by decide +kernel
theorem dX6_addNoise_8 : decode cX6_addNoise 8 = .ok (.aload_n 0, 1) := by decide +kernel
theorem dX6_addNoise_9 : decode cX6_addNoise 9 = .ok (.getfield 9, 3) := by decide +kernel
theorem dX6_addNoise_12 : decode cX6_addNoise 12 = .ok (.iload_n 1, 1) := by decide +kernel
theorem dX6_addNoise_13 : decode cX6_addNoise 13 = .ok (.bipush 8, 2) := by decide +kernel
theorem dX6_addNoise_15 : decode cX6_addNoise 15 = .ok (.imul, 1) := by decide +kernel
theorem dX6_addNoise_16 : decode cX6_addNoise 16 = .ok (.iload_n 3, 1) := by decide +kernel
theorem dX6_addNoise_17 : decode cX6_addNoise 17 = .ok (.iadd, 1) := by decide +kernel
theorem dX6_addNoise_18 : decode cX6_addNoise 18 = .ok (.dup2, 1) := by decide +kernel
theorem dX6_addNoise_19 : decode cX6_addNoise 19 = .ok (.iaload, 1) := by decide +kernel
theorem dX6_addNoise_20 : decode cX6_addNoise 20 = .ok (.iload_n 2, 1) := by decide +kernel
theorem dX6_addNoise_21 : decode cX6_addNoise 21 = .ok (.iadd, 1) := by decide +kernel
theorem dX6_addNoise_22 : decode cX6_addNoise 22 = .ok (.iastore, 1) := by decide +kernel
theorem dX6_addNoise_23 : decode cX6_addNoise 23 = .ok (.iinc 3 1, 3) := by decide +kernel
theorem dX6_addNoise_26 : decode cX6_addNoise 26 = .ok (.goto (-24), 3) := by decide +kernel
theorem dX6_addNoise_29 : decode cX6_addNoise 29 = .ok (.return_, 1) := by decide +kernel
theorem dX6_settle_0 : decode cX6_settle 0 = .ok (.iconst 0, 1) := by decide +kernel
theorem dX6_settle_1 : decode cX6_settle 1 = .ok (.istore_n 2, 1) := by decide +kernel
theorem dX6_settle_2 : decode cX6_settle 2 = .ok (.iload_n 2, 1) := by decide +kernel
theorem dX6_settle_3 : decode cX6_settle 3 = .ok (.bipush 48, 2) := by decide +kernel
theorem dX6_settle_5 : decode cX6_settle 5 = .ok (.if_icmp .ge 46, 3) := by decide +kernel
theorem dX6_settle_8 : decode cX6_settle 8 = .ok (.aload_n 1, 1) := by decide +kernel
theorem dX6_settle_9 : decode cX6_settle 9 = .ok (.iload_n 2, 1) := by decide +kernel
theorem dX6_settle_10 : decode cX6_settle 10 = .ok (.invokevirtual 35, 3) := by decide +kernel
theorem dX6_settle_13 : decode cX6_settle 13 = .ok (.ifCond .eq 14, 3) := by decide +kernel
theorem dX6_settle_16 : decode cX6_settle 16 = .ok (.aload_n 1, 1) := by decide +kernel
theorem dX6_settle_17 : decode cX6_settle 17 = .ok (.getfield 41, 3) := by decide +kernel
theorem dX6_settle_20 : decode cX6_settle 20 = .ok (.iload_n 2, 1) := by decide +kernel
theorem dX6_settle_21 : decode cX6_settle 21 = .ok (.iaload, 1) := by decide +kernel
theorem dX6_settle_22 : decode cX6_settle 22 = .ok (.bipush 14, 2) := by decide +kernel
theorem dX6_settle_24 : decode cX6_settle 24 = .ok (.if_icmp .le 21, 3) := by decide +kernel
theorem dX6_settle_27 : decode cX6_settle 27 = .ok (.aload_n 0, 1) := by decide +kernel
theorem dX6_settle_28 : decode cX6_settle 28 = .ok (.getfield 15, 3) := by decide +kernel
theorem dX6_settle_31 : decode cX6_settle 31 = .ok (.iload_n 2, 1) := by decide +kernel
theorem dX6_settle_32 : decode cX6_settle 32 = .ok (.dup2, 1) := by decide +kernel
theorem dX6_settle_33 : decode cX6_settle 33 = .ok (.iaload, 1) := by decide +kernel
theorem dX6_settle_34 : decode cX6_settle 34 = .ok (.aload_n 1, 1) := by decide +kernel
theorem dX6_settle_35 : decode cX6_settle 35 = .ok (.getfield 44, 3) := by decide +kernel
theorem dX6_settle_38 : decode cX6_settle 38 = .ok (.iload_n 2, 1) := by decide +kernel
theorem dX6_settle_39 : decode cX6_settle 39 = .ok (.iaload, 1) := by decide +kernel
theorem dX6_settle_40 : decode cX6_settle 40 = .ok (.invokestatic 47, 3) := by decide +kernel
theorem dX6_settle_43 : decode cX6_settle 43 = .ok (.iadd, 1) := by decide +kernel
theorem dX6_settle_44 : decode cX6_settle 44 = .ok (.iastore, 1) := by decide +kernel
theorem dX6_settle_45 : decode cX6_settle 45 = .ok (.iinc 2 1, 3) := by decide +kernel
theorem dX6_settle_48 : decode cX6_settle 48 = .ok (.goto (-46), 3) := by decide +kernel
theorem dX6_settle_51 : decode cX6_settle 51 = .ok (.return_, 1) := by decide +kernel
theorem dX6_stepFor_0 : decode cX6_stepFor 0 = .ok (.iload_n 0, 1) := by decide +kernel
theorem dX6_stepFor_1 : decode cX6_stepFor 1 = .ok (.bipush (-10), 2) := by decide +kernel
theorem dX6_stepFor_3 : decode cX6_stepFor 3 = .ok (.if_icmp .gt 6, 3) := by decide +kernel
theorem dX6_stepFor_6 : decode cX6_stepFor 6 = .ok (.bipush (-4), 2) := by decide +kernel
theorem dX6_stepFor_8 : decode cX6_stepFor 8 = .ok (.ireturn, 1) := by decide +kernel
theorem dX6_stepFor_9 : decode cX6_stepFor 9 = .ok (.iload_n 0, 1) := by decide +kernel
theorem dX6_stepFor_10 : decode cX6_stepFor 10 = .ok (.bipush 10, 2) := by decide +kernel
theorem dX6_stepFor_12 : decode cX6_stepFor 12 = .ok (.if_icmp .lt 5, 3) := by decide +kernel
theorem dX6_stepFor_15 : decode cX6_stepFor 15 = .ok (.iconst 4, 1) := by decide +kernel
theorem dX6_stepFor_16 : decode cX6_stepFor 16 = .ok (.ireturn, 1) := by decide +kernel
theorem dX6_stepFor_17 : decode cX6_stepFor 17 = .ok (.iload_n 0, 1) := by decide +kernel
theorem dX6_stepFor_18 : decode cX6_stepFor 18 = .ok (.iconst 0, 1) := by decide +kernel
theorem dX6_stepFor_19 : decode cX6_stepFor 19 = .ok (.invokestatic 50, 3) := by decide +kernel
theorem dX6_stepFor_22 : decode cX6_stepFor 22 = .ok (.ireturn, 1) := by decide +kernel
theorem dX6_forgetWaits_0 : decode cX6_forgetWaits 0 = .ok (.iconst 0, 1) := by decide +kernel
theorem dX6_forgetWaits_1 : decode cX6_forgetWaits 1 = .ok (.istore_n 1, 1) := by decide +kernel
theorem dX6_forgetWaits_2 : decode cX6_forgetWaits 2 = .ok (.iload_n 1, 1) := by decide +kernel
theorem dX6_forgetWaits_3 : decode cX6_forgetWaits 3 = .ok (.bipush 48, 2) := by decide +kernel
theorem dX6_forgetWaits_5 : decode cX6_forgetWaits 5 = .ok (.if_icmp .ge 16, 3) := by decide +kernel
theorem dX6_forgetWaits_8 : decode cX6_forgetWaits 8 = .ok (.aload_n 0, 1) := by decide +kernel
theorem dX6_forgetWaits_9 : decode cX6_forgetWaits 9 = .ok (.getfield 9, 3) := by decide +kernel
theorem dX6_forgetWaits_12 : decode cX6_forgetWaits 12 = .ok (.iload_n 1, 1) := by decide +kernel
theorem dX6_forgetWaits_13 : decode cX6_forgetWaits 13 = .ok (.iconst 0, 1) := by decide +kernel
theorem dX6_forgetWaits_14 : decode cX6_forgetWaits 14 = .ok (.iastore, 1) := by decide +kernel
theorem dX6_forgetWaits_15 : decode cX6_forgetWaits 15 = .ok (.iinc 1 1, 3) := by decide +kernel
theorem dX6_forgetWaits_18 : decode cX6_forgetWaits 18 = .ok (.goto (-16), 3) := by decide +kernel
theorem dX6_forgetWaits_21 : decode cX6_forgetWaits 21 = .ok (.return_, 1) := by decide +kernel
theorem dX6_baseOnHeat_0 : decode cX6_baseOnHeat 0 = .ok (.iconst 0, 1) := by decide +kernel
theorem dX6_baseOnHeat_1 : decode cX6_baseOnHeat 1 = .ok (.istore_n 1, 1) := by decide +kernel
theorem dX6_baseOnHeat_2 : decode cX6_baseOnHeat 2 = .ok (.iload_n 1, 1) := by decide +kernel
theorem dX6_baseOnHeat_3 : decode cX6_baseOnHeat 3 = .ok (.bipush 48, 2) := by decide +kernel
theorem dX6_baseOnHeat_5 : decode cX6_baseOnHeat 5 = .ok (.if_icmp .ge 19, 3) := by decide +kernel
theorem dX6_baseOnHeat_8 : decode cX6_baseOnHeat 8 = .ok (.aload_n 0, 1) := by decide +kernel
theorem dX6_baseOnHeat_9 : decode cX6_baseOnHeat 9 = .ok (.getfield 15, 3) := by decide +kernel
theorem dX6_baseOnHeat_12 : decode cX6_baseOnHeat 12 = .ok (.iload_n 1, 1) := by decide +kernel
theorem dX6_baseOnHeat_13 : decode cX6_baseOnHeat 13 = .ok (.aload_n 0, 1) := by decide +kernel
theorem dX6_baseOnHeat_14 : decode cX6_baseOnHeat 14 = .ok (.getfield 18, 3) := by decide +kernel
theorem dX6_baseOnHeat_17 : decode cX6_baseOnHeat 17 = .ok (.iastore, 1) := by decide +kernel
theorem dX6_baseOnHeat_18 : decode cX6_baseOnHeat 18 = .ok (.iinc 1 1, 3) := by decide +kernel
theorem dX6_baseOnHeat_21 : decode cX6_baseOnHeat 21 = .ok (.goto (-19), 3) := by decide +kernel
theorem dX6_baseOnHeat_24 : decode cX6_baseOnHeat 24 = .ok (.return_, 1) := by decide +kernel
theorem dX6_copyFrom_0 : decode cX6_copyFrom 0 = .ok (.aload_n 0, 1) := by decide +kernel
theorem dX6_copyFrom_1 : decode cX6_copyFrom 1 = .ok (.aload_n 1, 1) := by decide +kernel
theorem dX6_copyFrom_2 : decode cX6_copyFrom 2 = .ok (.getfield 18, 3) := by decide +kernel
theorem dX6_copyFrom_5 : decode cX6_copyFrom 5 = .ok (.putfield 18, 3) := by decide +kernel
theorem dX6_copyFrom_8 : decode cX6_copyFrom 8 = .ok (.iconst 0, 1) := by decide +kernel
theorem dX6_copyFrom_9 : decode cX6_copyFrom 9 = .ok (.istore_n 2, 1) := by decide +kernel
theorem dX6_copyFrom_10 : decode cX6_copyFrom 10 = .ok (.iload_n 2, 1) := by decide +kernel
theorem dX6_copyFrom_11 : decode cX6_copyFrom 11 = .ok (.bipush 48, 2) := by decide +kernel
theorem dX6_copyFrom_13 : decode cX6_copyFrom 13 = .ok (.if_icmp .ge 33, 3) := by decide +kernel
theorem dX6_copyFrom_16 : decode cX6_copyFrom 16 = .ok (.aload_n 0, 1) := by decide +kernel
theorem dX6_copyFrom_17 : decode cX6_copyFrom 17 = .ok (.getfield 9, 3) := by decide +kernel
theorem dX6_copyFrom_20 : decode cX6_copyFrom 20 = .ok (.iload_n 2, 1) := by decide +kernel
theorem dX6_copyFrom_21 : decode cX6_copyFrom 21 = .ok (.aload_n 1, 1) := by decide +kernel
theorem dX6_copyFrom_22 : decode cX6_copyFrom 22 = .ok (.getfield 9, 3) := by decide +kernel
theorem dX6_copyFrom_25 : decode cX6_copyFrom 25 = .ok (.iload_n 2, 1) := by decide +kernel
theorem dX6_copyFrom_26 : decode cX6_copyFrom 26 = .ok (.iaload, 1) := by decide +kernel
theorem dX6_copyFrom_27 : decode cX6_copyFrom 27 = .ok (.iastore, 1) := by decide +kernel
theorem dX6_copyFrom_28 : decode cX6_copyFrom 28 = .ok (.aload_n 0, 1) := by decide +kernel
theorem dX6_copyFrom_29 : decode cX6_copyFrom 29 = .ok (.getfield 15, 3) := by decide +kernel
theorem dX6_copyFrom_32 : decode cX6_copyFrom 32 = .ok (.iload_n 2, 1) := by decide +kernel
theorem dX6_copyFrom_33 : decode cX6_copyFrom 33 = .ok (.aload_n 1, 1) := by decide +kernel
theorem dX6_copyFrom_34 : decode cX6_copyFrom 34 = .ok (.getfield 15, 3) := by decide +kernel
theorem dX6_copyFrom_37 : decode cX6_copyFrom 37 = .ok (.iload_n 2, 1) := by decide +kernel
theorem dX6_copyFrom_38 : decode cX6_copyFrom 38 = .ok (.iaload, 1) := by decide +kernel
theorem dX6_copyFrom_39 : decode cX6_copyFrom 39 = .ok (.iastore, 1) := by decide +kernel
theorem dX6_copyFrom_40 : decode cX6_copyFrom 40 = .ok (.iinc 2 1, 3) := by decide +kernel
theorem dX6_copyFrom_43 : decode cX6_copyFrom 43 = .ok (.goto (-33), 3) := by decide +kernel
theorem dX6_copyFrom_46 : decode cX6_copyFrom 46 = .ok (.return_, 1) := by decide +kernel
theorem dJ6_compare_7cf53_0 : decode cJ6_compare_7cf53 0 = .ok (.iload_n 0, 1) := by decide +kernel
theorem dJ6_compare_7cf53_1 : decode cJ6_compare_7cf53 1 = .ok (.iload_n 1, 1) := by decide +kernel
theorem dJ6_compare_7cf53_2 : decode cJ6_compare_7cf53 2 = .ok (.if_icmp .ge 7, 3) := by decide +kernel
theorem dJ6_compare_7cf53_5 : decode cJ6_compare_7cf53 5 = .ok (.iconst (-1), 1) := by decide +kernel
theorem dJ6_compare_7cf53_6 : decode cJ6_compare_7cf53 6 = .ok (.goto 13, 3) := by decide +kernel
theorem dJ6_compare_7cf53_9 : decode cJ6_compare_7cf53 9 = .ok (.iload_n 0, 1) := by decide +kernel
theorem dJ6_compare_7cf53_10 : decode cJ6_compare_7cf53 10 = .ok (.iload_n 1, 1) := by decide +kernel
theorem dJ6_compare_7cf53_11 : decode cJ6_compare_7cf53 11 = .ok (.if_icmp .ne 7, 3) := by decide +kernel
theorem dJ6_compare_7cf53_14 : decode cJ6_compare_7cf53 14 = .ok (.iconst 0, 1) := by decide +kernel
theorem dJ6_compare_7cf53_15 : decode cJ6_compare_7cf53 15 = .ok (.goto 4, 3) := by decide +kernel
theorem dJ6_compare_7cf53_18 : decode cJ6_compare_7cf53 18 = .ok (.iconst 1, 1) := by decide +kernel
theorem dJ6_compare_7cf53_19 : decode cJ6_compare_7cf53 19 = .ok (.ireturn, 1) := by decide +kernel
theorem dJ6_signum_0f7a4_0 : decode cJ6_signum_0f7a4 0 = .ok (.iload_n 0, 1) := by decide +kernel
theorem dJ6_signum_0f7a4_1 : decode cJ6_signum_0f7a4 1 = .ok (.bipush 31, 2) := by decide +kernel
theorem dJ6_signum_0f7a4_3 : decode cJ6_signum_0f7a4 3 = .ok (.ishr, 1) := by decide +kernel
theorem dJ6_signum_0f7a4_4 : decode cJ6_signum_0f7a4 4 = .ok (.iload_n 0, 1) := by decide +kernel
theorem dJ6_signum_0f7a4_5 : decode cJ6_signum_0f7a4 5 = .ok (.ineg, 1) := by decide +kernel
theorem dJ6_signum_0f7a4_6 : decode cJ6_signum_0f7a4 6 = .ok (.bipush 31, 2) := by decide +kernel
theorem dJ6_signum_0f7a4_8 : decode cJ6_signum_0f7a4 8 = .ok (.iushr, 1) := by decide +kernel
theorem dJ6_signum_0f7a4_9 : decode cJ6_signum_0f7a4 9 = .ok (.ior, 1) := by decide +kernel
theorem dJ6_signum_0f7a4_10 : decode cJ6_signum_0f7a4 10 = .ok (.ireturn, 1) := by decide +kernel
theorem dJ9_abs_0f7a4_0 : decode cJ9_abs_0f7a4 0 = .ok (.iload_n 0, 1) := by decide +kernel
theorem dJ9_abs_0f7a4_1 : decode cJ9_abs_0f7a4 1 = .ok (.ifCond .ge 8, 3) := by decide +kernel
theorem dJ9_abs_0f7a4_4 : decode cJ9_abs_0f7a4 4 = .ok (.iload_n 0, 1) := by decide +kernel
theorem dJ9_abs_0f7a4_5 : decode cJ9_abs_0f7a4 5 = .ok (.ineg, 1) := by decide +kernel
theorem dJ9_abs_0f7a4_6 : decode cJ9_abs_0f7a4 6 = .ok (.goto 4, 3) := by decide +kernel
theorem dJ9_abs_0f7a4_9 : decode cJ9_abs_0f7a4 9 = .ok (.iload_n 0, 1) := by decide +kernel
theorem dJ9_abs_0f7a4_10 : decode cJ9_abs_0f7a4 10 = .ok (.ireturn, 1) := by decide +kernel
theorem dJ9_abs_067f4_0 : decode cJ9_abs_067f4 0 = .ok (.lload_n 0, 1) := by decide +kernel
theorem dJ9_abs_067f4_1 : decode cJ9_abs_067f4 1 = .ok (.lconst 0, 1) := by decide +kernel
theorem dJ9_abs_067f4_2 : decode cJ9_abs_067f4 2 = .ok (.lcmp, 1) := by decide +kernel
theorem dJ9_abs_067f4_3 : decode cJ9_abs_067f4 3 = .ok (.ifCond .ge 8, 3) := by decide +kernel
theorem dJ9_abs_067f4_6 : decode cJ9_abs_067f4 6 = .ok (.lload_n 0, 1) := by decide +kernel
theorem dJ9_abs_067f4_7 : decode cJ9_abs_067f4 7 = .ok (.lneg, 1) := by decide +kernel
theorem dJ9_abs_067f4_8 : decode cJ9_abs_067f4 8 = .ok (.goto 4, 3) := by decide +kernel
theorem dJ9_abs_067f4_11 : decode cJ9_abs_067f4 11 = .ok (.lload_n 0, 1) := by decide +kernel
theorem dJ9_abs_067f4_12 : decode cJ9_abs_067f4 12 = .ok (.lreturn, 1) := by decide +kernel
theorem dJ9_abs_f6c48_0 : decode cJ9_abs_f6c48 0 = .ok (.fload_n 0, 1) := by decide +kernel
theorem dJ9_abs_f6c48_1 : decode cJ9_abs_f6c48 1 = .ok (.invokestatic 68, 3) := by decide +kernel
theorem dJ9_abs_f6c48_4 : decode cJ9_abs_f6c48 4 = .ok (.ldc 134, 2) := by decide +kernel
theorem dJ9_abs_f6c48_6 : decode cJ9_abs_f6c48 6 = .ok (.iand, 1) := by decide +kernel
theorem dJ9_abs_f6c48_7 : decode cJ9_abs_f6c48 7 = .ok (.invokestatic 162, 3) := by decide +kernel
theorem dJ9_abs_f6c48_10 : decode cJ9_abs_f6c48 10 = .ok (.freturn, 1) := by decide +kernel
theorem dJ9_max_7cf53_0 : decode cJ9_max_7cf53 0 = .ok (.iload_n 0, 1) := by decide +kernel
theorem dJ9_max_7cf53_1 : decode cJ9_max_7cf53 1 = .ok (.iload_n 1, 1) := by decide +kernel
theorem dJ9_max_7cf53_2 : decode cJ9_max_7cf53 2 = .ok (.if_icmp .lt 7, 3) := by decide +kernel
theorem dJ9_max_7cf53_5 : decode cJ9_max_7cf53 5 = .ok (.iload_n 0, 1) := by decide +kernel
theorem dJ9_max_7cf53_6 : decode cJ9_max_7cf53 6 = .ok (.goto 4, 3) := by decide +kernel
theorem dJ9_max_7cf53_9 : decode cJ9_max_7cf53 9 = .ok (.iload_n 1, 1) := by decide +kernel
theorem dJ9_max_7cf53_10 : decode cJ9_max_7cf53 10 = .ok (.ireturn, 1) := by decide +kernel
theorem dJ9_max_e70c8_0 : decode cJ9_max_e70c8 0 = .ok (.fload_n 0, 1) := by decide +kernel
theorem dJ9_max_e70c8_1 : decode cJ9_max_e70c8 1 = .ok (.fload_n 0, 1) := by decide +kernel
theorem dJ9_max_e70c8_2 : decode cJ9_max_e70c8 2 = .ok (.fcmp .l, 1) := by decide +kernel
theorem dJ9_max_e70c8_3 : decode cJ9_max_e70c8 3 = .ok (.ifCond .eq 5, 3) := by decide +kernel
theorem dJ9_max_e70c8_6 : decode cJ9_max_e70c8 6 = .ok (.fload_n 0, 1) := by decide +kernel
theorem dJ9_max_e70c8_7 : decode cJ9_max_e70c8 7 = .ok (.freturn, 1) := by decide +kernel
theorem dJ9_max_e70c8_8 : decode cJ9_max_e70c8 8 = .ok (.fload_n 0, 1) := by decide +kernel
theorem dJ9_max_e70c8_9 : decode cJ9_max_e70c8 9 = .ok (.fconst 0, 1) := by decide +kernel
theorem dJ9_max_e70c8_10 : decode cJ9_max_e70c8 10 = .ok (.fcmp .l, 1) := by decide +kernel
theorem dJ9_max_e70c8_11 : decode cJ9_max_e70c8 11 = .ok (.ifCond .ne 23, 3) := by decide +kernel
theorem dJ9_max_e70c8_14 : decode cJ9_max_e70c8 14 = .ok (.fload_n 1, 1) := by decide +kernel
theorem dJ9_max_e70c8_15 : decode cJ9_max_e70c8 15 = .ok (.fconst 0, 1) := by decide +kernel
theorem dJ9_max_e70c8_16 : decode cJ9_max_e70c8 16 = .ok (.fcmp .l, 1) := by decide +kernel
theorem dJ9_max_e70c8_17 : decode cJ9_max_e70c8 17 = .ok (.ifCond .ne 17, 3) := by decide +kernel
theorem dJ9_max_e70c8_20 : decode cJ9_max_e70c8 20 = .ok (.fload_n 0, 1) := by decide +kernel
theorem dJ9_max_e70c8_21 : decode cJ9_max_e70c8 21 = .ok (.invokestatic 68, 3) := by decide +kernel
theorem dJ9_max_e70c8_24 : decode cJ9_max_e70c8 24 = .ok (.i2l, 1) := by decide +kernel
theorem dJ9_max_e70c8_25 : decode cJ9_max_e70c8 25 = .ok (.getstatic 170, 3) := by decide +kernel
theorem dJ9_max_e70c8_28 : decode cJ9_max_e70c8 28 = .ok (.lcmp, 1) := by decide +kernel
theorem dJ9_max_e70c8_29 : decode cJ9_max_e70c8 29 = .ok (.ifCond .ne 5, 3) := by decide +kernel
theorem dJ9_max_e70c8_32 : decode cJ9_max_e70c8 32 = .ok (.fload_n 1, 1) := by decide +kernel
theorem dJ9_max_e70c8_33 : decode cJ9_max_e70c8 33 = .ok (.freturn, 1) := by decide +kernel
theorem dJ9_max_e70c8_34 : decode cJ9_max_e70c8 34 = .ok (.fload_n 0, 1) := by decide +kernel
theorem dJ9_max_e70c8_35 : decode cJ9_max_e70c8 35 = .ok (.fload_n 1, 1) := by decide +kernel
theorem dJ9_max_e70c8_36 : decode cJ9_max_e70c8 36 = .ok (.fcmp .l, 1) := by decide +kernel
theorem dJ9_max_e70c8_37 : decode cJ9_max_e70c8 37 = .ok (.ifCond .lt 7, 3) := by decide +kernel
theorem dJ9_max_e70c8_40 : decode cJ9_max_e70c8 40 = .ok (.fload_n 0, 1) := by decide +kernel
theorem dJ9_max_e70c8_41 : decode cJ9_max_e70c8 41 = .ok (.goto 4, 3) := by decide +kernel
theorem dJ9_max_e70c8_44 : decode cJ9_max_e70c8 44 = .ok (.fload_n 1, 1) := by decide +kernel
theorem dJ9_max_e70c8_45 : decode cJ9_max_e70c8 45 = .ok (.freturn, 1) := by decide +kernel
theorem dJ9_min_7cf53_0 : decode cJ9_min_7cf53 0 = .ok (.iload_n 0, 1) := by decide +kernel
theorem dJ9_min_7cf53_1 : decode cJ9_min_7cf53 1 = .ok (.iload_n 1, 1) := by decide +kernel
theorem dJ9_min_7cf53_2 : decode cJ9_min_7cf53 2 = .ok (.if_icmp .gt 7, 3) := by decide +kernel
theorem dJ9_min_7cf53_5 : decode cJ9_min_7cf53 5 = .ok (.iload_n 0, 1) := by decide +kernel
theorem dJ9_min_7cf53_6 : decode cJ9_min_7cf53 6 = .ok (.goto 4, 3) := by decide +kernel
theorem dJ9_min_7cf53_9 : decode cJ9_min_7cf53 9 = .ok (.iload_n 1, 1) := by decide +kernel
theorem dJ9_min_7cf53_10 : decode cJ9_min_7cf53 10 = .ok (.ireturn, 1) := by decide +kernel
theorem dJ9_min_f86c9_0 : decode cJ9_min_f86c9 0 = .ok (.lload_n 0, 1) := by decide +kernel
theorem dJ9_min_f86c9_1 : decode cJ9_min_f86c9 1 = .ok (.lload_n 2, 1) := by decide +kernel
theorem dJ9_min_f86c9_2 : decode cJ9_min_f86c9 2 = .ok (.lcmp, 1) := by decide +kernel
theorem dJ9_min_f86c9_3 : decode cJ9_min_f86c9 3 = .ok (.ifCond .gt 7, 3) := by decide +kernel
theorem dJ9_min_f86c9_6 : decode cJ9_min_f86c9 6 = .ok (.lload_n 0, 1) := by decide +kernel
theorem dJ9_min_f86c9_7 : decode cJ9_min_f86c9 7 = .ok (.goto 4, 3) := by decide +kernel
theorem dJ9_min_f86c9_10 : decode cJ9_min_f86c9 10 = .ok (.lload_n 2, 1) := by decide +kernel
theorem dJ9_min_f86c9_11 : decode cJ9_min_f86c9 11 = .ok (.lreturn, 1) := by decide +kernel
theorem dJ9_min_e70c8_0 : decode cJ9_min_e70c8 0 = .ok (.fload_n 0, 1) := by decide +kernel
theorem dJ9_min_e70c8_1 : decode cJ9_min_e70c8 1 = .ok (.fload_n 0, 1) := by decide +kernel
theorem dJ9_min_e70c8_2 : decode cJ9_min_e70c8 2 = .ok (.fcmp .l, 1) := by decide +kernel
theorem dJ9_min_e70c8_3 : decode cJ9_min_e70c8 3 = .ok (.ifCond .eq 5, 3) := by decide +kernel
theorem dJ9_min_e70c8_6 : decode cJ9_min_e70c8 6 = .ok (.fload_n 0, 1) := by decide +kernel
theorem dJ9_min_e70c8_7 : decode cJ9_min_e70c8 7 = .ok (.freturn, 1) := by decide +kernel
theorem dJ9_min_e70c8_8 : decode cJ9_min_e70c8 8 = .ok (.fload_n 0, 1) := by decide +kernel
theorem dJ9_min_e70c8_9 : decode cJ9_min_e70c8 9 = .ok (.fconst 0, 1) := by decide +kernel
theorem dJ9_min_e70c8_10 : decode cJ9_min_e70c8 10 = .ok (.fcmp .l, 1) := by decide +kernel
theorem dJ9_min_e70c8_11 : decode cJ9_min_e70c8 11 = .ok (.ifCond .ne 23, 3) := by decide +kernel
theorem dJ9_min_e70c8_14 : decode cJ9_min_e70c8 14 = .ok (.fload_n 1, 1) := by decide +kernel
theorem dJ9_min_e70c8_15 : decode cJ9_min_e70c8 15 = .ok (.fconst 0, 1) := by decide +kernel
theorem dJ9_min_e70c8_16 : decode cJ9_min_e70c8 16 = .ok (.fcmp .l, 1) := by decide +kernel
theorem dJ9_min_e70c8_17 : decode cJ9_min_e70c8 17 = .ok (.ifCond .ne 17, 3) := by decide +kernel
theorem dJ9_min_e70c8_20 : decode cJ9_min_e70c8 20 = .ok (.fload_n 1, 1) := by decide +kernel
theorem dJ9_min_e70c8_21 : decode cJ9_min_e70c8 21 = .ok (.invokestatic 68, 3) := by decide +kernel
theorem dJ9_min_e70c8_24 : decode cJ9_min_e70c8 24 = .ok (.i2l, 1) := by decide +kernel
theorem dJ9_min_e70c8_25 : decode cJ9_min_e70c8 25 = .ok (.getstatic 170, 3) := by decide +kernel
theorem dJ9_min_e70c8_28 : decode cJ9_min_e70c8 28 = .ok (.lcmp, 1) := by decide +kernel
theorem dJ9_min_e70c8_29 : decode cJ9_min_e70c8 29 = .ok (.ifCond .ne 5, 3) := by decide +kernel
theorem dJ9_min_e70c8_32 : decode cJ9_min_e70c8 32 = .ok (.fload_n 1, 1) := by decide +kernel
theorem dJ9_min_e70c8_33 : decode cJ9_min_e70c8 33 = .ok (.freturn, 1) := by decide +kernel
theorem dJ9_min_e70c8_34 : decode cJ9_min_e70c8 34 = .ok (.fload_n 0, 1) := by decide +kernel
theorem dJ9_min_e70c8_35 : decode cJ9_min_e70c8 35 = .ok (.fload_n 1, 1) := by decide +kernel
theorem dJ9_min_e70c8_36 : decode cJ9_min_e70c8 36 = .ok (.fcmp .g, 1) := by decide +kernel
theorem dJ9_min_e70c8_37 : decode cJ9_min_e70c8 37 = .ok (.ifCond .gt 7, 3) := by decide +kernel
theorem dJ9_min_e70c8_40 : decode cJ9_min_e70c8 40 = .ok (.fload_n 0, 1) := by decide +kernel
theorem dJ9_min_e70c8_41 : decode cJ9_min_e70c8 41 = .ok (.goto 4, 3) := by decide +kernel
theorem dJ9_min_e70c8_44 : decode cJ9_min_e70c8 44 = .ok (.fload_n 1, 1) := by decide +kernel
theorem dJ9_min_e70c8_45 : decode cJ9_min_e70c8 45 = .ok (.freturn, 1) := by decide +kernel
theorem dJxa1e45_init_da8c8_0 : decode cJxa1e45_init_da8c8 0 = .ok (.aload_n 0, 1) := by decide +kernel
theorem dJxa1e45_init_da8c8_1 : decode cJxa1e45_init_da8c8 1 = .ok (.invokespecial 1, 3) := by decide +kernel
theorem dJxa1e45_init_da8c8_4 : decode cJxa1e45_init_da8c8 4 = .ok (.return_, 1) := by decide +kernel
theorem dJxc12de_init_da8c8_0 : decode cJxc12de_init_da8c8 0 = .ok (.aload_n 0, 1) := by decide +kernel
theorem dJxc12de_init_da8c8_1 : decode cJxc12de_init_da8c8 1 = .ok (.invokespecial 1, 3) := by decide +kernel
theorem dJxc12de_init_da8c8_4 : decode cJxc12de_init_da8c8 4 = .ok (.aload_n 0, 1) := by decide +kernel
theorem dJxc12de_init_da8c8_5 : decode cJxc12de_init_da8c8 5 = .ok (.iconst 0, 1) := by decide +kernel
theorem dJxc12de_init_da8c8_6 : decode cJxc12de_init_da8c8 6 = .ok (.putfield 7, 3) := by decide +kernel
theorem dJxc12de_init_da8c8_9 : decode cJxc12de_init_da8c8 9 = .ok (.return_, 1) := by decide +kernel
theorem dJx4a65c_init_da8c8_0 : decode cJx4a65c_init_da8c8 0 = .ok (.aload_n 0, 1) := by decide +kernel
theorem dJx4a65c_init_da8c8_1 : decode cJx4a65c_init_da8c8 1 = .ok (.invokespecial 1, 3) := by decide +kernel
theorem dJx4a65c_init_da8c8_4 : decode cJx4a65c_init_da8c8 4 = .ok (.aload_n 0, 1) := by decide +kernel
theorem dJx4a65c_init_da8c8_5 : decode cJx4a65c_init_da8c8 5 = .ok (.getstatic 39, 3) := by decide +kernel
theorem dJx4a65c_init_da8c8_8 : decode cJx4a65c_init_da8c8 8 = .ok (.putfield 9, 3) := by decide +kernel
theorem dJx4a65c_init_da8c8_11 : decode cJx4a65c_init_da8c8 11 = .ok (.return_, 1) := by decide +kernel
theorem dJx4a65c_grow_92f84_0 : decode cJx4a65c_grow_92f84 0 = .ok (.aload_n 0, 1) := by decide +kernel
theorem dJx4a65c_grow_92f84_1 : decode cJx4a65c_grow_92f84 1 = .ok (.getfield 9, 3) := by decide +kernel
theorem dJx4a65c_grow_92f84_4 : decode cJx4a65c_grow_92f84 4 = .ok (.arraylength, 1) := by decide +kernel
theorem dJx4a65c_grow_92f84_5 : decode cJx4a65c_grow_92f84 5 = .ok (.istore_n 2, 1) := by decide +kernel
theorem dJx4a65c_grow_92f84_6 : decode cJx4a65c_grow_92f84 6 = .ok (.iload_n 2, 1) := by decide +kernel
theorem dJx4a65c_grow_92f84_7 : decode cJx4a65c_grow_92f84 7 = .ok (.ifCond .gt 13, 3) := by decide +kernel
theorem dJx4a65c_grow_92f84_10 : decode cJx4a65c_grow_92f84 10 = .ok (.aload_n 0, 1) := by decide +kernel
theorem dJx4a65c_grow_92f84_11 : decode cJx4a65c_grow_92f84 11 = .ok (.getfield 9, 3) := by decide +kernel
theorem dJx4a65c_grow_92f84_14 : decode cJx4a65c_grow_92f84 14 = .ok (.getstatic 39, 3) := by decide +kernel
theorem dJx4a65c_grow_92f84_17 : decode cJx4a65c_grow_92f84 17 = .ok (.if_acmp .eq 28, 3) := by decide +kernel
theorem dJx4a65c_grow_92f84_20 : decode cJx4a65c_grow_92f84 20 = .ok (.iload_n 2, 1) := by decide +kernel
theorem dJx4a65c_grow_92f84_21 : decode cJx4a65c_grow_92f84 21 = .ok (.iload_n 1, 1) := by decide +kernel
theorem dJx4a65c_grow_92f84_22 : decode cJx4a65c_grow_92f84 22 = .ok (.iload_n 2, 1) := by decide +kernel
theorem dJx4a65c_grow_92f84_23 : decode cJx4a65c_grow_92f84 23 = .ok (.isub, 1) := by decide +kernel
theorem dJx4a65c_grow_92f84_24 : decode cJx4a65c_grow_92f84 24 = .ok (.iload_n 2, 1) := by decide +kernel
theorem dJx4a65c_grow_92f84_25 : decode cJx4a65c_grow_92f84 25 = .ok (.iconst 1, 1) := by decide +kernel
theorem dJx4a65c_grow_92f84_26 : decode cJx4a65c_grow_92f84 26 = .ok (.ishr, 1) := by decide +kernel
theorem dJx4a65c_grow_92f84_27 : decode cJx4a65c_grow_92f84 27 = .ok (.invokestatic 73, 3) := by decide +kernel
theorem dJx4a65c_grow_92f84_30 : decode cJx4a65c_grow_92f84 30 = .ok (.istore_n 3, 1) := by decide +kernel
theorem dJx4a65c_grow_92f84_31 : decode cJx4a65c_grow_92f84 31 = .ok (.aload_n 0, 1) := by decide +kernel
theorem dJx4a65c_grow_92f84_32 : decode cJx4a65c_grow_92f84 32 = .ok (.aload_n 0, 1) := by decide +kernel
theorem dJx4a65c_grow_92f84_33 : decode cJx4a65c_grow_92f84 33 = .ok (.getfield 9, 3) := by decide +kernel
theorem dJx4a65c_grow_92f84_36 : decode cJx4a65c_grow_92f84 36 = .ok (.iload_n 3, 1) := by decide +kernel
theorem dJx4a65c_grow_92f84_37 : decode cJx4a65c_grow_92f84 37 = .ok (.invokestatic 66, 3) := by decide +kernel
theorem dJx4a65c_grow_92f84_40 : decode cJx4a65c_grow_92f84 40 = .ok (.dup_x1, 1) := by decide +kernel
theorem dJx4a65c_grow_92f84_41 : decode cJx4a65c_grow_92f84 41 = .ok (.putfield 9, 3) := by decide +kernel
theorem dJx4a65c_grow_92f84_44 : decode cJx4a65c_grow_92f84 44 = .ok (.areturn, 1) := by decide +kernel
theorem dJx4a65c_grow_92f84_45 : decode cJx4a65c_grow_92f84 45 = .ok (.aload_n 0, 1) := by decide +kernel
theorem dJx4a65c_grow_92f84_46 : decode cJx4a65c_grow_92f84 46 = .ok (.bipush 10, 2) := by decide +kernel
theorem dJx4a65c_grow_92f84_48 : decode cJx4a65c_grow_92f84 48 = .ok (.iload_n 1, 1) := by decide +kernel
theorem dJx4a65c_grow_92f84_49 : decode cJx4a65c_grow_92f84 49 = .ok (.invokestatic 79, 3) := by decide +kernel
theorem dJx4a65c_grow_92f84_52 : decode cJx4a65c_grow_92f84 52 = .ok (.anewarray 7, 3) := by decide +kernel
theorem dJx4a65c_grow_92f84_55 : decode cJx4a65c_grow_92f84 55 = .ok (.dup_x1, 1) := by decide +kernel
theorem dJx4a65c_grow_92f84_56 : decode cJx4a65c_grow_92f84 56 = .ok (.putfield 9, 3) := by decide +kernel
theorem dJx4a65c_grow_92f84_59 : decode cJx4a65c_grow_92f84 59 = .ok (.areturn, 1) := by decide +kernel
theorem dJx4a65c_grow_d5877_0 : decode cJx4a65c_grow_d5877 0 = .ok (.aload_n 0, 1) := by decide +kernel
theorem dJx4a65c_grow_d5877_1 : decode cJx4a65c_grow_d5877 1 = .ok (.aload_n 0, 1) := by decide +kernel
theorem dJx4a65c_grow_d5877_2 : decode cJx4a65c_grow_d5877 2 = .ok (.getfield 48, 3) := by decide +kernel
theorem dJx4a65c_grow_d5877_5 : decode cJx4a65c_grow_d5877 5 = .ok (.iconst 1, 1) := by decide +kernel
theorem dJx4a65c_grow_d5877_6 : decode cJx4a65c_grow_d5877 6 = .ok (.iadd, 1) := by decide +kernel
theorem dJx4a65c_grow_d5877_7 : decode cJx4a65c_grow_d5877 7 = .ok (.invokevirtual 69, 3) := by decide +kernel
theorem dJx4a65c_grow_d5877_10 : decode cJx4a65c_grow_d5877 10 = .ok (.areturn, 1) := by decide +kernel
theorem dJx4a65c_size_8abf5_0 : decode cJx4a65c_size_8abf5 0 = .ok (.aload_n 0, 1) := by decide +kernel
theorem dJx4a65c_size_8abf5_1 : decode cJx4a65c_size_8abf5 1 = .ok (.getfield 48, 3) := by decide +kernel
theorem dJx4a65c_size_8abf5_4 : decode cJx4a65c_size_8abf5 4 = .ok (.ireturn, 1) := by decide +kernel
theorem dJx4a65c_elementData_915e3_0 : decode cJx4a65c_elementData_915e3 0 = .ok (.aload_n 0, 1) := by decide +kernel
theorem dJx4a65c_elementData_915e3_1 : decode cJx4a65c_elementData_915e3 1 = .ok (.getfield 9, 3) := by decide +kernel
theorem dJx4a65c_elementData_915e3_4 : decode cJx4a65c_elementData_915e3 4 = .ok (.iload_n 1, 1) := by decide +kernel
theorem dJx4a65c_elementData_915e3_5 : decode cJx4a65c_elementData_915e3 5 = .ok (.aaload, 1) := by decide +kernel
theorem dJx4a65c_elementData_915e3_6 : decode cJx4a65c_elementData_915e3 6 = .ok (.areturn, 1) := by decide +kernel
theorem dJx4a65c_get_915e3_0 : decode cJx4a65c_get_915e3 0 = .ok (.iload_n 1, 1) := by decide +kernel
theorem dJx4a65c_get_915e3_1 : decode cJx4a65c_get_915e3 1 = .ok (.aload_n 0, 1) := by decide +kernel
theorem dJx4a65c_get_915e3_2 : decode cJx4a65c_get_915e3 2 = .ok (.getfield 48, 3) := by decide +kernel
theorem dJx4a65c_get_915e3_5 : decode cJx4a65c_get_915e3 5 = .ok (.invokestatic 118, 3) := by decide +kernel
theorem dJx4a65c_get_915e3_8 : decode cJx4a65c_get_915e3 8 = .ok (.pop, 1) := by decide +kernel
theorem dJx4a65c_get_915e3_9 : decode cJx4a65c_get_915e3 9 = .ok (.aload_n 0, 1) := by decide +kernel
theorem dJx4a65c_get_915e3_10 : decode cJx4a65c_get_915e3 10 = .ok (.iload_n 1, 1) := by decide +kernel
theorem dJx4a65c_get_915e3_11 : decode cJx4a65c_get_915e3 11 = .ok (.invokevirtual 123, 3) := by decide +kernel
theorem dJx4a65c_get_915e3_14 : decode cJx4a65c_get_915e3 14 = .ok (.areturn, 1) := by decide +kernel
theorem dJx4a65c_add_72be8_0 : decode cJx4a65c_add_72be8 0 = .ok (.iload_n 3, 1) := by decide +kernel
theorem dJx4a65c_add_72be8_1 : decode cJx4a65c_add_72be8 1 = .ok (.aload_n 2, 1) := by decide +kernel
theorem dJx4a65c_add_72be8_2 : decode cJx4a65c_add_72be8 2 = .ok (.arraylength, 1) := by decide +kernel
theorem dJx4a65c_add_72be8_3 : decode cJx4a65c_add_72be8 3 = .ok (.if_icmp .ne 8, 3) := by decide +kernel
theorem dJx4a65c_add_72be8_6 : decode cJx4a65c_add_72be8 6 = .ok (.aload_n 0, 1) := by decide +kernel
theorem dJx4a65c_add_72be8_7 : decode cJx4a65c_add_72be8 7 = .ok (.invokevirtual 129, 3) := by decide +kernel
theorem dJx4a65c_add_72be8_10 : decode cJx4a65c_add_72be8 10 = .ok (.astore_n 2, 1) := by decide +kernel
theorem dJx4a65c_add_72be8_11 : decode cJx4a65c_add_72be8 11 = .ok (.aload_n 2, 1) := by decide +kernel
theorem dJx4a65c_add_72be8_12 : decode cJx4a65c_add_72be8 12 = .ok (.iload_n 3, 1) := by decide +kernel
theorem dJx4a65c_add_72be8_13 : decode cJx4a65c_add_72be8 13 = .ok (.aload_n 1, 1) := by decide +kernel
theorem dJx4a65c_add_72be8_14 : decode cJx4a65c_add_72be8 14 = .ok (.aastore, 1) := by decide +kernel
theorem dJx4a65c_add_72be8_15 : decode cJx4a65c_add_72be8 15 = .ok (.aload_n 0, 1) := by decide +kernel
theorem dJx4a65c_add_72be8_16 : decode cJx4a65c_add_72be8 16 = .ok (.iload_n 3, 1) := by decide +kernel
theorem dJx4a65c_add_72be8_17 : decode cJx4a65c_add_72be8 17 = .ok (.iconst 1, 1) := by decide +kernel
theorem dJx4a65c_add_72be8_18 : decode cJx4a65c_add_72be8 18 = .ok (.iadd, 1) := by decide +kernel
theorem dJx4a65c_add_72be8_19 : decode cJx4a65c_add_72be8 19 = .ok (.putfield 48, 3) := by decide +kernel
theorem dJx4a65c_add_72be8_22 : decode cJx4a65c_add_72be8 22 = .ok (.return_, 1) := by decide +kernel
theorem dJx4a65c_add_9ea2d_0 : decode cJx4a65c_add_9ea2d 0 = .ok (.aload_n 0, 1) := by decide +kernel
theorem dJx4a65c_add_9ea2d_1 : decode cJx4a65c_add_9ea2d 1 = .ok (.dup, 1) := by decide +kernel
theorem dJx4a65c_add_9ea2d_2 : decode cJx4a65c_add_9ea2d 2 = .ok (.getfield 63, 3) := by decide +kernel
theorem dJx4a65c_add_9ea2d_5 : decode cJx4a65c_add_9ea2d 5 = .ok (.iconst 1, 1) := by decide +kernel
theorem dJx4a65c_add_9ea2d_6 : decode cJx4a65c_add_9ea2d 6 = .ok (.iadd, 1) := by decide +kernel
theorem dJx4a65c_add_9ea2d_7 : decode cJx4a65c_add_9ea2d 7 = .ok (.putfield 63, 3) := by decide +kernel
theorem dJx4a65c_add_9ea2d_10 : decode cJx4a65c_add_9ea2d 10 = .ok (.aload_n 0, 1) := by decide +kernel
theorem dJx4a65c_add_9ea2d_11 : decode cJx4a65c_add_9ea2d 11 = .ok (.aload_n 1, 1) := by decide +kernel
theorem dJx4a65c_add_9ea2d_12 : decode cJx4a65c_add_9ea2d 12 = .ok (.aload_n 0, 1) := by decide +kernel
theorem dJx4a65c_add_9ea2d_13 : decode cJx4a65c_add_9ea2d 13 = .ok (.getfield 9, 3) := by decide +kernel
theorem dJx4a65c_add_9ea2d_16 : decode cJx4a65c_add_9ea2d 16 = .ok (.aload_n 0, 1) := by decide +kernel
theorem dJx4a65c_add_9ea2d_17 : decode cJx4a65c_add_9ea2d 17 = .ok (.getfield 48, 3) := by decide +kernel
theorem dJx4a65c_add_9ea2d_20 : decode cJx4a65c_add_9ea2d 20 = .ok (.invokevirtual 131, 3) := by decide +kernel
theorem dJx4a65c_add_9ea2d_23 : decode cJx4a65c_add_9ea2d 23 = .ok (.iconst 1, 1) := by decide +kernel
theorem dJx4a65c_add_9ea2d_24 : decode cJx4a65c_add_9ea2d 24 = .ok (.ireturn, 1) := by decide +kernel
theorem dJ7_copyOf_1904c_0 : decode cJ7_copyOf_1904c 0 = .ok (.aload_n 0, 1) := by decide +kernel
theorem dJ7_copyOf_1904c_1 : decode cJ7_copyOf_1904c 1 = .ok (.iload_n 1, 1) := by decide +kernel
theorem dJ7_copyOf_1904c_2 : decode cJ7_copyOf_1904c 2 = .ok (.aload_n 0, 1) := by decide +kernel
theorem dJ7_copyOf_1904c_3 : decode cJ7_copyOf_1904c 3 = .ok (.invokevirtual 86, 3) := by decide +kernel
theorem dJ7_copyOf_1904c_6 : decode cJ7_copyOf_1904c 6 = .ok (.invokestatic 300, 3) := by decide +kernel
theorem dJ7_copyOf_1904c_9 : decode cJ7_copyOf_1904c 9 = .ok (.areturn, 1) := by decide +kernel
theorem dJ7_copyOf_6403c_0 : decode cJ7_copyOf_6403c 0 = .ok (.aload_n 2, 1) := by decide +kernel
theorem dJ7_copyOf_6403c_1 : decode cJ7_copyOf_6403c 1 = .ok (.ldc 110, 2) := by decide +kernel
theorem dJ7_copyOf_6403c_3 : decode cJ7_copyOf_6403c 3 = .ok (.if_acmp .ne 10, 3) := by decide +kernel
theorem dJ7_copyOf_6403c_6 : decode cJ7_copyOf_6403c 6 = .ok (.iload_n 1, 1) := by decide +kernel
theorem dJ7_copyOf_6403c_7 : decode cJ7_copyOf_6403c 7 = .ok (.anewarray 2, 3) := by decide +kernel
theorem dJ7_copyOf_6403c_10 : decode cJ7_copyOf_6403c 10 = .ok (.goto 14, 3) := by decide +kernel
theorem dJ7_copyOf_6403c_13 : decode cJ7_copyOf_6403c 13 = .ok (.aload_n 2, 1) := by decide +kernel
theorem dJ7_copyOf_6403c_14 : decode cJ7_copyOf_6403c 14 = .ok (.invokevirtual 90, 3) := by decide +kernel
theorem dJ7_copyOf_6403c_17 : decode cJ7_copyOf_6403c 17 = .ok (.iload_n 1, 1) := by decide +kernel
theorem dJ7_copyOf_6403c_18 : decode cJ7_copyOf_6403c 18 = .ok (.invokestatic 95, 3) := by decide +kernel
theorem dJ7_copyOf_6403c_21 : decode cJ7_copyOf_6403c 21 = .ok (.checkcast 110, 3) := by decide +kernel
theorem dJ7_copyOf_6403c_24 : decode cJ7_copyOf_6403c 24 = .ok (.astore_n 3, 1) := by decide +kernel
theorem dJ7_copyOf_6403c_25 : decode cJ7_copyOf_6403c 25 = .ok (.aload_n 0, 1) := by decide +kernel
theorem dJ7_copyOf_6403c_26 : decode cJ7_copyOf_6403c 26 = .ok (.iconst 0, 1) := by decide +kernel
theorem dJ7_copyOf_6403c_27 : decode cJ7_copyOf_6403c 27 = .ok (.aload_n 3, 1) := by decide +kernel
theorem dJ7_copyOf_6403c_28 : decode cJ7_copyOf_6403c 28 = .ok (.iconst 0, 1) := by decide +kernel
theorem dJ7_copyOf_6403c_29 : decode cJ7_copyOf_6403c 29 = .ok (.aload_n 0, 1) := by decide +kernel
theorem dJ7_copyOf_6403c_30 : decode cJ7_copyOf_6403c 30 = .ok (.arraylength, 1) := by decide +kernel
theorem dJ7_copyOf_6403c_31 : decode cJ7_copyOf_6403c 31 = .ok (.iload_n 1, 1) := by decide +kernel
theorem dJ7_copyOf_6403c_32 : decode cJ7_copyOf_6403c 32 = .ok (.invokestatic 304, 3) := by decide +kernel
theorem dJ7_copyOf_6403c_35 : decode cJ7_copyOf_6403c 35 = .ok (.invokestatic 150, 3) := by decide +kernel
theorem dJ7_copyOf_6403c_38 : decode cJ7_copyOf_6403c 38 = .ok (.aload_n 3, 1) := by decide +kernel
theorem dJ7_copyOf_6403c_39 : decode cJ7_copyOf_6403c 39 = .ok (.areturn, 1) := by decide +kernel
theorem dJ15_checkIndex_7cf53_0 : decode cJ15_checkIndex_7cf53 0 = .ok (.iload_n 0, 1) := by decide +kernel
theorem dJ15_checkIndex_7cf53_1 : decode cJ15_checkIndex_7cf53 1 = .ok (.iload_n 1, 1) := by decide +kernel
theorem dJ15_checkIndex_7cf53_2 : decode cJ15_checkIndex_7cf53 2 = .ok (.aconst_null, 1) := by decide +kernel
theorem dJ15_checkIndex_7cf53_3 : decode cJ15_checkIndex_7cf53 3 = .ok (.invokestatic 105, 3) := by decide +kernel
theorem dJ15_checkIndex_7cf53_6 : decode cJ15_checkIndex_7cf53 6 = .ok (.ireturn, 1) := by decide +kernel
theorem dJ8_newLength_cabcc_0 : decode cJ8_newLength_cabcc 0 = .ok (.iload_n 0, 1) := by decide +kernel
theorem dJ8_newLength_cabcc_1 : decode cJ8_newLength_cabcc 1 = .ok (.iload_n 1, 1) := by decide +kernel
theorem dJ8_newLength_cabcc_2 : decode cJ8_newLength_cabcc 2 = .ok (.iload_n 2, 1) := by decide +kernel
theorem dJ8_newLength_cabcc_3 : decode cJ8_newLength_cabcc 3 = .ok (.invokestatic 194, 3) := by decide +kernel
theorem dJ8_newLength_cabcc_6 : decode cJ8_newLength_cabcc 6 = .ok (.iadd, 1) := by decide +kernel
theorem dJ8_newLength_cabcc_7 : decode cJ8_newLength_cabcc 7 = .ok (.istore_n 3, 1) := by decide +kernel
theorem dJ8_newLength_cabcc_8 : decode cJ8_newLength_cabcc 8 = .ok (.iconst 0, 1) := by decide +kernel
theorem dJ8_newLength_cabcc_9 : decode cJ8_newLength_cabcc 9 = .ok (.iload_n 3, 1) := by decide +kernel
theorem dJ8_newLength_cabcc_10 : decode cJ8_newLength_cabcc 10 = .ok (.if_icmp .ge 11, 3) := by decide +kernel
theorem dJ8_newLength_cabcc_13 : decode cJ8_newLength_cabcc 13 = .ok (.iload_n 3, 1) := by decide +kernel
theorem dJ8_newLength_cabcc_14 : decode cJ8_newLength_cabcc 14 = .ok (.ldc 200, 2) := by decide +kernel
theorem dJ8_newLength_cabcc_16 : decode cJ8_newLength_cabcc 16 = .ok (.if_icmp .gt 5, 3) := by decide +kernel
theorem dJ8_newLength_cabcc_19 : decode cJ8_newLength_cabcc 19 = .ok (.iload_n 3, 1) := by decide +kernel
theorem dJ8_newLength_cabcc_20 : decode cJ8_newLength_cabcc 20 = .ok (.ireturn, 1) := by decide +kernel
theorem dJ8_newLength_cabcc_21 : decode cJ8_newLength_cabcc 21 = .ok (.iload_n 0, 1) := by decide +kernel
theorem dJ8_newLength_cabcc_22 : decode cJ8_newLength_cabcc 22 = .ok (.iload_n 1, 1) := by decide +kernel
theorem dJ8_newLength_cabcc_23 : decode cJ8_newLength_cabcc 23 = .ok (.invokestatic 201, 3) := by decide +kernel
theorem dJ8_newLength_cabcc_26 : decode cJ8_newLength_cabcc 26 = .ok (.ireturn, 1) := by decide +kernel
theorem dJ8_hugeLength_7cf53_0 : decode cJ8_hugeLength_7cf53 0 = .ok (.iload_n 0, 1) := by decide +kernel
theorem dJ8_hugeLength_7cf53_1 : decode cJ8_hugeLength_7cf53 1 = .ok (.iload_n 1, 1) := by decide +kernel
theorem dJ8_hugeLength_7cf53_2 : decode cJ8_hugeLength_7cf53 2 = .ok (.iadd, 1) := by decide +kernel
theorem dJ8_hugeLength_7cf53_3 : decode cJ8_hugeLength_7cf53 3 = .ok (.istore_n 2, 1) := by decide +kernel
theorem dJ8_hugeLength_7cf53_4 : decode cJ8_hugeLength_7cf53 4 = .ok (.iload_n 2, 1) := by decide +kernel
theorem dJ8_hugeLength_7cf53_5 : decode cJ8_hugeLength_7cf53 5 = .ok (.ifCond .ge 44, 3) := by decide +kernel
theorem dJ8_hugeLength_7cf53_8 : decode cJ8_hugeLength_7cf53 8 = .ok (.new 204, 3) := by decide +kernel
theorem dJ8_hugeLength_7cf53_11 : decode cJ8_hugeLength_7cf53 11 = .ok (.dup, 1) := by decide +kernel
theorem dJ8_hugeLength_7cf53_12 : decode cJ8_hugeLength_7cf53 12 = .ok (.new 89, 3) := by decide +kernel
theorem dJ8_hugeLength_7cf53_15 : decode cJ8_hugeLength_7cf53 15 = .ok (.dup, 1) := by decide +kernel
theorem dJ8_hugeLength_7cf53_16 : decode cJ8_hugeLength_7cf53 16 = .ok (.invokespecial 91, 3) := by decide +kernel
theorem dJ8_hugeLength_7cf53_19 : decode cJ8_hugeLength_7cf53 19 = .ok (.ldc 206, 2) := by decide +kernel
theorem dJ8_hugeLength_7cf53_21 : decode cJ8_hugeLength_7cf53 21 = .ok (.invokevirtual 94, 3) := by decide +kernel
theorem dJ8_hugeLength_7cf53_24 : decode cJ8_hugeLength_7cf53 24 = .ok (.iload_n 0, 1) := by decide +kernel
theorem dJ8_hugeLength_7cf53_25 : decode cJ8_hugeLength_7cf53 25 = .ok (.invokevirtual 98, 3) := by decide +kernel
theorem dJ8_hugeLength_7cf53_28 : decode cJ8_hugeLength_7cf53 28 = .ok (.ldc 208, 2) := by decide +kernel
theorem dJ8_hugeLength_7cf53_30 : decode cJ8_hugeLength_7cf53 30 = .ok (.invokevirtual 94, 3) := by decide +kernel
theorem dJ8_hugeLength_7cf53_33 : decode cJ8_hugeLength_7cf53 33 = .ok (.iload_n 1, 1) := by decide +kernel
theorem dJ8_hugeLength_7cf53_34 : decode cJ8_hugeLength_7cf53 34 = .ok (.invokevirtual 98, 3) := by decide +kernel
theorem dJ8_hugeLength_7cf53_37 : decode cJ8_hugeLength_7cf53 37 = .ok (.ldc 210, 2) := by decide +kernel
theorem dJ8_hugeLength_7cf53_39 : decode cJ8_hugeLength_7cf53 39 = .ok (.invokevirtual 94, 3) := by decide +kernel
theorem dJ8_hugeLength_7cf53_42 : decode cJ8_hugeLength_7cf53 42 = .ok (.invokevirtual 101, 3) := by decide +kernel
theorem dJ8_hugeLength_7cf53_45 : decode cJ8_hugeLength_7cf53 45 = .ok (.invokespecial 212, 3) := by decide +kernel
theorem dJ8_hugeLength_7cf53_48 : decode cJ8_hugeLength_7cf53 48 = .ok (.athrow, 1) := by decide +kernel
theorem dJ8_hugeLength_7cf53_49 : decode cJ8_hugeLength_7cf53 49 = .ok (.iload_n 2, 1) := by decide +kernel
theorem dJ8_hugeLength_7cf53_50 : decode cJ8_hugeLength_7cf53 50 = .ok (.ldc 200, 2) := by decide +kernel
theorem dJ8_hugeLength_7cf53_52 : decode cJ8_hugeLength_7cf53 52 = .ok (.if_icmp .gt 6, 3) := by decide +kernel
theorem dJ8_hugeLength_7cf53_55 : decode cJ8_hugeLength_7cf53 55 = .ok (.ldc 200, 2) := by decide +kernel
theorem dJ8_hugeLength_7cf53_57 : decode cJ8_hugeLength_7cf53 57 = .ok (.ireturn, 1) := by decide +kernel
theorem dJ8_hugeLength_7cf53_58 : decode cJ8_hugeLength_7cf53 58 = .ok (.iload_n 2, 1) := by decide +kernel
theorem dJ8_hugeLength_7cf53_59 : decode cJ8_hugeLength_7cf53 59 = .ok (.ireturn, 1) := by decide +kernel
theorem dJ3_checkIndex_8e157_0 : decode cJ3_checkIndex_8e157 0 = .ok (.iload_n 0, 1) := by decide +kernel
theorem dJ3_checkIndex_8e157_1 : decode cJ3_checkIndex_8e157 1 = .ok (.ifCond .lt 8, 3) := by decide +kernel
theorem dJ3_checkIndex_8e157_4 : decode cJ3_checkIndex_8e157 4 = .ok (.iload_n 0, 1) := by decide +kernel
theorem dJ3_checkIndex_8e157_5 : decode cJ3_checkIndex_8e157 5 = .ok (.iload_n 1, 1) := by decide +kernel
theorem dJ3_checkIndex_8e157_6 : decode cJ3_checkIndex_8e157 6 = .ok (.if_icmp .lt 10, 3) := by decide +kernel
theorem dJ3_checkIndex_8e157_9 : decode cJ3_checkIndex_8e157 9 = .ok (.aload_n 2, 1) := by decide +kernel
theorem dJ3_checkIndex_8e157_10 : decode cJ3_checkIndex_8e157 10 = .ok (.iload_n 0, 1) := by decide +kernel
theorem dJ3_checkIndex_8e157_11 : decode cJ3_checkIndex_8e157 11 = .ok (.iload_n 1, 1) := by decide +kernel
theorem dJ3_checkIndex_8e157_12 : decode cJ3_checkIndex_8e157 12 = .ok (.invokestatic 95, 3) := by decide +kernel
theorem dJ3_checkIndex_8e157_15 : decode cJ3_checkIndex_8e157 15 = .ok (.athrow, 1) := by decide +kernel
theorem dJ3_checkIndex_8e157_16 : decode cJ3_checkIndex_8e157 16 = .ok (.iload_n 0, 1) := by decide +kernel
theorem dJ3_checkIndex_8e157_17 : decode cJ3_checkIndex_8e157 17 = .ok (.ireturn, 1) := by decide +kernel
section Sheet
variable {i a b n : Nat} {f : Nat → am_C} {w bs : Nat → Int32} {ht : Int32}
theorem s_chargeOf {c : Nat} (h0 : f i = .inr (6, [.ref a, .ref b, .int ht])) (h1 : f a = .inl (0, 48, .inl w)) (hc : c < 48) : AM mX6_chargeOf 0 0 [.ref i, .int (nI c)] n f (am_is (some (.int (ht + w c))) n f) := by
  show AW mX6_chargeOf 0 0 0 [some (.ref i), some (.int (nI c))] [] n f _
  refine am_aload_n 0 dX6_chargeOf_0 rfl ?_
  refine am_getfield 1 dX6_chargeOf_1 fX6_18 (by repeat (first | assumption | exact am_ue | refine am_un (by first | assumption | decide | omega) ?_)) rfl ?_
  refine am_aload_n 4 dX6_chargeOf_4 rfl ?_
  refine am_getfield 5 dX6_chargeOf_5 fX6_9 (by repeat (first | assumption | exact am_ue | refine am_un (by first | assumption | decide | omega) ?_)) rfl ?_
  refine am_iload_n 8 dX6_chargeOf_8 rfl ?_
  refine am_iaload 9 dX6_chargeOf_9 rfl (by repeat (first | assumption | exact am_ue | refine am_un (by first | assumption | decide | omega) ?_)) (by first | assumption | exact vp_in_nI (by omega) (by decide)) ?_
  rw [nI_clamp (n := c) (by omega)]
  refine am_iadd 10 dX6_chargeOf_10 ?_
  exact am_ireturn 11 dX6_chargeOf_11 rfl rfl ⟨rfl, rfl, rfl⟩
theorem s_signalOf {c : Nat} (h0 : f i = .inr (6, [.ref a, .ref b, .int ht])) (h1 : f a = .inl (0, 48, .inl w)) (h2 : f b = .inl (0, 48, .inl bs)) (hc : c < 48) : AM mX6_signalOf 0 0 [.ref i, .int (nI c)] n f (am_is (some (.int (ht + w c - bs c))) n f) := by
  show AW mX6_signalOf 0 0 0 [some (.ref i), some (.int (nI c))] [] n f _
  refine am_aload_n 0 dX6_signalOf_0 rfl ?_
  refine am_iload_n 1 dX6_signalOf_1 rfl ?_
  refine am_V1 2 (mc' := 0) (ms' := 0) (rc := 0) (rs := 0) dX6_signalOf_2 lX6_22 ⟨by decide, by decide⟩ (by repeat (first | assumption | exact am_ue | refine am_un (by first | assumption | decide | omega) ?_)) (Nat.le_of_ble_eq_true rfl) (Nat.le_of_ble_eq_true rfl) (s_chargeOf h0 h1 hc) ?_
  refine am_is_ct ?_
  refine am_aload_n 5 dX6_signalOf_5 rfl ?_
  refine am_getfield 6 dX6_signalOf_6 fX6_15 (by repeat (first | assumption | exact am_ue | refine am_un (by first | assumption | decide | omega) ?_)) rfl ?_
  refine am_iload_n 9 dX6_signalOf_9 rfl ?_
  refine am_iaload 10 dX6_signalOf_10 rfl (by repeat (first | assumption | exact am_ue | refine am_un (by first | assumption | decide | omega) ?_)) (by first | assumption | exact vp_in_nI (by omega) (by decide)) ?_
  rw [nI_clamp (n := c) (by omega)]
  refine am_isub 11 dX6_signalOf_11 ?_
  exact am_ireturn 12 dX6_signalOf_12 rfl rfl ⟨rfl, rfl, rfl⟩
theorem s_forgetWaits (h0 : f i = .inr (6, [.ref a, .ref b, .int ht])) (h1 : f a = .inl (0, 48, .inl w)) (hia : i ≠ a) : AM mX6_forgetWaits 0 0 [.ref i] n f (am_is none n (va_up f a (.inl (0, 48, .inl (fun _ => 0))))) := by
  show AW mX6_forgetWaits 0 0 0 [some (.ref i), none] [] n f _
  refine am_iconst 0 (v := 0) dX6_forgetWaits_0 (by decide) ?_
  refine am_istore_n 1 dX6_forgetWaits_1 (by decide) ?_
  have h := am_for 48 (fun k (w' : Nat → Int32) => ∀ j, j < k → w' j = 0) (fun k w' => AW mX6_forgetWaits 0 0 2 [some (.ref i), some (.int (nI k))] [] n (va_up f a (.inl (0, 48, .inl w'))) (am_is none n (va_up f a (.inl (0, 48, .inl (fun _ => 0)))))) ?_ ?_ 0 w (by omega) (fun j hj => by omega)
  · rw [am_self h1] at h
    exact h
  · intro w' hw
    refine am_iload_n 2 dX6_forgetWaits_2 rfl ?_
    refine am_bipush 3 (v := 48) dX6_forgetWaits_3 (by decide) ?_
    refine am_icmp_ge 5 21 dX6_forgetWaits_5 rfl (fun c5 => ?_) (fun c5 => absurd (by decide) c5)
    refine AW.ints (fun _ => 0) am_ue hw ?_
    rw [am_uu]
    exact am_return 21 dX6_forgetWaits_21 rfl ⟨rfl, rfl, rfl⟩
  · intro k w' hk hw ih
    refine am_iload_n 2 dX6_forgetWaits_2 rfl ?_
    refine am_bipush 3 (v := 48) dX6_forgetWaits_3 (by decide) ?_
    refine am_icmp_ge 5 21 dX6_forgetWaits_5 rfl (fun c5 => absurd c5 (nI_ge hk (by decide))) (fun c5 => ?_)
    refine am_aload_n 8 dX6_forgetWaits_8 rfl ?_
    refine am_getfield 9 dX6_forgetWaits_9 fX6_9 (by repeat (first | assumption | exact am_ue | refine am_un (by first | assumption | decide | omega) ?_)) rfl ?_
    refine am_iload_n 12 dX6_forgetWaits_12 rfl ?_
    refine am_iconst 13 (v := 0) dX6_forgetWaits_13 (by decide) ?_
    refine am_iastore 14 dX6_forgetWaits_14 rfl (by repeat (first | assumption | exact am_ue | refine am_un (by first | assumption | decide | omega) ?_)) (by first | assumption | exact vp_in_nI (by omega) (by decide)) ?_
    rw [am_uu, nI_clamp (n := k) (by omega)]
    refine am_iinc 15 (v := nI (k + 1)) dX6_forgetWaits_15 rfl (nI_1 (k)) (by decide) ?_
    refine am_goto 18 (tgt := 2) dX6_forgetWaits_18 rfl ?_
    refine ih _ (fun j hj => ?_)
    by_cases e : j = k
    · rw [e, am_up_eq]
    · rw [am_up_ne e, hw j (by omega)]
theorem s_baseOnHeat (h0 : f i = .inr (6, [.ref a, .ref b, .int ht])) (h2 : f b = .inl (0, 48, .inl bs)) (hib : i ≠ b) : AM mX6_baseOnHeat 0 0 [.ref i] n f (am_is none n (va_up f b (.inl (0, 48, .inl (fun _ => ht))))) := by
  show AW mX6_baseOnHeat 0 0 0 [some (.ref i), none] [] n f _
  refine am_iconst 0 (v := 0) dX6_baseOnHeat_0 (by decide) ?_
  refine am_istore_n 1 dX6_baseOnHeat_1 (by decide) ?_
  have h := am_for 48 (fun k (w' : Nat → Int32) => ∀ j, j < k → w' j = ht) (fun k w' => AW mX6_baseOnHeat 0 0 2 [some (.ref i), some (.int (nI k))] [] n (va_up f b (.inl (0, 48, .inl w'))) (am_is none n (va_up f b (.inl (0, 48, .inl (fun _ => ht)))))) ?_ ?_ 0 bs (by omega) (fun j hj => by omega)
  · rw [am_self h2] at h
    exact h
  · intro w' hw
    refine am_iload_n 2 dX6_baseOnHeat_2 rfl ?_
    refine am_bipush 3 (v := 48) dX6_baseOnHeat_3 (by decide) ?_
    refine am_icmp_ge 5 24 dX6_baseOnHeat_5 rfl (fun c5 => ?_) (fun c5 => absurd (by decide) c5)
    refine AW.ints (fun _ => ht) am_ue hw ?_
    rw [am_uu]
    exact am_return 24 dX6_baseOnHeat_24 rfl ⟨rfl, rfl, rfl⟩
  · intro k w' hk hw ih
    refine am_iload_n 2 dX6_baseOnHeat_2 rfl ?_
    refine am_bipush 3 (v := 48) dX6_baseOnHeat_3 (by decide) ?_
    refine am_icmp_ge 5 24 dX6_baseOnHeat_5 rfl (fun c5 => absurd c5 (nI_ge hk (by decide))) (fun c5 => ?_)
    refine am_aload_n 8 dX6_baseOnHeat_8 rfl ?_
    refine am_getfield 9 dX6_baseOnHeat_9 fX6_15 (by repeat (first | assumption | exact am_ue | refine am_un (by first | assumption | decide | omega) ?_)) rfl ?_
    refine am_iload_n 12 dX6_baseOnHeat_12 rfl ?_
    refine am_aload_n 13 dX6_baseOnHeat_13 rfl ?_
    refine am_getfield 14 dX6_baseOnHeat_14 fX6_18 (by repeat (first | assumption | exact am_ue | refine am_un (by first | assumption | decide | omega) ?_)) rfl ?_
    refine am_iastore 17 dX6_baseOnHeat_17 rfl (by repeat (first | assumption | exact am_ue | refine am_un (by first | assumption | decide | omega) ?_)) (by first | assumption | exact vp_in_nI (by omega) (by decide)) ?_
    rw [am_uu, nI_clamp (n := k) (by omega)]
    refine am_iinc 18 (v := nI (k + 1)) dX6_baseOnHeat_18 rfl (nI_1 (k)) (by decide) ?_
    refine am_goto 21 (tgt := 2) dX6_baseOnHeat_21 rfl ?_
    refine ih _ (fun j hj => ?_)
    by_cases e : j = k
    · rw [e, am_up_eq]
    · rw [am_up_ne e, hw j (by omega)]
theorem s_addNoise {y : Nat} {mu : Int32} (h0 : f i = .inr (6, [.ref a, .ref b, .int ht])) (h1 : f a = .inl (0, 48, .inl w)) (hia : i ≠ a) (hy : y < 6) : AM mX6_addNoise 0 0 [.ref i, .int (nI y), .int mu] n f (am_is none n (va_up f a (.inl (0, 48, .inl (fun k => if k / 8 = y then w k + mu else w k))))) := by
  show AW mX6_addNoise 0 0 0 [some (.ref i), some (.int (nI y)), some (.int mu), none] [] n f _
  refine am_iconst 0 (v := 0) dX6_addNoise_0 (by decide) ?_
  refine am_istore_n 1 dX6_addNoise_1 (by decide) ?_
  have h := am_for 8 (fun k (w' : Nat → Int32) => ∀ j, w' j = if j / 8 = y ∧ j % 8 < k then w j + mu else w j) (fun k w' => AW mX6_addNoise 0 0 2 [some (.ref i), some (.int (nI y)), some (.int mu), some (.int (nI k))] [] n (va_up f a (.inl (0, 48, .inl w'))) (am_is none n (va_up f a (.inl (0, 48, .inl (fun k => if k / 8 = y then w k + mu else w k)))))) ?_ ?_ 0 w (by omega) (fun j => by simp)
  · rw [am_self h1] at h
    exact h
  · intro w' hw
    have e : w' = (fun k => if k / 8 = y then w k + mu else w k) := by
      funext j
      rw [hw j]
      have : j % 8 < 8 := Nat.mod_lt _ (by decide)
      simp [this]
    subst e
    refine am_iload_n 2 dX6_addNoise_2 rfl ?_
    refine am_bipush 3 (v := 8) dX6_addNoise_3 (by decide) ?_
    refine am_icmp_ge 5 29 dX6_addNoise_5 rfl (fun c5 => ?_) (fun c5 => absurd (by decide) c5)
    exact am_return 29 dX6_addNoise_29 rfl ⟨rfl, rfl, rfl⟩
  · intro k w' hk hw ih
    have e1 : nI y * 8 + nI k = nI (8 * y + k) := by
      rw [show (8 : Int32) = nI 8 from rfl, pk_mul, nI_add, Nat.mul_comm]
    refine am_iload_n 2 dX6_addNoise_2 rfl ?_
    refine am_bipush 3 (v := 8) dX6_addNoise_3 (by decide) ?_
    refine am_icmp_ge 5 29 dX6_addNoise_5 rfl (fun c5 => absurd c5 (nI_ge hk (by decide))) (fun c5 => ?_)
    refine am_aload_n 8 dX6_addNoise_8 rfl ?_
    refine am_getfield 9 dX6_addNoise_9 fX6_9 (by repeat (first | assumption | exact am_ue | refine am_un (by first | assumption | decide | omega) ?_)) rfl ?_
    refine am_iload_n 12 dX6_addNoise_12 rfl ?_
    refine am_bipush 13 (v := 8) dX6_addNoise_13 (by decide) ?_
    refine am_imul 15 dX6_addNoise_15 ?_
    refine am_iload_n 16 dX6_addNoise_16 rfl ?_
    refine am_iadd 17 dX6_addNoise_17 ?_
    rw [e1]
    refine am_dup2 18 dX6_addNoise_18 rfl rfl ?_
    refine am_iaload 19 dX6_addNoise_19 rfl (by repeat (first | assumption | exact am_ue | refine am_un (by first | assumption | decide | omega) ?_)) (am_ix (by omega) (by decide)) ?_
    rw [nI_clamp (n := 8 * y + k) (by omega)]
    refine am_iload_n 20 dX6_addNoise_20 rfl ?_
    refine am_iadd 21 dX6_addNoise_21 ?_
    refine am_iastore 22 dX6_addNoise_22 rfl (by repeat (first | assumption | exact am_ue | refine am_un (by first | assumption | decide | omega) ?_)) (am_ix (by omega) (by decide)) ?_
    rw [am_uu, nI_clamp (n := 8 * y + k) (by omega)]
    refine am_iinc 23 (v := nI (k + 1)) dX6_addNoise_23 rfl (nI_1 (k)) (by decide) ?_
    refine am_goto 26 (tgt := 2) dX6_addNoise_26 rfl ?_
    refine ih _ (fun j => ?_)
    have e2 : (8 * y + k) / 8 = y := by omega
    have e3 : (8 * y + k) % 8 = k := by omega
    by_cases e : j = 8 * y + k
    · subst e; rw [am_up_eq, hw, e2, e3]; simp
    · rw [am_up_ne e, hw j]; congr 1; simp only [eq_iff_iff]; omega
theorem s_compare {x y : Int32} : AM mJ6_compare_7cf53 0 0 [.int x, .int y] n f (am_is (some (.int (m_cmp x y))) n f) := by
  show AW mJ6_compare_7cf53 0 0 0 [some (.int x), some (.int y)] [] n f _
  refine am_iload_n 0 dJ6_compare_7cf53_0 rfl ?_
  refine am_iload_n 1 dJ6_compare_7cf53_1 rfl ?_
  refine am_icmp_ge 2 9 dJ6_compare_7cf53_2 rfl (fun c2 => ?_) (fun c2 => ?_)
  · refine am_iload_n 9 dJ6_compare_7cf53_9 rfl ?_
    refine am_iload_n 10 dJ6_compare_7cf53_10 rfl ?_
    refine am_icmp_ne 11 18 dJ6_compare_7cf53_11 rfl (fun c11 => ?_) (fun c11 => ?_)
    · refine am_iconst 18 (v := 1) dJ6_compare_7cf53_18 (by decide) ?_
      refine am_ireturn 19 dJ6_compare_7cf53_19 rfl rfl ?_
      exact ⟨by simp [m_cmp, *], rfl, rfl⟩
    · refine am_iconst 14 (v := 0) dJ6_compare_7cf53_14 (by decide) ?_
      refine am_goto 15 (tgt := 19) dJ6_compare_7cf53_15 rfl ?_
      refine am_ireturn 19 dJ6_compare_7cf53_19 rfl rfl ?_
      exact ⟨by simp [m_cmp, *], rfl, rfl⟩
  · refine am_iconst 5 (v := (-1)) dJ6_compare_7cf53_5 (by decide) ?_
    refine am_goto 6 (tgt := 19) dJ6_compare_7cf53_6 rfl ?_
    refine am_ireturn 19 dJ6_compare_7cf53_19 rfl rfl ?_
    exact ⟨by simp [m_cmp, *], rfl, rfl⟩
theorem s_stepFor {x : Int32} : AM mX6_stepFor 0 0 [.int x] n f (am_is (some (.int (m_step x))) n f) := by
  show AW mX6_stepFor 0 0 0 [some (.int x)] [] n f _
  refine am_iload_n 0 dX6_stepFor_0 rfl ?_
  refine am_bipush 1 (v := (-10)) dX6_stepFor_1 (by decide) ?_
  refine am_icmp_gt 3 9 dX6_stepFor_3 rfl (fun c3 => ?_) (fun c3 => ?_)
  · refine am_iload_n 9 dX6_stepFor_9 rfl ?_
    refine am_bipush 10 (v := 10) dX6_stepFor_10 (by decide) ?_
    refine am_icmp_lt 12 17 dX6_stepFor_12 rfl (fun c12 => ?_) (fun c12 => ?_)
    · refine am_iload_n 17 dX6_stepFor_17 rfl ?_
      refine am_iconst 18 (v := 0) dX6_stepFor_18 (by decide) ?_
      refine am_S2 19 (mc' := 0) (ms' := 0) (rc := 0) (rs := 0) dX6_stepFor_19 lX6_50 ⟨by decide, by decide⟩ (Nat.le_of_ble_eq_true rfl) (Nat.le_of_ble_eq_true rfl) (s_compare) ?_
      refine am_is_ct ?_
      refine am_ireturn 22 dX6_stepFor_22 rfl rfl ?_
      exact ⟨by simp [m_step, *], rfl, rfl⟩
    · refine am_iconst 15 (v := 4) dX6_stepFor_15 (by decide) ?_
      refine am_ireturn 16 dX6_stepFor_16 rfl rfl ?_
      exact ⟨by simp [m_step, *], rfl, rfl⟩
  · refine am_bipush 6 (v := (-4)) dX6_stepFor_6 (by decide) ?_
    refine am_ireturn 8 dX6_stepFor_8 rfl rfl ?_
    exact ⟨by simp [m_step, *], rfl, rfl⟩
end Sheet
section Sheet2
variable {i a b i2 a2 b2 n : Nat} {f : Nat → am_C} {w bs w2 bs2 : Nat → Int32} {ht ht2 : Int32}
theorem s_copyFrom (h0 : f i = .inr (6, [.ref a, .ref b, .int ht])) (h1 : f a = .inl (0, 48, .inl w)) (h2 : f b = .inl (0, 48, .inl bs)) (g0 : f i2 = .inr (6, [.ref a2, .ref b2, .int ht2])) (g1 : f a2 = .inl (0, 48, .inl w2)) (g2 : f b2 = .inl (0, 48, .inl bs2))
    (d1 : i ≠ a) (d2 : i ≠ b) (d3 : a ≠ b) (d4 : i2 ≠ i) (d5 : i2 ≠ a) (d6 : i2 ≠ b) (d7 : a2 ≠ i) (d8 : a2 ≠ a) (d9 : a2 ≠ b) (d10 : b2 ≠ i) (d11 : b2 ≠ a) (d12 : b2 ≠ b) (d13 : b ≠ a) (d14 : a ≠ i) (d15 : b ≠ i) :
    AM mX6_copyFrom 0 0 [.ref i, .ref i2] n f (am_is none n (va_up (va_up (va_up f i (.inr (6, [.ref a, .ref b, .int ht2]))) a (.inl (0, 48, .inl w2))) b (.inl (0, 48, .inl bs2)))) := by
  show AW mX6_copyFrom 0 0 0 [some (.ref i), some (.ref i2), none] [] n f _
  refine am_aload_n 0 dX6_copyFrom_0 rfl ?_
  refine am_aload_n 1 dX6_copyFrom_1 rfl ?_
  refine am_getfield 2 dX6_copyFrom_2 fX6_18 (by repeat (first | assumption | exact am_ue | refine am_un (by first | assumption | decide | omega) ?_)) rfl ?_
  refine am_putfield 5 dX6_copyFrom_5 pX6_18 (by repeat (first | assumption | exact am_ue | refine am_un (by first | assumption | decide | omega) ?_)) rfl rfl (Nat.le_of_ble_eq_true rfl) ?_
  refine am_iconst 8 (v := 0) dX6_copyFrom_8 (by decide) ?_
  refine am_istore_n 9 dX6_copyFrom_9 (by decide) ?_
  have h := am_for 48 (fun k (w' : (Nat → Int32) × (Nat → Int32)) => ∀ j, j < k → w'.1 j = w2 j ∧ w'.2 j = bs2 j) (fun k w' => AW mX6_copyFrom 0 0 10 [some (.ref i), some (.ref i2), some (.int (nI k))] [] n (va_up (va_up (va_up f i (.inr (6, [.ref a, .ref b, .int ht2]))) a (.inl (0, 48, .inl w'.1))) b (.inl (0, 48, .inl w'.2))) (am_is none n (va_up (va_up (va_up f i (.inr (6, [.ref a, .ref b, .int ht2]))) a (.inl (0, 48, .inl w2))) b (.inl (0, 48, .inl bs2))))) ?_ ?_ 0 (w, bs) (by omega) (fun j hj => by omega)
  · rw [am_self (f := va_up (va_up f i _) a _) (i := b) (by rw [am_up_ne d13, am_up_ne d15]; exact h2), am_self (f := va_up f i _) (i := a) (by rw [am_up_ne d14]; exact h1)] at h
    exact h
  · rintro ⟨w', b'⟩ hw
    refine am_iload_n 10 dX6_copyFrom_10 rfl ?_
    refine am_bipush 11 (v := 48) dX6_copyFrom_11 (by decide) ?_
    refine am_icmp_ge 13 46 dX6_copyFrom_13 rfl (fun c13 => ?_) (fun c13 => absurd (by decide) c13)
    refine AW.ints bs2 am_ue (fun j hj => (hw j hj).2) ?_
    rw [am_uu]
    refine AW.ints w2 (am_un d3 am_ue) (fun j hj => (hw j hj).1) ?_
    rw [am_us d13, am_uu]
    exact am_return 46 dX6_copyFrom_46 rfl ⟨rfl, rfl, rfl⟩
  · rintro k ⟨w', b'⟩ hk hw ih
    refine am_iload_n 10 dX6_copyFrom_10 rfl ?_
    refine am_bipush 11 (v := 48) dX6_copyFrom_11 (by decide) ?_
    refine am_icmp_ge 13 46 dX6_copyFrom_13 rfl (fun c13 => absurd c13 (nI_ge hk (by decide))) (fun c13 => ?_)
    refine am_aload_n 16 dX6_copyFrom_16 rfl ?_
    refine am_getfield 17 dX6_copyFrom_17 fX6_9 (by repeat (first | assumption | exact am_ue | refine am_un (by first | assumption | decide | omega) ?_)) rfl ?_
    refine am_iload_n 20 dX6_copyFrom_20 rfl ?_
    refine am_aload_n 21 dX6_copyFrom_21 rfl ?_
    refine am_getfield 22 dX6_copyFrom_22 fX6_9 (by repeat (first | assumption | exact am_ue | refine am_un (by first | assumption | decide | omega) ?_)) rfl ?_
    refine am_iload_n 25 dX6_copyFrom_25 rfl ?_
    refine am_iaload 26 dX6_copyFrom_26 rfl (by repeat (first | assumption | exact am_ue | refine am_un (by first | assumption | decide | omega) ?_)) (by first | assumption | exact vp_in_nI (by omega) (by decide)) ?_
    rw [nI_clamp (n := k) (by omega)]
    refine am_iastore 27 dX6_copyFrom_27 rfl (by repeat (first | assumption | exact am_ue | refine am_un (by first | assumption | decide | omega) ?_)) (by first | assumption | exact vp_in_nI (by omega) (by decide)) ?_
    rw [nI_clamp (n := k) (by omega), am_us d13, am_uu]
    refine am_aload_n 28 dX6_copyFrom_28 rfl ?_
    refine am_getfield 29 dX6_copyFrom_29 fX6_15 (by repeat (first | assumption | exact am_ue | refine am_un (by first | assumption | decide | omega) ?_)) rfl ?_
    refine am_iload_n 32 dX6_copyFrom_32 rfl ?_
    refine am_aload_n 33 dX6_copyFrom_33 rfl ?_
    refine am_getfield 34 dX6_copyFrom_34 fX6_15 (by repeat (first | assumption | exact am_ue | refine am_un (by first | assumption | decide | omega) ?_)) rfl ?_
    refine am_iload_n 37 dX6_copyFrom_37 rfl ?_
    refine am_iaload 38 dX6_copyFrom_38 rfl (by repeat (first | assumption | exact am_ue | refine am_un (by first | assumption | decide | omega) ?_)) (by first | assumption | exact vp_in_nI (by omega) (by decide)) ?_
    rw [nI_clamp (n := k) (by omega)]
    refine am_iastore 39 dX6_copyFrom_39 rfl (by repeat (first | assumption | exact am_ue | refine am_un (by first | assumption | decide | omega) ?_)) (by first | assumption | exact vp_in_nI (by omega) (by decide)) ?_
    rw [nI_clamp (n := k) (by omega), am_uu]
    refine am_iinc 40 (v := nI (k + 1)) dX6_copyFrom_40 rfl (nI_1 (k)) (by decide) ?_
    refine am_goto 43 (tgt := 10) dX6_copyFrom_43 rfl ?_
    refine ih (_, _) (fun j hj => ?_)
    by_cases e : j = k
    · subst e; exact ⟨am_up_eq, am_up_eq⟩
    · exact ⟨(am_up_ne e).trans (hw j (by omega)).1, (am_up_ne e).trans (hw j (by omega)).2⟩
end Sheet2
section Sheet3
variable {i a b n : Nat} {f : Nat → am_C} {w bs : Nat → Int32} {ht : Int32}
theorem s_addPress {x y : Nat} {s : Int32} (h0 : f i = .inr (6, [.ref a, .ref b, .int ht])) (h1 : f a = .inl (0, 48, .inl w)) (hia : i ≠ a) (hx : x < 8) (hy : y < 6) : AM mX6_addPress 0 0 [.ref i, .int (nI x), .int (nI y), .int s] n f (am_is none n (va_up f a (.inl (0, 48, .inl (m_press w s x y))))) := by
  show AW mX6_addPress 0 0 0 [some (.ref i), some (.int (nI x)), some (.int (nI y)), some (.int s), none, none, none] [] n f _
  refine am_iload_n 0 dX6_addPress_0 rfl ?_
  refine am_iconst 1 (v := 1) dX6_addPress_1 (by decide) ?_
  refine am_isub 2 dX6_addPress_2 ?_
  refine am_iconst 3 (v := 0) dX6_addPress_3 (by decide) ?_
  refine am_max 4 dX6_addPress_4 jX6_26 (by decide) (Nat.le_of_ble_eq_true rfl) ?_
  rw [am_lo1 (y := y) (by omega)]
  refine am_istore 7 dX6_addPress_7 (by decide) ?_
  have h := am_for (min (y + 1) 5 + 1) (fun r (z : (Option Value) × (Option Value)) => y ≤ r + 1) (fun r z => AW mX6_addPress 0 0 9 [some (.ref i), some (.int (nI x)), some (.int (nI y)), some (.int s), some (.int (nI r)), z.1, z.2] [] n (va_up f a (.inl (0, 48, .inl (m_pressTo w s x y r 0)))) (am_is none n (va_up f a (.inl (0, 48, .inl (m_press w s x y)))))) ?_ ?_ (y - 1) (none, none) (by omega) (by omega)
  · rw [m_pressTo_start, am_self h1] at h
    exact h
  · rintro ⟨z1, z2⟩ hlo
    refine am_iload 9 dX6_addPress_9 rfl ?_
    refine am_iload_n 11 dX6_addPress_11 rfl ?_
    refine am_iconst 12 (v := 1) dX6_addPress_12 (by decide) ?_
    refine am_iadd 13 dX6_addPress_13 ?_
    refine am_iconst 14 (v := 5) dX6_addPress_14 (by decide) ?_
    refine am_min 15 dX6_addPress_15 jX6_32 (by decide) (Nat.le_of_ble_eq_true rfl) ?_
    rw [show (5 : Int32) = nI 5 from rfl, am_hi1 5 (y := y) (by omega) (by decide)]
    refine am_icmp_gt 18 100 dX6_addPress_18 rfl (fun c18 => ?_) (fun c18 => absurd (nI_lt (by omega) (by omega)) c18)
    refine AW.ints (m_press w s x y) am_ue (fun j hj => m_pressTo_end hj) ?_
    rw [am_uu]
    exact am_return 100 dX6_addPress_100 rfl ⟨rfl, rfl, rfl⟩
  · rintro r ⟨z1, z2⟩ hr hlo ih
    refine am_iload 9 dX6_addPress_9 rfl ?_
    refine am_iload_n 11 dX6_addPress_11 rfl ?_
    refine am_iconst 12 (v := 1) dX6_addPress_12 (by decide) ?_
    refine am_iadd 13 dX6_addPress_13 ?_
    refine am_iconst 14 (v := 5) dX6_addPress_14 (by decide) ?_
    refine am_min 15 dX6_addPress_15 jX6_32 (by decide) (Nat.le_of_ble_eq_true rfl) ?_
    rw [show (5 : Int32) = nI 5 from rfl, am_hi1 5 (y := y) (by omega) (by decide)]
    refine am_icmp_gt 18 100 dX6_addPress_18 rfl (fun c18 => absurd c18 (nI_nlt (by omega) (by omega))) (fun c18 => ?_)
    refine am_iload_n 21 dX6_addPress_21 rfl ?_
    refine am_iconst 22 (v := 1) dX6_addPress_22 (by decide) ?_
    refine am_isub 23 dX6_addPress_23 ?_
    refine am_iconst 24 (v := 0) dX6_addPress_24 (by decide) ?_
    refine am_max 25 dX6_addPress_25 jX6_26 (by decide) (Nat.le_of_ble_eq_true rfl) ?_
    rw [am_lo1 (y := x) (by omega)]
    refine am_istore 28 dX6_addPress_28 (by decide) ?_
    have g := am_for (min (x + 1) 7 + 1) (fun c (z : Option Value) => x ≤ c + 1) (fun c z => AW mX6_addPress 0 0 30 [some (.ref i), some (.int (nI x)), some (.int (nI y)), some (.int s), some (.int (nI r)), some (.int (nI c)), z] [] n (va_up f a (.inl (0, 48, .inl (m_pressTo w s x y r c)))) (am_is none n (va_up f a (.inl (0, 48, .inl (m_press w s x y)))))) ?_ ?_ (x - 1) z2 (by omega) (by omega)
    · rw [m_pressTo_col] at g
      exact g
    · rintro z hlo2
      rw [m_pressTo_row]
      refine am_iload 30 dX6_addPress_30 rfl ?_
      refine am_iload_n 32 dX6_addPress_32 rfl ?_
      refine am_iconst 33 (v := 1) dX6_addPress_33 (by decide) ?_
      refine am_iadd 34 dX6_addPress_34 ?_
      refine am_bipush 35 (v := 7) dX6_addPress_35 (by decide) ?_
      refine am_min 37 dX6_addPress_37 jX6_32 (by decide) (Nat.le_of_ble_eq_true rfl) ?_
      rw [show (7 : Int32) = nI 7 from rfl, am_hi1 7 (y := x) (by omega) (by decide)]
      refine am_icmp_gt 40 94 dX6_addPress_40 rfl (fun c40 => ?_) (fun c40 => absurd (nI_lt (by omega) (by omega)) c40)
      refine am_iinc 94 (v := nI (r + 1)) dX6_addPress_94 rfl (nI_1 (r)) (by decide) ?_
      refine am_goto 97 (tgt := 9) dX6_addPress_97 rfl ?_
      exact ih (_, _) (by omega)
    · rintro c z hc hlo2 ih2
      refine am_iload 30 dX6_addPress_30 rfl ?_
      refine am_iload_n 32 dX6_addPress_32 rfl ?_
      refine am_iconst 33 (v := 1) dX6_addPress_33 (by decide) ?_
      refine am_iadd 34 dX6_addPress_34 ?_
      refine am_bipush 35 (v := 7) dX6_addPress_35 (by decide) ?_
      refine am_min 37 dX6_addPress_37 jX6_32 (by decide) (Nat.le_of_ble_eq_true rfl) ?_
      rw [show (7 : Int32) = nI 7 from rfl, am_hi1 7 (y := x) (by omega) (by decide)]
      refine am_icmp_gt 40 94 dX6_addPress_40 rfl (fun c40 => absurd c40 (nI_nlt (by omega) (by omega))) (fun c40 => ?_)
      refine am_iload 43 dX6_addPress_43 rfl ?_
      refine am_iload_n 45 dX6_addPress_45 rfl ?_
      refine am_icmp_ne 46 53 dX6_addPress_46 rfl (fun c46 => ?_) (fun c46 => ?_)
      · refine am_iconst 53 (v := 1) dX6_addPress_53 (by decide) ?_
        refine am_iload 54 dX6_addPress_54 rfl ?_
        refine am_iload_n 56 dX6_addPress_56 rfl ?_
        refine am_icmp_ne 57 64 dX6_addPress_57 rfl (fun c57 => ?_) (fun c57 => ?_)
        · refine am_iconst 64 (v := 1) dX6_addPress_64 (by decide) ?_
          refine am_iadd 65 dX6_addPress_65 ?_
          refine am_istore 66 dX6_addPress_66 (by decide) ?_
          refine am_aload_n 68 dX6_addPress_68 rfl ?_
          refine am_getfield 69 dX6_addPress_69 fX6_9 (by repeat (first | assumption | exact am_ue | refine am_un (by first | assumption | decide | omega) ?_)) rfl ?_
          refine am_iload 72 dX6_addPress_72 rfl ?_
          refine am_bipush 74 (v := 8) dX6_addPress_74 (by decide) ?_
          refine am_imul 76 dX6_addPress_76 ?_
          refine am_iload 77 dX6_addPress_77 rfl ?_
          refine am_iadd 79 dX6_addPress_79 ?_
          rw [am_cellN]
          refine am_dup2 80 dX6_addPress_80 rfl rfl ?_
          refine am_iaload 81 dX6_addPress_81 rfl (by repeat (first | assumption | exact am_ue | refine am_un (by first | assumption | decide | omega) ?_)) (am_ix (by omega) (by decide)) ?_
          rw [nI_clamp (n := 8 * r + c) (by omega)]
          refine am_iload_n 82 dX6_addPress_82 rfl ?_
          refine am_iload 83 dX6_addPress_83 rfl ?_
          refine am_ishr 85 dX6_addPress_85 ?_
          refine am_iadd 86 dX6_addPress_86 ?_
          refine am_iastore 87 dX6_addPress_87 rfl (by repeat (first | assumption | exact am_ue | refine am_un (by first | assumption | decide | omega) ?_)) (am_ix (by omega) (by decide)) ?_
          rw [am_uu, nI_clamp (n := 8 * r + c) (by omega)]
          have e9 := m_pressTo_step (w := w) (s := s) (x := x) (y := y) (r := r) (c := c) (by omega) (by omega) (by omega) (by omega) (by omega)
          have r9 : (r = y) ↔ (nI r = nI y) := (nI_eq (by omega) (by omega)).symm
          have q9 : (c = x) ↔ (nI c = nI x) := (nI_eq (by omega) (by omega)).symm
          simp only [r9, q9, c46, c57, if_true, if_false, ite_true, ite_false] at e9
          rw [e9]
          refine am_iinc 88 (v := nI (c + 1)) dX6_addPress_88 rfl (nI_1 (c)) (by decide) ?_
          refine am_goto 91 (tgt := 30) dX6_addPress_91 rfl ?_
          exact ih2 _ (by omega)
        · refine am_iconst 60 (v := 0) dX6_addPress_60 (by decide) ?_
          refine am_goto 61 (tgt := 65) dX6_addPress_61 rfl ?_
          refine am_iadd 65 dX6_addPress_65 ?_
          refine am_istore 66 dX6_addPress_66 (by decide) ?_
          refine am_aload_n 68 dX6_addPress_68 rfl ?_
          refine am_getfield 69 dX6_addPress_69 fX6_9 (by repeat (first | assumption | exact am_ue | refine am_un (by first | assumption | decide | omega) ?_)) rfl ?_
          refine am_iload 72 dX6_addPress_72 rfl ?_
          refine am_bipush 74 (v := 8) dX6_addPress_74 (by decide) ?_
          refine am_imul 76 dX6_addPress_76 ?_
          refine am_iload 77 dX6_addPress_77 rfl ?_
          refine am_iadd 79 dX6_addPress_79 ?_
          rw [am_cellN]
          refine am_dup2 80 dX6_addPress_80 rfl rfl ?_
          refine am_iaload 81 dX6_addPress_81 rfl (by repeat (first | assumption | exact am_ue | refine am_un (by first | assumption | decide | omega) ?_)) (am_ix (by omega) (by decide)) ?_
          rw [nI_clamp (n := 8 * r + c) (by omega)]
          refine am_iload_n 82 dX6_addPress_82 rfl ?_
          refine am_iload 83 dX6_addPress_83 rfl ?_
          refine am_ishr 85 dX6_addPress_85 ?_
          refine am_iadd 86 dX6_addPress_86 ?_
          refine am_iastore 87 dX6_addPress_87 rfl (by repeat (first | assumption | exact am_ue | refine am_un (by first | assumption | decide | omega) ?_)) (am_ix (by omega) (by decide)) ?_
          rw [am_uu, nI_clamp (n := 8 * r + c) (by omega)]
          have e9 := m_pressTo_step (w := w) (s := s) (x := x) (y := y) (r := r) (c := c) (by omega) (by omega) (by omega) (by omega) (by omega)
          have r9 : (r = y) ↔ (nI r = nI y) := (nI_eq (by omega) (by omega)).symm
          have q9 : (c = x) ↔ (nI c = nI x) := (nI_eq (by omega) (by omega)).symm
          simp only [r9, q9, c46, c57, if_true, if_false, ite_true, ite_false] at e9
          rw [e9]
          refine am_iinc 88 (v := nI (c + 1)) dX6_addPress_88 rfl (nI_1 (c)) (by decide) ?_
          refine am_goto 91 (tgt := 30) dX6_addPress_91 rfl ?_
          exact ih2 _ (by omega)
      · refine am_iconst 49 (v := 0) dX6_addPress_49 (by decide) ?_
        refine am_goto 50 (tgt := 54) dX6_addPress_50 rfl ?_
        refine am_iload 54 dX6_addPress_54 rfl ?_
        refine am_iload_n 56 dX6_addPress_56 rfl ?_
        refine am_icmp_ne 57 64 dX6_addPress_57 rfl (fun c57 => ?_) (fun c57 => ?_)
        · refine am_iconst 64 (v := 1) dX6_addPress_64 (by decide) ?_
          refine am_iadd 65 dX6_addPress_65 ?_
          refine am_istore 66 dX6_addPress_66 (by decide) ?_
          refine am_aload_n 68 dX6_addPress_68 rfl ?_
          refine am_getfield 69 dX6_addPress_69 fX6_9 (by repeat (first | assumption | exact am_ue | refine am_un (by first | assumption | decide | omega) ?_)) rfl ?_
          refine am_iload 72 dX6_addPress_72 rfl ?_
          refine am_bipush 74 (v := 8) dX6_addPress_74 (by decide) ?_
          refine am_imul 76 dX6_addPress_76 ?_
          refine am_iload 77 dX6_addPress_77 rfl ?_
          refine am_iadd 79 dX6_addPress_79 ?_
          rw [am_cellN]
          refine am_dup2 80 dX6_addPress_80 rfl rfl ?_
          refine am_iaload 81 dX6_addPress_81 rfl (by repeat (first | assumption | exact am_ue | refine am_un (by first | assumption | decide | omega) ?_)) (am_ix (by omega) (by decide)) ?_
          rw [nI_clamp (n := 8 * r + c) (by omega)]
          refine am_iload_n 82 dX6_addPress_82 rfl ?_
          refine am_iload 83 dX6_addPress_83 rfl ?_
          refine am_ishr 85 dX6_addPress_85 ?_
          refine am_iadd 86 dX6_addPress_86 ?_
          refine am_iastore 87 dX6_addPress_87 rfl (by repeat (first | assumption | exact am_ue | refine am_un (by first | assumption | decide | omega) ?_)) (am_ix (by omega) (by decide)) ?_
          rw [am_uu, nI_clamp (n := 8 * r + c) (by omega)]
          have e9 := m_pressTo_step (w := w) (s := s) (x := x) (y := y) (r := r) (c := c) (by omega) (by omega) (by omega) (by omega) (by omega)
          have r9 : (r = y) ↔ (nI r = nI y) := (nI_eq (by omega) (by omega)).symm
          have q9 : (c = x) ↔ (nI c = nI x) := (nI_eq (by omega) (by omega)).symm
          simp only [r9, q9, c46, c57, if_true, if_false, ite_true, ite_false] at e9
          rw [e9]
          refine am_iinc 88 (v := nI (c + 1)) dX6_addPress_88 rfl (nI_1 (c)) (by decide) ?_
          refine am_goto 91 (tgt := 30) dX6_addPress_91 rfl ?_
          exact ih2 _ (by omega)
        · refine am_iconst 60 (v := 0) dX6_addPress_60 (by decide) ?_
          refine am_goto 61 (tgt := 65) dX6_addPress_61 rfl ?_
          refine am_iadd 65 dX6_addPress_65 ?_
          refine am_istore 66 dX6_addPress_66 (by decide) ?_
          refine am_aload_n 68 dX6_addPress_68 rfl ?_
          refine am_getfield 69 dX6_addPress_69 fX6_9 (by repeat (first | assumption | exact am_ue | refine am_un (by first | assumption | decide | omega) ?_)) rfl ?_
          refine am_iload 72 dX6_addPress_72 rfl ?_
          refine am_bipush 74 (v := 8) dX6_addPress_74 (by decide) ?_
          refine am_imul 76 dX6_addPress_76 ?_
          refine am_iload 77 dX6_addPress_77 rfl ?_
          refine am_iadd 79 dX6_addPress_79 ?_
          rw [am_cellN]
          refine am_dup2 80 dX6_addPress_80 rfl rfl ?_
          refine am_iaload 81 dX6_addPress_81 rfl (by repeat (first | assumption | exact am_ue | refine am_un (by first | assumption | decide | omega) ?_)) (am_ix (by omega) (by decide)) ?_
          rw [nI_clamp (n := 8 * r + c) (by omega)]
          refine am_iload_n 82 dX6_addPress_82 rfl ?_
          refine am_iload 83 dX6_addPress_83 rfl ?_
          refine am_ishr 85 dX6_addPress_85 ?_
          refine am_iadd 86 dX6_addPress_86 ?_
          refine am_iastore 87 dX6_addPress_87 rfl (by repeat (first | assumption | exact am_ue | refine am_un (by first | assumption | decide | omega) ?_)) (am_ix (by omega) (by decide)) ?_
          rw [am_uu, nI_clamp (n := 8 * r + c) (by omega)]
          have e9 := m_pressTo_step (w := w) (s := s) (x := x) (y := y) (r := r) (c := c) (by omega) (by omega) (by omega) (by omega) (by omega)
          have r9 : (r = y) ↔ (nI r = nI y) := (nI_eq (by omega) (by omega)).symm
          have q9 : (c = x) ↔ (nI c = nI x) := (nI_eq (by omega) (by omega)).symm
          simp only [r9, q9, c46, c57, if_true, if_false, ite_true, ite_false] at e9
          rw [e9]
          refine am_iinc 88 (v := nI (c + 1)) dX6_addPress_88 rfl (nI_1 (c)) (by decide) ?_
          refine am_goto 91 (tgt := 30) dX6_addPress_91 rfl ?_
          exact ih2 _ (by omega)
end Sheet3
