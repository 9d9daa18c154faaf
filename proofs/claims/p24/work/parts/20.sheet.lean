/-! ===== Sheet ===== -/
theorem dX6_init_0 : decode cX6_init 0 = .ok (.aload_n 0, 1) := by decide +kernel
theorem dX6_init_1 : decode cX6_init 1 = .ok (.invokespecial 3, 3) := by decide +kernel
theorem dX6_init_4 : decode cX6_init 4 = .ok (.aload_n 0, 1) := by decide +kernel
theorem dX6_init_5 : decode cX6_init 5 = .ok (.bipush 48, 2) := by decide +kernel
theorem dX6_init_7 : decode cX6_init 7 = .ok (.newarray .int, 2) := by decide +kernel
theorem dX6_init_9 : decode cX6_init 9 = .ok (.putfield 9, 3) := by decide +kernel
theorem dX6_init_12 : decode cX6_init 12 = .ok (.aload_n 0, 1) := by decide +kernel
theorem dX6_init_13 : decode cX6_init 13 = .ok (.bipush 48, 2) := by decide +kernel
theorem dX6_init_15 : decode cX6_init 15 = .ok (.newarray .int, 2) := by decide +kernel
theorem dX6_init_17 : decode cX6_init 17 = .ok (.putfield 15, 3) := by decide +kernel
theorem dX6_init_20 : decode cX6_init 20 = .ok (.return_, 1) := by decide +kernel
theorem dX6_chargeOf_0 : decode cX6_chargeOf 0 = .ok (.aload_n 0, 1) := by decide +kernel
theorem dX6_chargeOf_1 : decode cX6_chargeOf 1 = .ok (.getfield 18, 3) := by decide +kernel
theorem dX6_chargeOf_4 : decode cX6_chargeOf 4 = .ok (.aload_n 0, 1) := by decide +kernel
theorem dX6_chargeOf_5 : decode cX6_chargeOf 5 = .ok (.getfield 9, 3) := by decide +kernel
theorem dX6_chargeOf_8 : decode cX6_chargeOf 8 = .ok (.iload_n 1, 1) := by decide +kernel
theorem dX6_chargeOf_9 : decode cX6_chargeOf 9 = .ok (.iaload, 1) := by decide +kernel
theorem dX6_chargeOf_10 : decode cX6_chargeOf 10 = .ok (.iadd, 1) := by decide +kernel
theorem dX6_chargeOf_11 : decode cX6_chargeOf 11 = .ok (.ireturn, 1) := by decide +kernel
theorem dX6_signalOf_0 : decode cX6_signalOf 0 = .ok (.aload_n 0, 1) := by decide +kernel
theorem dX6_signalOf_1 : decode cX6_signalOf 1 = .ok (.iload_n 1, 1) := by decide +kernel
theorem dX6_signalOf_2 : decode cX6_signalOf 2 = .ok (.invokevirtual 22, 3) := by decide +kernel
theorem dX6_signalOf_5 : decode cX6_signalOf 5 = .ok (.aload_n 0, 1) := by decide +kernel
theorem dX6_signalOf_6 : decode cX6_signalOf 6 = .ok (.getfield 15, 3) := by decide +kernel
theorem dX6_signalOf_9 : decode cX6_signalOf 9 = .ok (.iload_n 1, 1) := by decide +kernel
theorem dX6_signalOf_10 : decode cX6_signalOf 10 = .ok (.iaload, 1) := by decide +kernel
theorem dX6_signalOf_11 : decode cX6_signalOf 11 = .ok (.isub, 1) := by decide +kernel
theorem dX6_signalOf_12 : decode cX6_signalOf 12 = .ok (.ireturn, 1) := by decide +kernel
theorem dX6_addPress_0 : decode cX6_addPress 0 = .ok (.iload_n 2, 1) := by decide +kernel
theorem dX6_addPress_1 : decode cX6_addPress 1 = .ok (.iconst 1, 1) := by decide +kernel
theorem dX6_addPress_2 : decode cX6_addPress 2 = .ok (.isub, 1) := by decide +kernel
theorem dX6_addPress_3 : decode cX6_addPress 3 = .ok (.iconst 0, 1) := by decide +kernel
theorem dX6_addPress_4 : decode cX6_addPress 4 = .ok (.invokestatic 26, 3) := by decide +kernel
theorem dX6_addPress_7 : decode cX6_addPress 7 = .ok (.istore 4, 2) := by decide +kernel
theorem dX6_addPress_9 : decode cX6_addPress 9 = .ok (.iload 4, 2) := by decide +kernel
theorem dX6_addPress_11 : decode cX6_addPress 11 = .ok (.iload_n 2, 1) := by decide +kernel
theorem dX6_addPress_12 : decode cX6_addPress 12 = .ok (.iconst 1, 1) := by decide +kernel
theorem dX6_addPress_13 : decode cX6_addPress 13 = .ok (.iadd, 1) := by decide +kernel
theorem dX6_addPress_14 : decode cX6_addPress 14 = .ok (.iconst 5, 1) := by decide +kernel
theorem dX6_addPress_15 : decode cX6_addPress 15 = .ok (.invokestatic 32, 3) := by decide +kernel
theorem dX6_addPress_18 : decode cX6_addPress 18 = .ok (.if_icmp .gt 82, 3) := by decide +kernel
theorem dX6_addPress_21 : decode cX6_addPress 21 = .ok (.iload_n 1, 1) := by decide +kernel
theorem dX6_addPress_22 : decode cX6_addPress 22 = .ok (.iconst 1, 1) := by decide +kernel
theorem dX6_addPress_23 : decode cX6_addPress 23 = .ok (.isub, 1) := by decide +kernel
theorem dX6_addPress_24 : decode cX6_addPress 24 = .ok (.iconst 0, 1) := by decide +kernel
theorem dX6_addPress_25 : decode cX6_addPress 25 = .ok (.invokestatic 26, 3) := by decide +kernel
theorem dX6_addPress_28 : decode cX6_addPress 28 = .ok (.istore 5, 2) := by decide +kernel
theorem dX6_addPress_30 : decode cX6_addPress 30 = .ok (.iload 5, 2) := by decide +kernel
theorem dX6_addPress_32 : decode cX6_addPress 32 = .ok (.iload_n 1, 1) := by decide +kernel
theorem dX6_addPress_33 : decode cX6_addPress 33 = .ok (.iconst 1, 1) := by decide +kernel
theorem dX6_addPress_34 : decode cX6_addPress 34 = .ok (.iadd, 1) := by decide +kernel
theorem dX6_addPress_35 : decode cX6_addPress 35 = .ok (.bipush 7, 2) := by decide +kernel
theorem dX6_addPress_37 : decode cX6_addPress 37 = .ok (.invokestatic 32, 3) := by decide +kernel
theorem dX6_addPress_40 : decode cX6_addPress 40 = .ok (.if_icmp .gt 54, 3) := by decide +kernel
theorem dX6_addPress_43 : decode cX6_addPress 43 = .ok (.iload 4, 2) := by decide +kernel
theorem dX6_addPress_45 : decode cX6_addPress 45 = .ok (.iload_n 2, 1) := by decide +kernel
theorem dX6_addPress_46 : decode cX6_addPress 46 = .ok (.if_icmp .ne 7, 3) := by decide +kernel
theorem dX6_addPress_49 : decode cX6_addPress 49 = .ok (.iconst 0, 1) := by decide +kernel
theorem dX6_addPress_50 : decode cX6_addPress 50 = .ok (.goto 4, 3) := by decide +kernel
theorem dX6_addPress_53 : decode cX6_addPress 53 = .ok (.iconst 1, 1) := by decide +kernel
theorem dX6_addPress_54 : decode cX6_addPress 54 = .ok (.iload 5, 2) := by decide +kernel
theorem dX6_addPress_56 : decode cX6_addPress 56 = .ok (.iload_n 1, 1) := by decide +kernel
theorem dX6_addPress_57 : decode cX6_addPress 57 = .ok (.if_icmp .ne 7, 3) := by decide +kernel
theorem dX6_addPress_60 : decode cX6_addPress 60 = .ok (.iconst 0, 1) := by decide +kernel
theorem dX6_addPress_61 : decode cX6_addPress 61 = .ok (.goto 4, 3) := by decide +kernel
theorem dX6_addPress_64 : decode cX6_addPress 64 = .ok (.iconst 1, 1) := by decide +kernel
theorem dX6_addPress_65 : decode cX6_addPress 65 = .ok (.iadd, 1) := by decide +kernel
theorem dX6_addPress_66 : decode cX6_addPress 66 = .ok (.istore 6, 2) := by decide +kernel
theorem dX6_addPress_68 : decode cX6_addPress 68 = .ok (.aload_n 0, 1) := by decide +kernel
theorem dX6_addPress_69 : decode cX6_addPress 69 = .ok (.getfield 9, 3) := by decide +kernel
theorem dX6_addPress_72 : decode cX6_addPress 72 = .ok (.iload 4, 2) := by decide +kernel
theorem dX6_addPress_74 : decode cX6_addPress 74 = .ok (.bipush 8, 2) := by decide +kernel
theorem dX6_addPress_76 : decode cX6_addPress 76 = .ok (.imul, 1) := by decide +kernel
theorem dX6_addPress_77 : decode cX6_addPress 77 = .ok (.iload 5, 2) := by decide +kernel
theorem dX6_addPress_79 : decode cX6_addPress 79 = .ok (.iadd, 1) := by decide +kernel
theorem dX6_addPress_80 : decode cX6_addPress 80 = .ok (.dup2, 1) := by decide +kernel
theorem dX6_addPress_81 : decode cX6_addPress 81 = .ok (.iaload, 1) := by decide +kernel
theorem dX6_addPress_82 : decode cX6_addPress 82 = .ok (.iload_n 3, 1) := by decide +kernel
theorem dX6_addPress_83 : decode cX6_addPress 83 = .ok (.iload 6, 2) := by decide +kernel
theorem dX6_addPress_85 : decode cX6_addPress 85 = .ok (.ishr, 1) := by decide +kernel
theorem dX6_addPress_86 : decode cX6_addPress 86 = .ok (.iadd, 1) := by decide +kernel
theorem dX6_addPress_87 : decode cX6_addPress 87 = .ok (.iastore, 1) := by decide +kernel
theorem dX6_addPress_88 : decode cX6_addPress 88 = .ok (.iinc 5 1, 3) := by decide +kernel
theorem dX6_addPress_91 : decode cX6_addPress 91 = .ok (.goto (-61), 3) := by decide +kernel
theorem dX6_addPress_94 : decode cX6_addPress 94 = .ok (.iinc 4 1, 3) := by decide +kernel
theorem dX6_addPress_97 : decode cX6_addPress 97 = .ok (.goto (-88), 3) := by decide +kernel
theorem dX6_addPress_100 : decode cX6_addPress 100 = .ok (.return_, 1) := by decide +kernel
theorem dX6_addNoise_0 : decode cX6_addNoise 0 = .ok (.iconst 0, 1) := by decide +kernel
theorem dX6_addNoise_1 : decode cX6_addNoise 1 = .ok (.istore_n 3, 1) := by decide +kernel
theorem dX6_addNoise_2 : decode cX6_addNoise 2 = .ok (.iload_n 3, 1) := by decide +kernel
theorem dX6_addNoise_3 : decode cX6_addNoise 3 = .ok (.bipush 8, 2) := by decide +kernel
theorem dX6_addNoise_5 : decode cX6_addNoise 5 = .ok (.if_icmp .ge 24, 3) := by decide +kernel
theorem dX6_addNoise_8 : decode cX6_addNoise 8 = .ok (.aload_n 0, 1) := by decide +kernel
theorem dX6_addNoise_9 : decode cX6_addNoise 9 = .ok (.getfield 9, 3) := by decide +kernel
theorem dX6_addNoise_12 : decode cX6_addNoise 12 = .ok (.iload_n 1, 1) := by decide +kernel
theorem dX6_addNoise_13 : decode cX6_addNoise 13 = .ok (.bipush 8, 2) := by decide +kernel
theorem dX6_addNoise_15 : decode cX6_addNoise 15 = .ok (.imul, 1) := by decide +kernel
theorem dX6_addNoise_16 : decode cX6_addNoise 16 = .ok (.iload_n 3, 1) := by decide +kernel
theorem dX6_addNoise_17 : decode cX6_addNoise 17 = .ok (.iadd, 1) := by decide +kernel
theorem dX6_addNoise_18 : decode cX6_addNoise 18 = .ok (.dup2, 1) := by decide +kernel
theorem dX6_addNoise_19 : decode cX6_addNoise 19 = .ok (.iaload, 1) := by decide +kernel
theorem dX6_addNoise_20 : decode cX6_addNoise 20 = .ok (.iload_n 2, 1) := by decide +kernel
theorem dX6_addNoise_21 : decode cX6_addNoise 21 = .ok (.iadd, 1) := by decide +kernel
theorem dX6_addNoise_22 : decode cX6_addNoise 22 = .ok (.iastore, 1) := by decide +kernel
theorem dX6_addNoise_23 : decode cX6_addNoise 23 = .ok (.iinc 3 1, 3) := by decide +kernel
theorem dX6_addNoise_26 : decode cX6_addNoise 26 = .ok (.goto (-24), 3) := by decide +kernel
theorem dX6_addNoise_29 : decode cX6_addNoise 29 = .ok (.return_, 1) := by decide +kernel
theorem dX6_settle_0 : decode cX6_settle 0 = .ok (.iconst 0, 1) := by decide +kernel
theorem dX6_settle_1 : decode cX6_settle 1 = .ok (.istore_n 2, 1) := by decide +kernel
theorem dX6_settle_2 : decode cX6_settle 2 = .ok (.iload_n 2, 1) := by decide +kernel
theorem dX6_settle_3 : decode cX6_settle 3 = .ok (.bipush 48, 2) := by decide +kernel
theorem dX6_settle_5 : decode cX6_settle 5 = .ok (.if_icmp .ge 46, 3) := by decide +kernel
theorem dX6_settle_8 : decode cX6_settle 8 = .ok (.aload_n 1, 1) := by decide +kernel
theorem dX6_settle_9 : decode cX6_settle 9 = .ok (.iload_n 2, 1) := by decide +kernel
theorem dX6_settle_10 : decode cX6_settle 10 = .ok (.invokevirtual 35, 3) := by decide +kernel
theorem dX6_settle_13 : decode cX6_settle 13 = .ok (.ifCond .eq 14, 3) := by decide +kernel
theorem dX6_settle_16 : decode cX6_settle 16 = .ok (.aload_n 1, 1) := by decide +kernel
theorem dX6_settle_17 : decode cX6_settle 17 = .ok (.getfield 41, 3) := by decide +kernel
theorem dX6_settle_20 : decode cX6_settle 20 = .ok (.iload_n 2, 1) := by decide +kernel
theorem dX6_settle_21 : decode cX6_settle 21 = .ok (.iaload, 1) := by decide +kernel
theorem dX6_settle_22 : decode cX6_settle 22 = .ok (.bipush 14, 2) := by decide +kernel
theorem dX6_settle_24 : decode cX6_settle 24 = .ok (.if_icmp .le 21, 3) := by decide +kernel
theorem dX6_settle_27 : decode cX6_settle 27 = .ok (.aload_n 0, 1) := by decide +kernel
theorem dX6_settle_28 : decode cX6_settle 28 = .ok (.getfield 15, 3) := by decide +kernel
theorem dX6_settle_31 : decode cX6_settle 31 = .ok (.iload_n 2, 1) := by decide +kernel
theorem dX6_settle_32 : decode cX6_settle 32 = .ok (.dup2, 1) := by decide +kernel
theorem dX6_settle_33 : decode cX6_settle 33 = .ok (.iaload, 1) := by decide +kernel
theorem dX6_settle_34 : decode cX6_settle 34 = .ok (.aload_n 1, 1) := by decide +kernel
theorem dX6_settle_35 : decode cX6_settle 35 = .ok (.getfield 44, 3) := by decide +kernel
theorem dX6_settle_38 : decode cX6_settle 38 = .ok (.iload_n 2, 1) := by decide +kernel
theorem dX6_settle_39 : decode cX6_settle 39 = .ok (.iaload, 1) := by decide +kernel
theorem dX6_settle_40 : decode cX6_settle 40 = .ok (.invokestatic 47, 3) := by decide +kernel
theorem dX6_settle_43 : decode cX6_settle 43 = .ok (.iadd, 1) := by decide +kernel
theorem dX6_settle_44 : decode cX6_settle 44 = .ok (.iastore, 1) := by decide +kernel
theorem dX6_settle_45 : decode cX6_settle 45 = .ok (.iinc 2 1, 3) := by decide +kernel
theorem dX6_settle_48 : decode cX6_settle 48 = .ok (.goto (-46), 3) := by decide +kernel
theorem dX6_settle_51 : decode cX6_settle 51 = .ok (.return_, 1) := by decide +kernel
theorem dX6_stepFor_0 : decode cX6_stepFor 0 = .ok (.iload_n 0, 1) := by decide +kernel
theorem dX6_stepFor_1 : decode cX6_stepFor 1 = .ok (.bipush (-10), 2) := by decide +kernel
theorem dX6_stepFor_3 : decode cX6_stepFor 3 = .ok (.if_icmp .gt 6, 3) := by decide +kernel
theorem dX6_stepFor_6 : decode cX6_stepFor 6 = .ok (.bipush (-4), 2) := by decide +kernel
theorem dX6_stepFor_8 : decode cX6_stepFor 8 = .ok (.ireturn, 1) := by decide +kernel
theorem dX6_stepFor_9 : decode cX6_stepFor 9 = .ok (.iload_n 0, 1) := by decide +kernel
theorem dX6_stepFor_10 : decode cX6_stepFor 10 = .ok (.bipush 10, 2) := by decide +kernel
theorem dX6_stepFor_12 : decode cX6_stepFor 12 = .ok (.if_icmp .lt 5, 3) := by decide +kernel
theorem dX6_stepFor_15 : decode cX6_stepFor 15 = .ok (.iconst 4, 1) := by decide +kernel
theorem dX6_stepFor_16 : decode cX6_stepFor 16 = .ok (.ireturn, 1) := by decide +kernel
theorem dX6_stepFor_17 : decode cX6_stepFor 17 = .ok (.iload_n 0, 1) := by decide +kernel
theorem dX6_stepFor_18 : decode cX6_stepFor 18 = .ok (.iconst 0, 1) := by decide +kernel
theorem dX6_stepFor_19 : decode cX6_stepFor 19 = .ok (.invokestatic 50, 3) := by decide +kernel
theorem dX6_stepFor_22 : decode cX6_stepFor 22 = .ok (.ireturn, 1) := by decide +kernel
theorem dX6_forgetWaits_0 : decode cX6_forgetWaits 0 = .ok (.iconst 0, 1) := by decide +kernel
theorem dX6_forgetWaits_1 : decode cX6_forgetWaits 1 = .ok (.istore_n 1, 1) := by decide +kernel
theorem dX6_forgetWaits_2 : decode cX6_forgetWaits 2 = .ok (.iload_n 1, 1) := by decide +kernel
theorem dX6_forgetWaits_3 : decode cX6_forgetWaits 3 = .ok (.bipush 48, 2) := by decide +kernel
theorem dX6_forgetWaits_5 : decode cX6_forgetWaits 5 = .ok (.if_icmp .ge 16, 3) := by decide +kernel
theorem dX6_forgetWaits_8 : decode cX6_forgetWaits 8 = .ok (.aload_n 0, 1) := by decide +kernel
theorem dX6_forgetWaits_9 : decode cX6_forgetWaits 9 = .ok (.getfield 9, 3) := by decide +kernel
theorem dX6_forgetWaits_12 : decode cX6_forgetWaits 12 = .ok (.iload_n 1, 1) := by decide +kernel
theorem dX6_forgetWaits_13 : decode cX6_forgetWaits 13 = .ok (.iconst 0, 1) := by decide +kernel
theorem dX6_forgetWaits_14 : decode cX6_forgetWaits 14 = .ok (.iastore, 1) := by decide +kernel
theorem dX6_forgetWaits_15 : decode cX6_forgetWaits 15 = .ok (.iinc 1 1, 3) := by decide +kernel
theorem dX6_forgetWaits_18 : decode cX6_forgetWaits 18 = .ok (.goto (-16), 3) := by decide +kernel
theorem dX6_forgetWaits_21 : decode cX6_forgetWaits 21 = .ok (.return_, 1) := by decide +kernel
theorem dX6_baseOnHeat_0 : decode cX6_baseOnHeat 0 = .ok (.iconst 0, 1) := by decide +kernel
theorem dX6_baseOnHeat_1 : decode cX6_baseOnHeat 1 = .ok (.istore_n 1, 1) := by decide +kernel
theorem dX6_baseOnHeat_2 : decode cX6_baseOnHeat 2 = .ok (.iload_n 1, 1) := by decide +kernel
theorem dX6_baseOnHeat_3 : decode cX6_baseOnHeat 3 = .ok (.bipush 48, 2) := by decide +kernel
theorem dX6_baseOnHeat_5 : decode cX6_baseOnHeat 5 = .ok (.if_icmp .ge 19, 3) := by decide +kernel
theorem dX6_baseOnHeat_8 : decode cX6_baseOnHeat 8 = .ok (.aload_n 0, 1) := by decide +kernel
theorem dX6_baseOnHeat_9 : decode cX6_baseOnHeat 9 = .ok (.getfield 15, 3) := by decide +kernel
theorem dX6_baseOnHeat_12 : decode cX6_baseOnHeat 12 = .ok (.iload_n 1, 1) := by decide +kernel
theorem dX6_baseOnHeat_13 : decode cX6_baseOnHeat 13 = .ok (.aload_n 0, 1) := by decide +kernel
theorem dX6_baseOnHeat_14 : decode cX6_baseOnHeat 14 = .ok (.getfield 18, 3) := by decide +kernel
theorem dX6_baseOnHeat_17 : decode cX6_baseOnHeat 17 = .ok (.iastore, 1) := by decide +kernel
theorem dX6_baseOnHeat_18 : decode cX6_baseOnHeat 18 = .ok (.iinc 1 1, 3) := by decide +kernel
theorem dX6_baseOnHeat_21 : decode cX6_baseOnHeat 21 = .ok (.goto (-19), 3) := by decide +kernel
theorem dX6_baseOnHeat_24 : decode cX6_baseOnHeat 24 = .ok (.return_, 1) := by decide +kernel
theorem dX6_copyFrom_0 : decode cX6_copyFrom 0 = .ok (.aload_n 0, 1) := by decide +kernel
theorem dX6_copyFrom_1 : decode cX6_copyFrom 1 = .ok (.aload_n 1, 1) := by decide +kernel
theorem dX6_copyFrom_2 : decode cX6_copyFrom 2 = .ok (.getfield 18, 3) := by decide +kernel
theorem dX6_copyFrom_5 : decode cX6_copyFrom 5 = .ok (.putfield 18, 3) := by decide +kernel
theorem dX6_copyFrom_8 : decode cX6_copyFrom 8 = .ok (.iconst 0, 1) := by decide +kernel
theorem dX6_copyFrom_9 : decode cX6_copyFrom 9 = .ok (.istore_n 2, 1) := by decide +kernel
theorem dX6_copyFrom_10 : decode cX6_copyFrom 10 = .ok (.iload_n 2, 1) := by decide +kernel
theorem dX6_copyFrom_11 : decode cX6_copyFrom 11 = .ok (.bipush 48, 2) := by decide +kernel
theorem dX6_copyFrom_13 : decode cX6_copyFrom 13 = .ok (.if_icmp .ge 33, 3) := by decide +kernel
theorem dX6_copyFrom_16 : decode cX6_copyFrom 16 = .ok (.aload_n 0, 1) := by decide +kernel
theorem dX6_copyFrom_17 : decode cX6_copyFrom 17 = .ok (.getfield 9, 3) := by decide +kernel
theorem dX6_copyFrom_20 : decode cX6_copyFrom 20 = .ok (.iload_n 2, 1) := by decide +kernel
theorem dX6_copyFrom_21 : decode cX6_copyFrom 21 = .ok (.aload_n 1, 1) := by decide +kernel
theorem dX6_copyFrom_22 : decode cX6_copyFrom 22 = .ok (.getfield 9, 3) := by decide +kernel
theorem dX6_copyFrom_25 : decode cX6_copyFrom 25 = .ok (.iload_n 2, 1) := by decide +kernel
theorem dX6_copyFrom_26 : decode cX6_copyFrom 26 = .ok (.iaload, 1) := by decide +kernel
theorem dX6_copyFrom_27 : decode cX6_copyFrom 27 = .ok (.iastore, 1) := by decide +kernel
theorem dX6_copyFrom_28 : decode cX6_copyFrom 28 = .ok (.aload_n 0, 1) := by decide +kernel
theorem dX6_copyFrom_29 : decode cX6_copyFrom 29 = .ok (.getfield 15, 3) := by decide +kernel
theorem dX6_copyFrom_32 : decode cX6_copyFrom 32 = .ok (.iload_n 2, 1) := by decide +kernel
theorem dX6_copyFrom_33 : decode cX6_copyFrom 33 = .ok (.aload_n 1, 1) := by decide +kernel
theorem dX6_copyFrom_34 : decode cX6_copyFrom 34 = .ok (.getfield 15, 3) := by decide +kernel
theorem dX6_copyFrom_37 : decode cX6_copyFrom 37 = .ok (.iload_n 2, 1) := by decide +kernel
theorem dX6_copyFrom_38 : decode cX6_copyFrom 38 = .ok (.iaload, 1) := by decide +kernel
theorem dX6_copyFrom_39 : decode cX6_copyFrom 39 = .ok (.iastore, 1) := by decide +kernel
theorem dX6_copyFrom_40 : decode cX6_copyFrom 40 = .ok (.iinc 2 1, 3) := by decide +kernel
theorem dX6_copyFrom_43 : decode cX6_copyFrom 43 = .ok (.goto (-33), 3) := by decide +kernel
theorem dX6_copyFrom_46 : decode cX6_copyFrom 46 = .ok (.return_, 1) := by decide +kernel
section Sheet
variable {i a b n : Nat} {f : Nat → am_C} {w bs : Nat → Int32} {ht : Int32}
theorem s_chargeOf {c : Nat} (h0 : f i = .inr (6, [.ref a, .ref b, .int ht])) (h1 : f a = .inl (0, 48, .inl w)) (hc : c < 48) : AM mX6_chargeOf 0 0 [.ref i, .int (nI c)] n f (am_is (some (.int (ht + w c))) n f) := by
  show AW mX6_chargeOf 0 0 0 [some (.ref i), some (.int (nI c))] [] n f _
  refine am_aload_n 0 dX6_chargeOf_0 rfl ?_
  refine am_getfield 1 dX6_chargeOf_1 fX6_18 (by repeat (first | assumption | exact am_ue | refine am_un (by first | assumption | decide | omega) ?_)) rfl ?_
  refine am_aload_n 4 dX6_chargeOf_4 rfl ?_
  refine am_getfield 5 dX6_chargeOf_5 fX6_9 (by repeat (first | assumption | exact am_ue | refine am_un (by first | assumption | decide | omega) ?_)) rfl ?_
  refine am_iload_n 8 dX6_chargeOf_8 rfl ?_
  refine am_iaload 9 dX6_chargeOf_9 rfl (by repeat (first | assumption | exact am_ue | refine am_un (by first | assumption | decide | omega) ?_)) (by first | assumption | exact vp_in_nI (by omega) (by decide)) ?_
  rw [nI_clamp (n := c) (by omega)]
  refine am_iadd 10 dX6_chargeOf_10 ?_
  exact am_ireturn 11 dX6_chargeOf_11 rfl rfl ⟨rfl, rfl, rfl⟩
theorem s_signalOf {c : Nat} (h0 : f i = .inr (6, [.ref a, .ref b, .int ht])) (h1 : f a = .inl (0, 48, .inl w)) (h2 : f b = .inl (0, 48, .inl bs)) (hc : c < 48) : AM mX6_signalOf 0 0 [.ref i, .int (nI c)] n f (am_is (some (.int (ht + w c - bs c))) n f) := by
  show AW mX6_signalOf 0 0 0 [some (.ref i), some (.int (nI c))] [] n f _
  refine am_aload_n 0 dX6_signalOf_0 rfl ?_
  refine am_iload_n 1 dX6_signalOf_1 rfl ?_
  refine am_V1 2 (mc' := 0) (ms' := 0) (rc := 0) (rs := 0) dX6_signalOf_2 lX6_22 ⟨by decide, by decide⟩ (by repeat (first | assumption | exact am_ue | refine am_un (by first | assumption | decide | omega) ?_)) (Nat.le_of_ble_eq_true rfl) (Nat.le_of_ble_eq_true rfl) (s_chargeOf h0 h1 hc) ?_
  refine am_is_ct ?_
  refine am_aload_n 5 dX6_signalOf_5 rfl ?_
  refine am_getfield 6 dX6_signalOf_6 fX6_15 (by repeat (first | assumption | exact am_ue | refine am_un (by first | assumption | decide | omega) ?_)) rfl ?_
  refine am_iload_n 9 dX6_signalOf_9 rfl ?_
  refine am_iaload 10 dX6_signalOf_10 rfl (by repeat (first | assumption | exact am_ue | refine am_un (by first | assumption | decide | omega) ?_)) (by first | assumption | exact vp_in_nI (by omega) (by decide)) ?_
  rw [nI_clamp (n := c) (by omega)]
  refine am_isub 11 dX6_signalOf_11 ?_
  exact am_ireturn 12 dX6_signalOf_12 rfl rfl ⟨rfl, rfl, rfl⟩
theorem s_forgetWaits (h0 : f i = .inr (6, [.ref a, .ref b, .int ht])) (h1 : f a = .inl (0, 48, .inl w)) (hia : i ≠ a) : AM mX6_forgetWaits 0 0 [.ref i] n f (am_is none n (va_up f a (.inl (0, 48, .inl (fun _ => 0))))) := by
  show AW mX6_forgetWaits 0 0 0 [some (.ref i), none] [] n f _
  refine am_iconst 0 (v := 0) dX6_forgetWaits_0 (by decide) ?_
  refine am_istore_n 1 dX6_forgetWaits_1 (by decide) ?_
  have h := am_for 48 (fun k (w' : Nat → Int32) => ∀ j, j < k → w' j = 0) (fun k w' => AW mX6_forgetWaits 0 0 2 [some (.ref i), some (.int (nI k))] [] n (va_up f a (.inl (0, 48, .inl w'))) (am_is none n (va_up f a (.inl (0, 48, .inl (fun _ => 0)))))) ?_ ?_ 0 w (by omega) (fun j hj => by omega)
  · rw [am_self h1] at h
    exact h
  · intro w' hw
    refine am_iload_n 2 dX6_forgetWaits_2 rfl ?_
    refine am_bipush 3 (v := 48) dX6_forgetWaits_3 (by decide) ?_
    refine am_icmp_ge 5 21 dX6_forgetWaits_5 rfl (fun c5 => ?_) (fun c5 => absurd (by decide) c5)
    refine AW.ints (fun _ => 0) am_ue hw ?_
    rw [am_uu]
    exact am_return 21 dX6_forgetWaits_21 rfl ⟨rfl, rfl, rfl⟩
  · intro k w' hk hw ih
    refine am_iload_n 2 dX6_forgetWaits_2 rfl ?_
    refine am_bipush 3 (v := 48) dX6_forgetWaits_3 (by decide) ?_
    refine am_icmp_ge 5 21 dX6_forgetWaits_5 rfl (fun c5 => absurd c5 (nI_ge hk (by decide))) (fun c5 => ?_)
    refine am_aload_n 8 dX6_forgetWaits_8 rfl ?_
    refine am_getfield 9 dX6_forgetWaits_9 fX6_9 (by repeat (first | assumption | exact am_ue | refine am_un (by first | assumption | decide | omega) ?_)) rfl ?_
    refine am_iload_n 12 dX6_forgetWaits_12 rfl ?_
    refine am_iconst 13 (v := 0) dX6_forgetWaits_13 (by decide) ?_
    refine am_iastore 14 dX6_forgetWaits_14 rfl (by repeat (first | assumption | exact am_ue | refine am_un (by first | assumption | decide | omega) ?_)) (by first | assumption | exact vp_in_nI (by omega) (by decide)) ?_
    rw [am_uu, nI_clamp (n := k) (by omega)]
    refine am_iinc 15 (v := nI (k + 1)) dX6_forgetWaits_15 rfl (nI_1 k) (by decide) ?_
    refine am_goto 18 (tgt := 2) dX6_forgetWaits_18 rfl ?_
    refine ih _ (fun j hj => ?_)
    by_cases e : j = k
    · rw [e, am_up_eq]
    · rw [am_up_ne e, hw j (by omega)]
end Sheet
