theorem dX0_init_0 : decode cX0_init 0 = .ok (.aload_n 0, 1) := by decide +kernel
theorem dX0_init_1 : decode cX0_init 1 = .ok (.invokespecial 3, 3) := by decide +kernel
theorem dX0_init_4 : decode cX0_init 4 = .ok (.aload_n 0, 1) := by decide +kernel
theorem dX0_init_5 : decode cX0_init 5 = .ok (.sipush 280, 3) := by decide +kernel
theorem dX0_init_8 : decode cX0_init 8 = .ok (.newarray .int, 2) := by decide +kernel
theorem dX0_init_10 : decode cX0_init 10 = .ok (.putfield 9, 3) := by decide +kernel
theorem dX0_init_13 : decode cX0_init 13 = .ok (.aload_n 0, 1) := by decide +kernel
theorem dX0_init_14 : decode cX0_init 14 = .ok (.iconst 0, 1) := by decide +kernel
theorem dX0_init_15 : decode cX0_init 15 = .ok (.putfield 15, 3) := by decide +kernel
theorem dX0_init_18 : decode cX0_init 18 = .ok (.aload_n 0, 1) := by decide +kernel
theorem dX0_init_19 : decode cX0_init 19 = .ok (.iconst 0, 1) := by decide +kernel
theorem dX0_init_20 : decode cX0_init 20 = .ok (.putfield 19, 3) := by decide +kernel
theorem dX0_init_23 : decode cX0_init 23 = .ok (.aload_n 0, 1) := by decide +kernel
theorem dX0_init_24 : decode cX0_init 24 = .ok (.iconst 0, 1) := by decide +kernel
theorem dX0_init_25 : decode cX0_init 25 = .ok (.putfield 22, 3) := by decide +kernel
theorem dX0_init_28 : decode cX0_init 28 = .ok (.aload_n 0, 1) := by decide +kernel
theorem dX0_init_29 : decode cX0_init 29 = .ok (.iconst 0, 1) := by decide +kernel
theorem dX0_init_30 : decode cX0_init 30 = .ok (.putfield 25, 3) := by decide +kernel
theorem dX0_init_33 : decode cX0_init 33 = .ok (.return_, 1) := by decide +kernel
theorem dX0_setAt_0 : decode cX0_setAt 0 = .ok (.aload_n 0, 1) := by decide +kernel
theorem dX0_setAt_1 : decode cX0_setAt 1 = .ok (.getfield 9, 3) := by decide +kernel
theorem dX0_setAt_4 : decode cX0_setAt 4 = .ok (.iconst 0, 1) := by decide +kernel
theorem dX0_setAt_5 : decode cX0_setAt 5 = .ok (.invokestatic 29, 3) := by decide +kernel
theorem dX0_setAt_8 : decode cX0_setAt 8 = .ok (.iload_n 1, 1) := by decide +kernel
theorem dX0_setAt_9 : decode cX0_setAt 9 = .ok (.ifCond .lt 18, 3) := by decide +kernel
theorem dX0_setAt_12 : decode cX0_setAt 12 = .ok (.iload_n 1, 1) := by decide +kernel
theorem dX0_setAt_13 : decode cX0_setAt 13 = .ok (.sipush 280, 3) := by decide +kernel
theorem dX0_setAt_16 : decode cX0_setAt 16 = .ok (.if_icmp .ge 11, 3) := by decide +kernel
theorem dX0_setAt_19 : decode cX0_setAt 19 = .ok (.aload_n 0, 1) := by decide +kernel
theorem dX0_setAt_20 : decode cX0_setAt 20 = .ok (.getfield 9, 3) := by decide +kernel
theorem dX0_setAt_23 : decode cX0_setAt 23 = .ok (.iload_n 1, 1) := by decide +kernel
theorem dX0_setAt_24 : decode cX0_setAt 24 = .ok (.ldc 35, 2) := by decide +kernel
theorem dX0_setAt_26 : decode cX0_setAt 26 = .ok (.iastore, 1) := by decide +kernel
theorem dX0_setAt_27 : decode cX0_setAt 27 = .ok (.aload_n 0, 1) := by decide +kernel
theorem dX0_setAt_28 : decode cX0_setAt 28 = .ok (.iload_n 2, 1) := by decide +kernel
theorem dX0_setAt_29 : decode cX0_setAt 29 = .ok (.putfield 15, 3) := by decide +kernel
theorem dX0_setAt_32 : decode cX0_setAt 32 = .ok (.aload_n 0, 1) := by decide +kernel
theorem dX0_setAt_33 : decode cX0_setAt 33 = .ok (.iconst 0, 1) := by decide +kernel
theorem dX0_setAt_34 : decode cX0_setAt 34 = .ok (.putfield 19, 3) := by decide +kernel
theorem dX0_setAt_37 : decode cX0_setAt 37 = .ok (.aload_n 0, 1) := by decide +kernel
theorem dX0_setAt_38 : decode cX0_setAt 38 = .ok (.iconst 0, 1) := by decide +kernel
theorem dX0_setAt_39 : decode cX0_setAt 39 = .ok (.putfield 22, 3) := by decide +kernel
theorem dX0_setAt_42 : decode cX0_setAt 42 = .ok (.return_, 1) := by decide +kernel
theorem dX0_goOn_0 : decode cX0_goOn 0 = .ok (.aload_n 0, 1) := by decide +kernel
theorem dX0_goOn_1 : decode cX0_goOn 1 = .ok (.getfield 25, 3) := by decide +kernel
theorem dX0_goOn_4 : decode cX0_goOn 4 = .ok (.ifCond .eq 4, 3) := by decide +kernel
theorem dX0_goOn_7 : decode cX0_goOn 7 = .ok (.return_, 1) := by decide +kernel
theorem dX0_goOn_8 : decode cX0_goOn 8 = .ok (.aload_n 0, 1) := by decide +kernel
theorem dX0_goOn_9 : decode cX0_goOn 9 = .ok (.aload_n 1, 1) := by decide +kernel
theorem dX0_goOn_10 : decode cX0_goOn 10 = .ok (.aload_n 2, 1) := by decide +kernel
theorem dX0_goOn_11 : decode cX0_goOn 11 = .ok (.invokevirtual 36, 3) := by decide +kernel
theorem dX0_goOn_14 : decode cX0_goOn 14 = .ok (.aload_n 0, 1) := by decide +kernel
theorem dX0_goOn_15 : decode cX0_goOn 15 = .ok (.aload_n 1, 1) := by decide +kernel
theorem dX0_goOn_16 : decode cX0_goOn 16 = .ok (.aload_n 2, 1) := by decide +kernel
theorem dX0_goOn_17 : decode cX0_goOn 17 = .ok (.invokevirtual 40, 3) := by decide +kernel
theorem dX0_goOn_20 : decode cX0_goOn 20 = .ok (.aload_n 0, 1) := by decide +kernel
theorem dX0_goOn_21 : decode cX0_goOn 21 = .ok (.aload_n 1, 1) := by decide +kernel
theorem dX0_goOn_22 : decode cX0_goOn 22 = .ok (.invokevirtual 43, 3) := by decide +kernel
theorem dX0_goOn_25 : decode cX0_goOn 25 = .ok (.aload_n 0, 1) := by decide +kernel
theorem dX0_goOn_26 : decode cX0_goOn 26 = .ok (.dup, 1) := by decide +kernel
theorem dX0_goOn_27 : decode cX0_goOn 27 = .ok (.getfield 19, 3) := by decide +kernel
theorem dX0_goOn_30 : decode cX0_goOn 30 = .ok (.iconst 1, 1) := by decide +kernel
theorem dX0_goOn_31 : decode cX0_goOn 31 = .ok (.iadd, 1) := by decide +kernel
theorem dX0_goOn_32 : decode cX0_goOn 32 = .ok (.putfield 19, 3) := by decide +kernel
theorem dX0_goOn_35 : decode cX0_goOn 35 = .ok (.return_, 1) := by decide +kernel
theorem dX0_drift_0 : decode cX0_drift 0 = .ok (.aload_n 2, 1) := by decide +kernel
theorem dX0_drift_1 : decode cX0_drift 1 = .ok (.iconst 0, 1) := by decide +kernel
theorem dX0_drift_2 : decode cX0_drift 2 = .ok (.invokestatic 29, 3) := by decide +kernel
theorem dX0_drift_5 : decode cX0_drift 5 = .ok (.iconst 0, 1) := by decide +kernel
theorem dX0_drift_6 : decode cX0_drift 6 = .ok (.istore_n 3, 1) := by decide +kernel
theorem dX0_drift_7 : decode cX0_drift 7 = .ok (.iload_n 3, 1) := by decide +kernel
theorem dX0_drift_8 : decode cX0_drift 8 = .ok (.sipush 280, 3) := by decide +kernel
theorem dX0_drift_11 : decode cX0_drift 11 = .ok (.if_icmp .ge 96, 3) := by decide +kernel
theorem dX0_drift_14 : decode cX0_drift 14 = .ok (.aload_n 0, 1) := by decide +kernel
theorem dX0_drift_15 : decode cX0_drift 15 = .ok (.getfield 9, 3) := by decide +kernel
theorem dX0_drift_18 : decode cX0_drift 18 = .ok (.iload_n 3, 1) := by decide +kernel
theorem dX0_drift_19 : decode cX0_drift 19 = .ok (.iaload, 1) := by decide +kernel
theorem dX0_drift_20 : decode cX0_drift 20 = .ok (.ifCond .le 81, 3) := by decide +kernel
theorem dX0_drift_23 : decode cX0_drift 23 = .ok (.iload_n 3, 1) := by decide +kernel
theorem dX0_drift_24 : decode cX0_drift 24 = .ok (.bipush 20, 2) := by decide +kernel
theorem dX0_drift_26 : decode cX0_drift 26 = .ok (.irem, 1) := by decide +kernel
theorem dX0_drift_27 : decode cX0_drift 27 = .ok (.aload_n 1, 1) := by decide +kernel
theorem dX0_drift_28 : decode cX0_drift 28 = .ok (.getfield 47, 3) := by decide +kernel
theorem dX0_drift_31 : decode cX0_drift 31 = .ok (.iload_n 3, 1) := by decide +kernel
theorem dX0_drift_32 : decode cX0_drift 32 = .ok (.iaload, 1) := by decide +kernel
theorem dX0_drift_33 : decode cX0_drift 33 = .ok (.iadd, 1) := by decide +kernel
theorem dX0_drift_34 : decode cX0_drift 34 = .ok (.iload_n 3, 1) := by decide +kernel
theorem dX0_drift_35 : decode cX0_drift 35 = .ok (.bipush 20, 2) := by decide +kernel
theorem dX0_drift_37 : decode cX0_drift 37 = .ok (.idiv, 1) := by decide +kernel
theorem dX0_drift_38 : decode cX0_drift 38 = .ok (.aload_n 1, 1) := by decide +kernel
theorem dX0_drift_39 : decode cX0_drift 39 = .ok (.getfield 52, 3) := by decide +kernel
theorem dX0_drift_42 : decode cX0_drift 42 = .ok (.iload_n 3, 1) := by decide +kernel
theorem dX0_drift_43 : decode cX0_drift 43 = .ok (.iaload, 1) := by decide +kernel
theorem dX0_drift_44 : decode cX0_drift 44 = .ok (.iadd, 1) := by decide +kernel
theorem dX0_drift_45 : decode cX0_drift 45 = .ok (.invokestatic 55, 3) := by decide +kernel
theorem dX0_drift_48 : decode cX0_drift 48 = .ok (.istore 4, 2) := by decide +kernel
theorem dX0_drift_50 : decode cX0_drift 50 = .ok (.iload 4, 2) := by decide +kernel
theorem dX0_drift_52 : decode cX0_drift 52 = .ok (.iconst (-1), 1) := by decide +kernel
theorem dX0_drift_53 : decode cX0_drift 53 = .ok (.if_icmp .ne 21, 3) := by decide +kernel
theorem dX0_drift_56 : decode cX0_drift 56 = .ok (.aload_n 0, 1) := by decide +kernel
theorem dX0_drift_57 : decode cX0_drift 57 = .ok (.dup, 1) := by decide +kernel
theorem dX0_drift_58 : decode cX0_drift 58 = .ok (.getfield 22, 3) := by decide +kernel
theorem dX0_drift_61 : decode cX0_drift 61 = .ok (.aload_n 0, 1) := by decide +kernel
theorem dX0_drift_62 : decode cX0_drift 62 = .ok (.getfield 9, 3) := by decide +kernel
theorem dX0_drift_65 : decode cX0_drift 65 = .ok (.iload_n 3, 1) := by decide +kernel
theorem dX0_drift_66 : decode cX0_drift 66 = .ok (.iaload, 1) := by decide +kernel
theorem dX0_drift_67 : decode cX0_drift 67 = .ok (.iadd, 1) := by decide +kernel
theorem dX0_drift_68 : decode cX0_drift 68 = .ok (.putfield 22, 3) := by decide +kernel
theorem dX0_drift_71 : decode cX0_drift 71 = .ok (.goto 30, 3) := by decide +kernel
theorem dX0_drift_74 : decode cX0_drift 74 = .ok (.aload_n 2, 1) := by decide +kernel
theorem dX0_drift_75 : decode cX0_drift 75 = .ok (.aload_n 1, 1) := by decide +kernel
theorem dX0_drift_76 : decode cX0_drift 76 = .ok (.getfield 59, 3) := by decide +kernel
theorem dX0_drift_79 : decode cX0_drift 79 = .ok (.iload 4, 2) := by decide +kernel
theorem dX0_drift_81 : decode cX0_drift 81 = .ok (.baload, 1) := by decide +kernel
theorem dX0_drift_82 : decode cX0_drift 82 = .ok (.ifCond .eq 7, 3) := by decide +kernel
theorem dX0_drift_85 : decode cX0_drift 85 = .ok (.iload_n 3, 1) := by decide +kernel
theorem dX0_drift_86 : decode cX0_drift 86 = .ok (.goto 5, 3) := by decide +kernel
theorem dX0_drift_89 : decode cX0_drift 89 = .ok (.iload 4, 2) := by decide +kernel
theorem dX0_drift_91 : decode cX0_drift 91 = .ok (.dup2, 1) := by decide +kernel
theorem dX0_drift_92 : decode cX0_drift 92 = .ok (.iaload, 1) := by decide +kernel
theorem dX0_drift_93 : decode cX0_drift 93 = .ok (.aload_n 0, 1) := by decide +kernel
theorem dX0_drift_94 : decode cX0_drift 94 = .ok (.getfield 9, 3) := by decide +kernel
theorem dX0_drift_97 : decode cX0_drift 97 = .ok (.iload_n 3, 1) := by decide +kernel
theorem dX0_drift_98 : decode cX0_drift 98 = .ok (.iaload, 1) := by decide +kernel
theorem dX0_drift_99 : decode cX0_drift 99 = .ok (.iadd, 1) := by decide +kernel
theorem dX0_drift_100 : decode cX0_drift 100 = .ok (.iastore, 1) := by decide +kernel
theorem dX0_drift_101 : decode cX0_drift 101 = .ok (.iinc 3 1, 3) := by decide +kernel
theorem dX0_drift_104 : decode cX0_drift 104 = .ok (.goto (-97), 3) := by decide +kernel
theorem dX0_drift_107 : decode cX0_drift 107 = .ok (.return_, 1) := by decide +kernel
theorem dX0_spread_0 : decode cX0_spread 0 = .ok (.aload_n 0, 1) := by decide +kernel
theorem dX0_spread_1 : decode cX0_spread 1 = .ok (.getfield 9, 3) := by decide +kernel
theorem dX0_spread_4 : decode cX0_spread 4 = .ok (.iconst 0, 1) := by decide +kernel
theorem dX0_spread_5 : decode cX0_spread 5 = .ok (.invokestatic 29, 3) := by decide +kernel
theorem dX0_spread_8 : decode cX0_spread 8 = .ok (.iconst 0, 1) := by decide +kernel
theorem dX0_spread_9 : decode cX0_spread 9 = .ok (.istore_n 3, 1) := by decide +kernel
theorem dX0_spread_10 : decode cX0_spread 10 = .ok (.iload_n 3, 1) := by decide +kernel
theorem dX0_spread_11 : decode cX0_spread 11 = .ok (.sipush 280, 3) := by decide +kernel
theorem dX0_spread_14 : decode cX0_spread 14 = .ok (.if_icmp .ge 40, 3) := by decide +kernel
theorem dX0_spread_17 : decode cX0_spread 17 = .ok (.aload_n 2, 1) := by decide +kernel
theorem dX0_spread_18 : decode cX0_spread 18 = .ok (.iload_n 3, 1) := by decide +kernel
theorem dX0_spread_19 : decode cX0_spread 19 = .ok (.iaload, 1) := by decide +kernel
theorem dX0_spread_20 : decode cX0_spread 20 = .ok (.ifCond .le 28, 3) := by decide +kernel
theorem dX0_spread_23 : decode cX0_spread 23 = .ok (.aload_n 0, 1) := by decide +kernel
theorem dX0_spread_24 : decode cX0_spread 24 = .ok (.getfield 9, 3) := by decide +kernel
theorem dX0_spread_27 : decode cX0_spread 27 = .ok (.iload_n 3, 1) := by decide +kernel
theorem dX0_spread_28 : decode cX0_spread 28 = .ok (.dup2, 1) := by decide +kernel
theorem dX0_spread_29 : decode cX0_spread 29 = .ok (.iaload, 1) := by decide +kernel
theorem dX0_spread_30 : decode cX0_spread 30 = .ok (.aload_n 2, 1) := by decide +kernel
theorem dX0_spread_31 : decode cX0_spread 31 = .ok (.iload_n 3, 1) := by decide +kernel
theorem dX0_spread_32 : decode cX0_spread 32 = .ok (.iaload, 1) := by decide +kernel
theorem dX0_spread_33 : decode cX0_spread 33 = .ok (.aload_n 0, 1) := by decide +kernel
theorem dX0_spread_34 : decode cX0_spread 34 = .ok (.aload_n 1, 1) := by decide +kernel
theorem dX0_spread_35 : decode cX0_spread 35 = .ok (.iload_n 3, 1) := by decide +kernel
theorem dX0_spread_36 : decode cX0_spread 36 = .ok (.aload_n 2, 1) := by decide +kernel
theorem dX0_spread_37 : decode cX0_spread 37 = .ok (.iload_n 3, 1) := by decide +kernel
theorem dX0_spread_38 : decode cX0_spread 38 = .ok (.iaload, 1) := by decide +kernel
theorem dX0_spread_39 : decode cX0_spread 39 = .ok (.bipush 8, 2) := by decide +kernel
theorem dX0_spread_41 : decode cX0_spread 41 = .ok (.idiv, 1) := by decide +kernel
theorem dX0_spread_42 : decode cX0_spread 42 = .ok (.invokevirtual 63, 3) := by decide +kernel
theorem dX0_spread_45 : decode cX0_spread 45 = .ok (.isub, 1) := by decide +kernel
theorem dX0_spread_46 : decode cX0_spread 46 = .ok (.iadd, 1) := by decide +kernel
theorem dX0_spread_47 : decode cX0_spread 47 = .ok (.iastore, 1) := by decide +kernel
theorem dX0_spread_48 : decode cX0_spread 48 = .ok (.iinc 3 1, 3) := by decide +kernel
theorem dX0_spread_51 : decode cX0_spread 51 = .ok (.goto (-41), 3) := by decide +kernel
theorem dX0_spread_54 : decode cX0_spread 54 = .ok (.return_, 1) := by decide +kernel
theorem dX0_giveToSides_0 : decode cX0_giveToSides 0 = .ok (.iconst 0, 1) := by decide +kernel
theorem dX0_giveToSides_1 : decode cX0_giveToSides 1 = .ok (.istore 4, 2) := by decide +kernel
theorem dX0_giveToSides_3 : decode cX0_giveToSides 3 = .ok (.iconst 0, 1) := by decide +kernel
theorem dX0_giveToSides_4 : decode cX0_giveToSides 4 = .ok (.istore 5, 2) := by decide +kernel
theorem dX0_giveToSides_6 : decode cX0_giveToSides 6 = .ok (.iload 5, 2) := by decide +kernel
theorem dX0_giveToSides_8 : decode cX0_giveToSides 8 = .ok (.iconst 4, 1) := by decide +kernel
theorem dX0_giveToSides_9 : decode cX0_giveToSides 9 = .ok (.if_icmp .ge 69, 3) := by decide +kernel
theorem dX0_giveToSides_12 : decode cX0_giveToSides 12 = .ok (.iload_n 2, 1) := by decide +kernel
theorem dX0_giveToSides_13 : decode cX0_giveToSides 13 = .ok (.bipush 20, 2) := by decide +kernel
theorem dX0_giveToSides_15 : decode cX0_giveToSides 15 = .ok (.irem, 1) := by decide +kernel
theorem dX0_giveToSides_16 : decode cX0_giveToSides 16 = .ok (.getstatic 67, 3) := by decide +kernel
theorem dX0_giveToSides_19 : decode cX0_giveToSides 19 = .ok (.iload 5, 2) := by decide +kernel
theorem dX0_giveToSides_21 : decode cX0_giveToSides 21 = .ok (.iaload, 1) := by decide +kernel
theorem dX0_giveToSides_22 : decode cX0_giveToSides 22 = .ok (.iadd, 1) := by decide +kernel
theorem dX0_giveToSides_23 : decode cX0_giveToSides 23 = .ok (.iload_n 2, 1) := by decide +kernel
theorem dX0_giveToSides_24 : decode cX0_giveToSides 24 = .ok (.bipush 20, 2) := by decide +kernel
theorem dX0_giveToSides_26 : decode cX0_giveToSides 26 = .ok (.idiv, 1) := by decide +kernel
theorem dX0_giveToSides_27 : decode cX0_giveToSides 27 = .ok (.getstatic 70, 3) := by decide +kernel
theorem dX0_giveToSides_30 : decode cX0_giveToSides 30 = .ok (.iload 5, 2) := by decide +kernel
theorem dX0_giveToSides_32 : decode cX0_giveToSides 32 = .ok (.iaload, 1) := by decide +kernel
theorem dX0_giveToSides_33 : decode cX0_giveToSides 33 = .ok (.iadd, 1) := by decide +kernel
theorem dX0_giveToSides_34 : decode cX0_giveToSides 34 = .ok (.invokestatic 55, 3) := by decide +kernel
theorem dX0_giveToSides_37 : decode cX0_giveToSides 37 = .ok (.istore 6, 2) := by decide +kernel
theorem dX0_giveToSides_39 : decode cX0_giveToSides 39 = .ok (.iload 6, 2) := by decide +kernel
theorem dX0_giveToSides_41 : decode cX0_giveToSides 41 = .ok (.iconst (-1), 1) := by decide +kernel
theorem dX0_giveToSides_42 : decode cX0_giveToSides 42 = .ok (.if_icmp .eq 30, 3) := by decide +kernel
theorem dX0_giveToSides_45 : decode cX0_giveToSides 45 = .ok (.aload_n 1, 1) := by decide +kernel
theorem dX0_giveToSides_46 : decode cX0_giveToSides 46 = .ok (.getfield 59, 3) := by decide +kernel
theorem dX0_giveToSides_49 : decode cX0_giveToSides 49 = .ok (.iload 6, 2) := by decide +kernel
theorem dX0_giveToSides_51 : decode cX0_giveToSides 51 = .ok (.baload, 1) := by decide +kernel
theorem dX0_giveToSides_52 : decode cX0_giveToSides 52 = .ok (.ifCond .ne 20, 3) := by decide +kernel
theorem dX0_giveToSides_55 : decode cX0_giveToSides 55 = .ok (.aload_n 0, 1) := by decide +kernel
theorem dX0_giveToSides_56 : decode cX0_giveToSides 56 = .ok (.getfield 9, 3) := by decide +kernel
theorem dX0_giveToSides_59 : decode cX0_giveToSides 59 = .ok (.iload 6, 2) := by decide +kernel
theorem dX0_giveToSides_61 : decode cX0_giveToSides 61 = .ok (.dup2, 1) := by decide +kernel
theorem dX0_giveToSides_62 : decode cX0_giveToSides 62 = .ok (.iaload, 1) := by decide +kernel
theorem dX0_giveToSides_63 : decode cX0_giveToSides 63 = .ok (.iload_n 3, 1) := by decide +kernel
theorem dX0_giveToSides_64 : decode cX0_giveToSides 64 = .ok (.iadd, 1) := by decide +kernel
theorem dX0_giveToSides_65 : decode cX0_giveToSides 65 = .ok (.iastore, 1) := by decide +kernel
theorem dX0_giveToSides_66 : decode cX0_giveToSides 66 = .ok (.iload 4, 2) := by decide +kernel
theorem dX0_giveToSides_68 : decode cX0_giveToSides 68 = .ok (.iload_n 3, 1) := by decide +kernel
theorem dX0_giveToSides_69 : decode cX0_giveToSides 69 = .ok (.iadd, 1) := by decide +kernel
theorem dX0_giveToSides_70 : decode cX0_giveToSides 70 = .ok (.istore 4, 2) := by decide +kernel
theorem dX0_giveToSides_72 : decode cX0_giveToSides 72 = .ok (.iinc 5 1, 3) := by decide +kernel
theorem dX0_giveToSides_75 : decode cX0_giveToSides 75 = .ok (.goto (-69), 3) := by decide +kernel
theorem dX0_giveToSides_78 : decode cX0_giveToSides 78 = .ok (.iload 4, 2) := by decide +kernel
theorem dX0_giveToSides_80 : decode cX0_giveToSides 80 = .ok (.ireturn, 1) := by decide +kernel
theorem dX0_melt_0 : decode cX0_melt 0 = .ok (.iconst (-1), 1) := by decide +kernel
theorem dX0_melt_1 : decode cX0_melt 1 = .ok (.istore_n 2, 1) := by decide +kernel
theorem dX0_melt_2 : decode cX0_melt 2 = .ok (.iconst 0, 1) := by decide +kernel
theorem dX0_melt_3 : decode cX0_melt 3 = .ok (.istore_n 3, 1) := by decide +kernel
theorem dX0_melt_4 : decode cX0_melt 4 = .ok (.iload_n 3, 1) := by decide +kernel
theorem dX0_melt_5 : decode cX0_melt 5 = .ok (.sipush 280, 3) := by decide +kernel
theorem dX0_melt_8 : decode cX0_melt 8 = .ok (.if_icmp .ge 40, 3) := by decide +kernel
theorem dX0_melt_11 : decode cX0_melt 11 = .ok (.aload_n 0, 1) := by decide +kernel
theorem dX0_melt_12 : decode cX0_melt 12 = .ok (.getfield 9, 3) := by decide +kernel
theorem dX0_melt_15 : decode cX0_melt 15 = .ok (.iload_n 3, 1) := by decide +kernel
theorem dX0_melt_16 : decode cX0_melt 16 = .ok (.iaload, 1) := by decide +kernel
theorem dX0_melt_17 : decode cX0_melt 17 = .ok (.ifCond .le 25, 3) := by decide +kernel
theorem dX0_melt_20 : decode cX0_melt 20 = .ok (.iload_n 2, 1) := by decide +kernel
theorem dX0_melt_21 : decode cX0_melt 21 = .ok (.iconst (-1), 1) := by decide +kernel
theorem dX0_melt_22 : decode cX0_melt 22 = .ok (.if_icmp .eq 13, 3) := by decide +kernel
theorem dX0_melt_25 : decode cX0_melt 25 = .ok (.aload_n 1, 1) := by decide +kernel
theorem dX0_melt_26 : decode cX0_melt 26 = .ok (.getfield 73, 3) := by decide +kernel
theorem dX0_melt_29 : decode cX0_melt 29 = .ok (.iload_n 3, 1) := by decide +kernel
theorem dX0_melt_30 : decode cX0_melt 30 = .ok (.iaload, 1) := by decide +kernel
theorem dX0_melt_31 : decode cX0_melt 31 = .ok (.iload_n 2, 1) := by decide +kernel
theorem dX0_melt_32 : decode cX0_melt 32 = .ok (.if_icmp .ge 10, 3) := by decide +kernel
theorem dX0_melt_35 : decode cX0_melt 35 = .ok (.aload_n 1, 1) := by decide +kernel
theorem dX0_melt_36 : decode cX0_melt 36 = .ok (.getfield 73, 3) := by decide +kernel
theorem dX0_melt_39 : decode cX0_melt 39 = .ok (.iload_n 3, 1) := by decide +kernel
theorem dX0_melt_40 : decode cX0_melt 40 = .ok (.iaload, 1) := by decide +kernel
theorem dX0_melt_41 : decode cX0_melt 41 = .ok (.istore_n 2, 1) := by decide +kernel
theorem dX0_melt_42 : decode cX0_melt 42 = .ok (.iinc 3 1, 3) := by decide +kernel
theorem dX0_melt_45 : decode cX0_melt 45 = .ok (.goto (-41), 3) := by decide +kernel
theorem dX0_melt_48 : decode cX0_melt 48 = .ok (.iload_n 2, 1) := by decide +kernel
theorem dX0_melt_49 : decode cX0_melt 49 = .ok (.iconst (-1), 1) := by decide +kernel
theorem dX0_melt_50 : decode cX0_melt 50 = .ok (.if_icmp .ne 9, 3) := by decide +kernel
theorem dX0_melt_53 : decode cX0_melt 53 = .ok (.aload_n 0, 1) := by decide +kernel
theorem dX0_melt_54 : decode cX0_melt 54 = .ok (.iconst 1, 1) := by decide +kernel
theorem dX0_melt_55 : decode cX0_melt 55 = .ok (.putfield 25, 3) := by decide +kernel
theorem dX0_melt_58 : decode cX0_melt 58 = .ok (.return_, 1) := by decide +kernel
theorem dX0_melt_59 : decode cX0_melt 59 = .ok (.aload_n 0, 1) := by decide +kernel
theorem dX0_melt_60 : decode cX0_melt 60 = .ok (.dup, 1) := by decide +kernel
theorem dX0_melt_61 : decode cX0_melt 61 = .ok (.getfield 15, 3) := by decide +kernel
theorem dX0_melt_64 : decode cX0_melt 64 = .ok (.iload_n 2, 1) := by decide +kernel
theorem dX0_melt_65 : decode cX0_melt 65 = .ok (.isub, 1) := by decide +kernel
theorem dX0_melt_66 : decode cX0_melt 66 = .ok (.putfield 15, 3) := by decide +kernel
theorem dX0_melt_69 : decode cX0_melt 69 = .ok (.aload_n 0, 1) := by decide +kernel
theorem dX0_melt_70 : decode cX0_melt 70 = .ok (.getfield 15, 3) := by decide +kernel
theorem dX0_melt_73 : decode cX0_melt 73 = .ok (.ifCond .gt 16, 3) := by decide +kernel
theorem dX0_melt_76 : decode cX0_melt 76 = .ok (.aload_n 0, 1) := by decide +kernel
theorem dX0_melt_77 : decode cX0_melt 77 = .ok (.iconst 1, 1) := by decide +kernel
theorem dX0_melt_78 : decode cX0_melt 78 = .ok (.putfield 25, 3) := by decide +kernel
theorem dX0_melt_81 : decode cX0_melt 81 = .ok (.aload_n 0, 1) := by decide +kernel
theorem dX0_melt_82 : decode cX0_melt 82 = .ok (.getfield 9, 3) := by decide +kernel
theorem dX0_melt_85 : decode cX0_melt 85 = .ok (.iconst 0, 1) := by decide +kernel
theorem dX0_melt_86 : decode cX0_melt 86 = .ok (.invokestatic 29, 3) := by decide +kernel
theorem dX0_melt_89 : decode cX0_melt 89 = .ok (.return_, 1) := by decide +kernel
theorem dX0_lower_0 : decode cX0_lower 0 = .ok (.iload_n 1, 1) := by decide +kernel
theorem dX0_lower_1 : decode cX0_lower 1 = .ok (.ifCond .lt 17, 3) := by decide +kernel
theorem dX0_lower_4 : decode cX0_lower 4 = .ok (.iload_n 1, 1) := by decide +kernel
theorem dX0_lower_5 : decode cX0_lower 5 = .ok (.sipush 280, 3) := by decide +kernel
theorem dX0_lower_8 : decode cX0_lower 8 = .ok (.if_icmp .ge 10, 3) := by decide +kernel
theorem dX0_lower_11 : decode cX0_lower 11 = .ok (.aload_n 0, 1) := by decide +kernel
theorem dX0_lower_12 : decode cX0_lower 12 = .ok (.getfield 25, 3) := by decide +kernel
theorem dX0_lower_15 : decode cX0_lower 15 = .ok (.ifCond .eq 5, 3) := by decide +kernel
theorem dX0_lower_18 : decode cX0_lower 18 = .ok (.iconst 0, 1) := by decide +kernel
theorem dX0_lower_19 : decode cX0_lower 19 = .ok (.ireturn, 1) := by decide +kernel
theorem dX0_lower_20 : decode cX0_lower 20 = .ok (.aload_n 0, 1) := by decide +kernel
theorem dX0_lower_21 : decode cX0_lower 21 = .ok (.getfield 9, 3) := by decide +kernel
theorem dX0_lower_24 : decode cX0_lower 24 = .ok (.iload_n 1, 1) := by decide +kernel
theorem dX0_lower_25 : decode cX0_lower 25 = .ok (.iaload, 1) := by decide +kernel
theorem dX0_lower_26 : decode cX0_lower 26 = .ok (.iload_n 2, 1) := by decide +kernel
theorem dX0_lower_27 : decode cX0_lower 27 = .ok (.imul, 1) := by decide +kernel
theorem dX0_lower_28 : decode cX0_lower 28 = .ok (.bipush 100, 2) := by decide +kernel
theorem dX0_lower_30 : decode cX0_lower 30 = .ok (.iadd, 1) := by decide +kernel
theorem dX0_lower_31 : decode cX0_lower 31 = .ok (.iconst 1, 1) := by decide +kernel
theorem dX0_lower_32 : decode cX0_lower 32 = .ok (.isub, 1) := by decide +kernel
theorem dX0_lower_33 : decode cX0_lower 33 = .ok (.bipush 100, 2) := by decide +kernel
theorem dX0_lower_35 : decode cX0_lower 35 = .ok (.idiv, 1) := by decide +kernel
theorem dX0_lower_36 : decode cX0_lower 36 = .ok (.istore_n 3, 1) := by decide +kernel
theorem dX0_lower_37 : decode cX0_lower 37 = .ok (.aload_n 0, 1) := by decide +kernel
theorem dX0_lower_38 : decode cX0_lower 38 = .ok (.getfield 9, 3) := by decide +kernel
theorem dX0_lower_41 : decode cX0_lower 41 = .ok (.iload_n 1, 1) := by decide +kernel
theorem dX0_lower_42 : decode cX0_lower 42 = .ok (.dup2, 1) := by decide +kernel
theorem dX0_lower_43 : decode cX0_lower 43 = .ok (.iaload, 1) := by decide +kernel
theorem dX0_lower_44 : decode cX0_lower 44 = .ok (.iload_n 3, 1) := by decide +kernel
theorem dX0_lower_45 : decode cX0_lower 45 = .ok (.isub, 1) := by decide +kernel
theorem dX0_lower_46 : decode cX0_lower 46 = .ok (.iastore, 1) := by decide +kernel
theorem dX0_lower_47 : decode cX0_lower 47 = .ok (.aload_n 0, 1) := by decide +kernel
theorem dX0_lower_48 : decode cX0_lower 48 = .ok (.invokevirtual 76, 3) := by decide +kernel
theorem dX0_lower_51 : decode cX0_lower 51 = .ok (.ifCond .ne 8, 3) := by decide +kernel
theorem dX0_lower_54 : decode cX0_lower 54 = .ok (.aload_n 0, 1) := by decide +kernel
theorem dX0_lower_55 : decode cX0_lower 55 = .ok (.iconst 1, 1) := by decide +kernel
theorem dX0_lower_56 : decode cX0_lower 56 = .ok (.putfield 25, 3) := by decide +kernel
theorem dX0_lower_59 : decode cX0_lower 59 = .ok (.iload_n 3, 1) := by decide +kernel
theorem dX0_lower_60 : decode cX0_lower 60 = .ok (.ireturn, 1) := by decide +kernel
theorem dX0_allParts_0 : decode cX0_allParts 0 = .ok (.iconst 0, 1) := by decide +kernel
theorem dX0_allParts_1 : decode cX0_allParts 1 = .ok (.istore_n 1, 1) := by decide +kernel
theorem dX0_allParts_2 : decode cX0_allParts 2 = .ok (.iconst 0, 1) := by decide +kernel
theorem dX0_allParts_3 : decode cX0_allParts 3 = .ok (.istore_n 2, 1) := by decide +kernel
theorem dX0_allParts_4 : decode cX0_allParts 4 = .ok (.iload_n 2, 1) := by decide +kernel
theorem dX0_allParts_5 : decode cX0_allParts 5 = .ok (.sipush 280, 3) := by decide +kernel
theorem dX0_allParts_8 : decode cX0_allParts 8 = .ok (.if_icmp .ge 18, 3) := by decide +kernel
theorem dX0_allParts_11 : decode cX0_allParts 11 = .ok (.iload_n 1, 1) := by decide +kernel
theorem dX0_allParts_12 : decode cX0_allParts 12 = .ok (.aload_n 0, 1) := by decide +kernel
theorem dX0_allParts_13 : decode cX0_allParts 13 = .ok (.getfield 9, 3) := by decide +kernel
theorem dX0_allParts_16 : decode cX0_allParts 16 = .ok (.iload_n 2, 1) := by decide +kernel
theorem dX0_allParts_17 : decode cX0_allParts 17 = .ok (.iaload, 1) := by decide +kernel
theorem dX0_allParts_18 : decode cX0_allParts 18 = .ok (.iadd, 1) := by decide +kernel
theorem dX0_allParts_19 : decode cX0_allParts 19 = .ok (.istore_n 1, 1) := by decide +kernel
theorem dX0_allParts_20 : decode cX0_allParts 20 = .ok (.iinc 2 1, 3) := by decide +kernel
theorem dX0_allParts_23 : decode cX0_allParts 23 = .ok (.goto (-19), 3) := by decide +kernel
theorem dX0_allParts_26 : decode cX0_allParts 26 = .ok (.iload_n 1, 1) := by decide +kernel
theorem dX0_allParts_27 : decode cX0_allParts 27 = .ok (.ireturn, 1) := by decide +kernel
theorem dX1_init_0 : decode cX1_init 0 = .ok (.aload_n 0, 1) := by decide +kernel
theorem dX1_init_1 : decode cX1_init 1 = .ok (.invokespecial 3, 3) := by decide +kernel
theorem dX1_init_4 : decode cX1_init 4 = .ok (.aload_n 0, 1) := by decide +kernel
theorem dX1_init_5 : decode cX1_init 5 = .ok (.sipush 280, 3) := by decide +kernel
theorem dX1_init_8 : decode cX1_init 8 = .ok (.newarray .boolean, 2) := by decide +kernel
theorem dX1_init_10 : decode cX1_init 10 = .ok (.putfield 9, 3) := by decide +kernel
theorem dX1_init_13 : decode cX1_init 13 = .ok (.aload_n 0, 1) := by decide +kernel
theorem dX1_init_14 : decode cX1_init 14 = .ok (.sipush 280, 3) := by decide +kernel
theorem dX1_init_17 : decode cX1_init 17 = .ok (.newarray .int, 2) := by decide +kernel
theorem dX1_init_19 : decode cX1_init 19 = .ok (.putfield 15, 3) := by decide +kernel
theorem dX1_init_22 : decode cX1_init 22 = .ok (.aload_n 0, 1) := by decide +kernel
theorem dX1_init_23 : decode cX1_init 23 = .ok (.sipush 280, 3) := by decide +kernel
theorem dX1_init_26 : decode cX1_init 26 = .ok (.newarray .int, 2) := by decide +kernel
theorem dX1_init_28 : decode cX1_init 28 = .ok (.putfield 19, 3) := by decide +kernel
theorem dX1_init_31 : decode cX1_init 31 = .ok (.aload_n 0, 1) := by decide +kernel
theorem dX1_init_32 : decode cX1_init 32 = .ok (.iconst 0, 1) := by decide +kernel
theorem dX1_init_33 : decode cX1_init 33 = .ok (.putfield 22, 3) := by decide +kernel
theorem dX1_init_36 : decode cX1_init 36 = .ok (.return_, 1) := by decide +kernel
theorem dX1_openAllBut_0 : decode cX1_openAllBut 0 = .ok (.iconst 0, 1) := by decide +kernel
theorem dX1_openAllBut_1 : decode cX1_openAllBut 1 = .ok (.istore_n 2, 1) := by decide +kernel
theorem dX1_openAllBut_2 : decode cX1_openAllBut 2 = .ok (.iload_n 2, 1) := by decide +kernel
theorem dX1_openAllBut_3 : decode cX1_openAllBut 3 = .ok (.sipush 280, 3) := by decide +kernel
theorem dX1_openAllBut_6 : decode cX1_openAllBut 6 = .ok (.if_icmp .ge 24, 3) := by decide +kernel
theorem dX1_openAllBut_9 : decode cX1_openAllBut 9 = .ok (.iload_n 2, 1) := by decide +kernel
theorem dX1_openAllBut_10 : decode cX1_openAllBut 10 = .ok (.aload_n 1, 1) := by decide +kernel
theorem dX1_openAllBut_11 : decode cX1_openAllBut 11 = .ok (.arraylength, 1) := by decide +kernel
theorem dX1_openAllBut_12 : decode cX1_openAllBut 12 = .ok (.if_icmp .ge 18, 3) := by decide +kernel
theorem dX1_openAllBut_15 : decode cX1_openAllBut 15 = .ok (.aload_n 0, 1) := by decide +kernel
theorem dX1_openAllBut_16 : decode cX1_openAllBut 16 = .ok (.getfield 9, 3) := by decide +kernel
theorem dX1_openAllBut_19 : decode cX1_openAllBut 19 = .ok (.iload_n 2, 1) := by decide +kernel
theorem dX1_openAllBut_20 : decode cX1_openAllBut 20 = .ok (.aload_n 1, 1) := by decide +kernel
theorem dX1_openAllBut_21 : decode cX1_openAllBut 21 = .ok (.iload_n 2, 1) := by decide +kernel
theorem dX1_openAllBut_22 : decode cX1_openAllBut 22 = .ok (.baload, 1) := by decide +kernel
theorem dX1_openAllBut_23 : decode cX1_openAllBut 23 = .ok (.bastore, 1) := by decide +kernel
theorem dX1_openAllBut_24 : decode cX1_openAllBut 24 = .ok (.iinc 2 1, 3) := by decide +kernel
theorem dX1_openAllBut_27 : decode cX1_openAllBut 27 = .ok (.goto (-25), 3) := by decide +kernel
theorem dX1_openAllBut_30 : decode cX1_openAllBut 30 = .ok (.return_, 1) := by decide +kernel
theorem dX1_shut_0 : decode cX1_shut 0 = .ok (.iconst 0, 1) := by decide +kernel
theorem dX1_shut_1 : decode cX1_shut 1 = .ok (.istore_n 2, 1) := by decide +kernel
theorem dX1_shut_2 : decode cX1_shut 2 = .ok (.iload_n 2, 1) := by decide +kernel
theorem dX1_shut_3 : decode cX1_shut 3 = .ok (.sipush 280, 3) := by decide +kernel
theorem dX1_shut_6 : decode cX1_shut 6 = .ok (.if_icmp .ge 35, 3) := by decide +kernel
theorem dX1_shut_9 : decode cX1_shut 9 = .ok (.aload_n 1, 1) := by decide +kernel
theorem dX1_shut_10 : decode cX1_shut 10 = .ok (.getfield 26, 3) := by decide +kernel
theorem dX1_shut_13 : decode cX1_shut 13 = .ok (.iload_n 2, 1) := by decide +kernel
theorem dX1_shut_14 : decode cX1_shut 14 = .ok (.bipush 20, 2) := by decide +kernel
theorem dX1_shut_16 : decode cX1_shut 16 = .ok (.idiv, 1) := by decide +kernel
theorem dX1_shut_17 : decode cX1_shut 17 = .ok (.iaload, 1) := by decide +kernel
theorem dX1_shut_18 : decode cX1_shut 18 = .ok (.iload_n 2, 1) := by decide +kernel
theorem dX1_shut_19 : decode cX1_shut 19 = .ok (.bipush 20, 2) := by decide +kernel
theorem dX1_shut_21 : decode cX1_shut 21 = .ok (.irem, 1) := by decide +kernel
theorem dX1_shut_22 : decode cX1_shut 22 = .ok (.ishr, 1) := by decide +kernel
theorem dX1_shut_23 : decode cX1_shut 23 = .ok (.iconst 1, 1) := by decide +kernel
theorem dX1_shut_24 : decode cX1_shut 24 = .ok (.iand, 1) := by decide +kernel
theorem dX1_shut_25 : decode cX1_shut 25 = .ok (.ifCond .eq 10, 3) := by decide +kernel
theorem dX1_shut_28 : decode cX1_shut 28 = .ok (.aload_n 0, 1) := by decide +kernel
theorem dX1_shut_29 : decode cX1_shut 29 = .ok (.getfield 9, 3) := by decide +kernel
theorem dX1_shut_32 : decode cX1_shut 32 = .ok (.iload_n 2, 1) := by decide +kernel
theorem dX1_shut_33 : decode cX1_shut 33 = .ok (.iconst 1, 1) := by decide +kernel
theorem dX1_shut_34 : decode cX1_shut 34 = .ok (.bastore, 1) := by decide +kernel
theorem dX1_shut_35 : decode cX1_shut 35 = .ok (.iinc 2 1, 3) := by decide +kernel
theorem dX1_shut_38 : decode cX1_shut 38 = .ok (.goto (-36), 3) := by decide +kernel
theorem dX1_shut_41 : decode cX1_shut 41 = .ok (.return_, 1) := by decide +kernel
theorem dX1_shortest_0 : decode cX1_shortest 0 = .ok (.aload_n 0, 1) := by decide +kernel
theorem dX1_shortest_1 : decode cX1_shortest 1 = .ok (.iload_n 1, 1) := by decide +kernel
theorem dX1_shortest_2 : decode cX1_shortest 2 = .ok (.invokevirtual 31, 3) := by decide +kernel
theorem dX1_shortest_5 : decode cX1_shortest 5 = .ok (.ifCond .ne 11, 3) := by decide +kernel
theorem dX1_shortest_8 : decode cX1_shortest 8 = .ok (.aload_n 0, 1) := by decide +kernel
theorem dX1_shortest_9 : decode cX1_shortest 9 = .ok (.iload_n 2, 1) := by decide +kernel
theorem dX1_shortest_10 : decode cX1_shortest 10 = .ok (.invokevirtual 31, 3) := by decide +kernel
theorem dX1_shortest_13 : decode cX1_shortest 13 = .ok (.ifCond .eq 5, 3) := by decide +kernel
theorem dX1_shortest_16 : decode cX1_shortest 16 = .ok (.iconst (-1), 1) := by decide +kernel
theorem dX1_shortest_17 : decode cX1_shortest 17 = .ok (.ireturn, 1) := by decide +kernel
theorem dX1_shortest_18 : decode cX1_shortest 18 = .ok (.aload_n 0, 1) := by decide +kernel
theorem dX1_shortest_19 : decode cX1_shortest 19 = .ok (.getfield 15, 3) := by decide +kernel
theorem dX1_shortest_22 : decode cX1_shortest 22 = .ok (.iconst (-1), 1) := by decide +kernel
theorem dX1_shortest_23 : decode cX1_shortest 23 = .ok (.invokestatic 35, 3) := by decide +kernel
theorem dX1_shortest_26 : decode cX1_shortest 26 = .ok (.aload_n 0, 1) := by decide +kernel
theorem dX1_shortest_27 : decode cX1_shortest 27 = .ok (.iconst 0, 1) := by decide +kernel
theorem dX1_shortest_28 : decode cX1_shortest 28 = .ok (.putfield 22, 3) := by decide +kernel
theorem dX1_shortest_31 : decode cX1_shortest 31 = .ok (.aload_n 0, 1) := by decide +kernel
theorem dX1_shortest_32 : decode cX1_shortest 32 = .ok (.iload_n 1, 1) := by decide +kernel
theorem dX1_shortest_33 : decode cX1_shortest 33 = .ok (.iconst 0, 1) := by decide +kernel
theorem dX1_shortest_34 : decode cX1_shortest 34 = .ok (.invokevirtual 41, 3) := by decide +kernel
theorem dX1_shortest_37 : decode cX1_shortest 37 = .ok (.iconst 0, 1) := by decide +kernel
theorem dX1_shortest_38 : decode cX1_shortest 38 = .ok (.istore_n 3, 1) := by decide +kernel
theorem dX1_shortest_39 : decode cX1_shortest 39 = .ok (.iload_n 3, 1) := by decide +kernel
theorem dX1_shortest_40 : decode cX1_shortest 40 = .ok (.sipush 280, 3) := by decide +kernel
theorem dX1_shortest_43 : decode cX1_shortest 43 = .ok (.if_icmp .ge 42, 3) := by decide +kernel
theorem dX1_shortest_46 : decode cX1_shortest 46 = .ok (.aload_n 0, 1) := by decide +kernel
theorem dX1_shortest_47 : decode cX1_shortest 47 = .ok (.getfield 22, 3) := by decide +kernel
theorem dX1_shortest_50 : decode cX1_shortest 50 = .ok (.ifCond .le 35, 3) := by decide +kernel
theorem dX1_shortest_53 : decode cX1_shortest 53 = .ok (.aload_n 0, 1) := by decide +kernel
theorem dX1_shortest_54 : decode cX1_shortest 54 = .ok (.invokevirtual 45, 3) := by decide +kernel
theorem dX1_shortest_57 : decode cX1_shortest 57 = .ok (.istore 4, 2) := by decide +kernel
theorem dX1_shortest_59 : decode cX1_shortest 59 = .ok (.iload 4, 2) := by decide +kernel
theorem dX1_shortest_61 : decode cX1_shortest 61 = .ok (.iload_n 2, 1) := by decide +kernel
theorem dX1_shortest_62 : decode cX1_shortest 62 = .ok (.if_icmp .ne 11, 3) := by decide +kernel
theorem dX1_shortest_65 : decode cX1_shortest 65 = .ok (.aload_n 0, 1) := by decide +kernel
theorem dX1_shortest_66 : decode cX1_shortest 66 = .ok (.getfield 15, 3) := by decide +kernel
theorem dX1_shortest_69 : decode cX1_shortest 69 = .ok (.iload 4, 2) := by decide +kernel
theorem dX1_shortest_71 : decode cX1_shortest 71 = .ok (.iaload, 1) := by decide +kernel
theorem dX1_shortest_72 : decode cX1_shortest 72 = .ok (.ireturn, 1) := by decide +kernel
theorem dX1_shortest_73 : decode cX1_shortest 73 = .ok (.aload_n 0, 1) := by decide +kernel
theorem dX1_shortest_74 : decode cX1_shortest 74 = .ok (.iload 4, 2) := by decide +kernel
theorem dX1_shortest_76 : decode cX1_shortest 76 = .ok (.invokevirtual 49, 3) := by decide +kernel
theorem dX1_shortest_79 : decode cX1_shortest 79 = .ok (.iinc 3 1, 3) := by decide +kernel
theorem dX1_shortest_82 : decode cX1_shortest 82 = .ok (.goto (-43), 3) := by decide +kernel
theorem dX1_shortest_85 : decode cX1_shortest 85 = .ok (.iconst (-1), 1) := by decide +kernel
theorem dX1_shortest_86 : decode cX1_shortest 86 = .ok (.ireturn, 1) := by decide +kernel
theorem dX1_isShut_0 : decode cX1_isShut 0 = .ok (.iload_n 1, 1) := by decide +kernel
theorem dX1_isShut_1 : decode cX1_isShut 1 = .ok (.ifCond .lt 19, 3) := by decide +kernel
theorem dX1_isShut_4 : decode cX1_isShut 4 = .ok (.iload_n 1, 1) := by decide +kernel
theorem dX1_isShut_5 : decode cX1_isShut 5 = .ok (.sipush 280, 3) := by decide +kernel
theorem dX1_isShut_8 : decode cX1_isShut 8 = .ok (.if_icmp .ge 12, 3) := by decide +kernel
theorem dX1_isShut_11 : decode cX1_isShut 11 = .ok (.aload_n 0, 1) := by decide +kernel
theorem dX1_isShut_12 : decode cX1_isShut 12 = .ok (.getfield 9, 3) := by decide +kernel
theorem dX1_isShut_15 : decode cX1_isShut 15 = .ok (.iload_n 1, 1) := by decide +kernel
theorem dX1_isShut_16 : decode cX1_isShut 16 = .ok (.baload, 1) := by decide +kernel
theorem dX1_isShut_17 : decode cX1_isShut 17 = .ok (.ifCond .eq 7, 3) := by decide +kernel
theorem dX1_isShut_20 : decode cX1_isShut 20 = .ok (.iconst 1, 1) := by decide +kernel
theorem dX1_isShut_21 : decode cX1_isShut 21 = .ok (.goto 4, 3) := by decide +kernel
theorem dX1_isShut_24 : decode cX1_isShut 24 = .ok (.iconst 0, 1) := by decide +kernel
theorem dX1_isShut_25 : decode cX1_isShut 25 = .ok (.ireturn, 1) := by decide +kernel
theorem dX1_follow_0 : decode cX1_follow 0 = .ok (.iconst 0, 1) := by decide +kernel
theorem dX1_follow_1 : decode cX1_follow 1 = .ok (.istore_n 2, 1) := by decide +kernel
theorem dX1_follow_2 : decode cX1_follow 2 = .ok (.iload_n 2, 1) := by decide +kernel
theorem dX1_follow_3 : decode cX1_follow 3 = .ok (.bipush 8, 2) := by decide +kernel
theorem dX1_follow_5 : decode cX1_follow 5 = .ok (.if_icmp .ge 64, 3) := by decide +kernel
theorem dX1_follow_8 : decode cX1_follow 8 = .ok (.iload_n 1, 1) := by decide +kernel
theorem dX1_follow_9 : decode cX1_follow 9 = .ok (.bipush 20, 2) := by decide +kernel
theorem dX1_follow_11 : decode cX1_follow 11 = .ok (.irem, 1) := by decide +kernel
theorem dX1_follow_12 : decode cX1_follow 12 = .ok (.getstatic 53, 3) := by decide +kernel
theorem dX1_follow_15 : decode cX1_follow 15 = .ok (.iload_n 2, 1) := by decide +kernel
theorem dX1_follow_16 : decode cX1_follow 16 = .ok (.iaload, 1) := by decide +kernel
theorem dX1_follow_17 : decode cX1_follow 17 = .ok (.iadd, 1) := by decide +kernel
theorem dX1_follow_18 : decode cX1_follow 18 = .ok (.iload_n 1, 1) := by decide +kernel
theorem dX1_follow_19 : decode cX1_follow 19 = .ok (.bipush 20, 2) := by decide +kernel
theorem dX1_follow_21 : decode cX1_follow 21 = .ok (.idiv, 1) := by decide +kernel
theorem dX1_follow_22 : decode cX1_follow 22 = .ok (.getstatic 56, 3) := by decide +kernel
theorem dX1_follow_25 : decode cX1_follow 25 = .ok (.iload_n 2, 1) := by decide +kernel
theorem dX1_follow_26 : decode cX1_follow 26 = .ok (.iaload, 1) := by decide +kernel
theorem dX1_follow_27 : decode cX1_follow 27 = .ok (.iadd, 1) := by decide +kernel
theorem dX1_follow_28 : decode cX1_follow 28 = .ok (.invokestatic 59, 3) := by decide +kernel
theorem dX1_follow_31 : decode cX1_follow 31 = .ok (.istore_n 3, 1) := by decide +kernel
theorem dX1_follow_32 : decode cX1_follow 32 = .ok (.aload_n 0, 1) := by decide +kernel
theorem dX1_follow_33 : decode cX1_follow 33 = .ok (.iload_n 3, 1) := by decide +kernel
theorem dX1_follow_34 : decode cX1_follow 34 = .ok (.invokevirtual 31, 3) := by decide +kernel
theorem dX1_follow_37 : decode cX1_follow 37 = .ok (.ifCond .ne 26, 3) := by decide +kernel
theorem dX1_follow_40 : decode cX1_follow 40 = .ok (.aload_n 0, 1) := by decide +kernel
theorem dX1_follow_41 : decode cX1_follow 41 = .ok (.iload_n 3, 1) := by decide +kernel
theorem dX1_follow_42 : decode cX1_follow 42 = .ok (.aload_n 0, 1) := by decide +kernel
theorem dX1_follow_43 : decode cX1_follow 43 = .ok (.getfield 15, 3) := by decide +kernel
theorem dX1_follow_46 : decode cX1_follow 46 = .ok (.iload_n 1, 1) := by decide +kernel
theorem dX1_follow_47 : decode cX1_follow 47 = .ok (.iaload, 1) := by decide +kernel
theorem dX1_follow_48 : decode cX1_follow 48 = .ok (.iload_n 2, 1) := by decide +kernel
theorem dX1_follow_49 : decode cX1_follow 49 = .ok (.iconst 4, 1) := by decide +kernel
theorem dX1_follow_50 : decode cX1_follow 50 = .ok (.if_icmp .ge 7, 3) := by decide +kernel
theorem dX1_follow_53 : decode cX1_follow 53 = .ok (.iconst 5, 1) := by decide +kernel
theorem dX1_follow_54 : decode cX1_follow 54 = .ok (.goto 5, 3) := by decide +kernel
theorem dX1_follow_57 : decode cX1_follow 57 = .ok (.bipush 7, 2) := by decide +kernel
theorem dX1_follow_59 : decode cX1_follow 59 = .ok (.iadd, 1) := by decide +kernel
theorem dX1_follow_60 : decode cX1_follow 60 = .ok (.invokevirtual 41, 3) := by decide +kernel
theorem dX1_follow_63 : decode cX1_follow 63 = .ok (.iinc 2 1, 3) := by decide +kernel
theorem dX1_follow_66 : decode cX1_follow 66 = .ok (.goto (-64), 3) := by decide +kernel
theorem dX1_follow_69 : decode cX1_follow 69 = .ok (.return_, 1) := by decide +kernel
theorem dX1_meet_0 : decode cX1_meet 0 = .ok (.aload_n 0, 1) := by decide +kernel
theorem dX1_meet_1 : decode cX1_meet 1 = .ok (.getfield 15, 3) := by decide +kernel
theorem dX1_meet_4 : decode cX1_meet 4 = .ok (.iload_n 1, 1) := by decide +kernel
theorem dX1_meet_5 : decode cX1_meet 5 = .ok (.iaload, 1) := by decide +kernel
theorem dX1_meet_6 : decode cX1_meet 6 = .ok (.iconst (-1), 1) := by decide +kernel
theorem dX1_meet_7 : decode cX1_meet 7 = .ok (.if_icmp .ne 43, 3) := by decide +kernel
theorem dX1_meet_10 : decode cX1_meet 10 = .ok (.aload_n 0, 1) := by decide +kernel
theorem dX1_meet_11 : decode cX1_meet 11 = .ok (.getfield 22, 3) := by decide +kernel
theorem dX1_meet_14 : decode cX1_meet 14 = .ok (.sipush 280, 3) := by decide +kernel
theorem dX1_meet_17 : decode cX1_meet 17 = .ok (.if_icmp .ge 33, 3) := by decide +kernel
theorem dX1_meet_20 : decode cX1_meet 20 = .ok (.aload_n 0, 1) := by decide +kernel
theorem dX1_meet_21 : decode cX1_meet 21 = .ok (.getfield 19, 3) := by decide +kernel
theorem dX1_meet_24 : decode cX1_meet 24 = .ok (.aload_n 0, 1) := by decide +kernel
theorem dX1_meet_25 : decode cX1_meet 25 = .ok (.getfield 22, 3) := by decide +kernel
theorem dX1_meet_28 : decode cX1_meet 28 = .ok (.iload_n 1, 1) := by decide +kernel
theorem dX1_meet_29 : decode cX1_meet 29 = .ok (.iastore, 1) := by decide +kernel
theorem dX1_meet_30 : decode cX1_meet 30 = .ok (.aload_n 0, 1) := by decide +kernel
theorem dX1_meet_31 : decode cX1_meet 31 = .ok (.dup, 1) := by decide +kernel
theorem dX1_meet_32 : decode cX1_meet 32 = .ok (.getfield 22, 3) := by decide +kernel
theorem dX1_meet_35 : decode cX1_meet 35 = .ok (.iconst 1, 1) := by decide +kernel
theorem dX1_meet_36 : decode cX1_meet 36 = .ok (.iadd, 1) := by decide +kernel
theorem dX1_meet_37 : decode cX1_meet 37 = .ok (.putfield 22, 3) := by decide +kernel
theorem dX1_meet_40 : decode cX1_meet 40 = .ok (.aload_n 0, 1) := by decide +kernel
theorem dX1_meet_41 : decode cX1_meet 41 = .ok (.getfield 15, 3) := by decide +kernel
theorem dX1_meet_44 : decode cX1_meet 44 = .ok (.iload_n 1, 1) := by decide +kernel
theorem dX1_meet_45 : decode cX1_meet 45 = .ok (.iload_n 2, 1) := by decide +kernel
theorem dX1_meet_46 : decode cX1_meet 46 = .ok (.iastore, 1) := by decide +kernel
theorem dX1_meet_47 : decode cX1_meet 47 = .ok (.goto 20, 3) := by decide +kernel
theorem dX1_meet_50 : decode cX1_meet 50 = .ok (.iload_n 2, 1) := by decide +kernel
theorem dX1_meet_51 : decode cX1_meet 51 = .ok (.aload_n 0, 1) := by decide +kernel
theorem dX1_meet_52 : decode cX1_meet 52 = .ok (.getfield 15, 3) := by decide +kernel
theorem dX1_meet_55 : decode cX1_meet 55 = .ok (.iload_n 1, 1) := by decide +kernel
theorem dX1_meet_56 : decode cX1_meet 56 = .ok (.iaload, 1) := by decide +kernel
theorem dX1_meet_57 : decode cX1_meet 57 = .ok (.if_icmp .ge 10, 3) := by decide +kernel
theorem dX1_meet_60 : decode cX1_meet 60 = .ok (.aload_n 0, 1) := by decide +kernel
theorem dX1_meet_61 : decode cX1_meet 61 = .ok (.getfield 15, 3) := by decide +kernel
theorem dX1_meet_64 : decode cX1_meet 64 = .ok (.iload_n 1, 1) := by decide +kernel
theorem dX1_meet_65 : decode cX1_meet 65 = .ok (.iload_n 2, 1) := by decide +kernel
theorem dX1_meet_66 : decode cX1_meet 66 = .ok (.iastore, 1) := by decide +kernel
theorem dX1_meet_67 : decode cX1_meet 67 = .ok (.return_, 1) := by decide +kernel
theorem dX1_takeNearest_0 : decode cX1_takeNearest 0 = .ok (.iconst 0, 1) := by decide +kernel
theorem dX1_takeNearest_1 : decode cX1_takeNearest 1 = .ok (.istore_n 1, 1) := by decide +kernel
theorem dX1_takeNearest_2 : decode cX1_takeNearest 2 = .ok (.iconst 1, 1) := by decide +kernel
theorem dX1_takeNearest_3 : decode cX1_takeNearest 3 = .ok (.istore_n 2, 1) := by decide +kernel
theorem dX1_takeNearest_4 : decode cX1_takeNearest 4 = .ok (.iload_n 2, 1) := by decide +kernel
theorem dX1_takeNearest_5 : decode cX1_takeNearest 5 = .ok (.aload_n 0, 1) := by decide +kernel
theorem dX1_takeNearest_6 : decode cX1_takeNearest 6 = .ok (.getfield 22, 3) := by decide +kernel
theorem dX1_takeNearest_9 : decode cX1_takeNearest 9 = .ok (.if_icmp .ge 36, 3) := by decide +kernel
theorem dX1_takeNearest_12 : decode cX1_takeNearest 12 = .ok (.aload_n 0, 1) := by decide +kernel
theorem dX1_takeNearest_13 : decode cX1_takeNearest 13 = .ok (.getfield 15, 3) := by decide +kernel
theorem dX1_takeNearest_16 : decode cX1_takeNearest 16 = .ok (.aload_n 0, 1) := by decide +kernel
theorem dX1_takeNearest_17 : decode cX1_takeNearest 17 = .ok (.getfield 19, 3) := by decide +kernel
theorem dX1_takeNearest_20 : decode cX1_takeNearest 20 = .ok (.iload_n 2, 1) := by decide +kernel
theorem dX1_takeNearest_21 : decode cX1_takeNearest 21 = .ok (.iaload, 1) := by decide +kernel
theorem dX1_takeNearest_22 : decode cX1_takeNearest 22 = .ok (.iaload, 1) := by decide +kernel
theorem dX1_takeNearest_23 : decode cX1_takeNearest 23 = .ok (.aload_n 0, 1) := by decide +kernel
theorem dX1_takeNearest_24 : decode cX1_takeNearest 24 = .ok (.getfield 15, 3) := by decide +kernel
theorem dX1_takeNearest_27 : decode cX1_takeNearest 27 = .ok (.aload_n 0, 1) := by decide +kernel
theorem dX1_takeNearest_28 : decode cX1_takeNearest 28 = .ok (.getfield 19, 3) := by decide +kernel
theorem dX1_takeNearest_31 : decode cX1_takeNearest 31 = .ok (.iload_n 1, 1) := by decide +kernel
theorem dX1_takeNearest_32 : decode cX1_takeNearest 32 = .ok (.iaload, 1) := by decide +kernel
theorem dX1_takeNearest_33 : decode cX1_takeNearest 33 = .ok (.iaload, 1) := by decide +kernel
theorem dX1_takeNearest_34 : decode cX1_takeNearest 34 = .ok (.if_icmp .ge 5, 3) := by decide +kernel
theorem dX1_takeNearest_37 : decode cX1_takeNearest 37 = .ok (.iload_n 2, 1) := by decide +kernel
theorem dX1_takeNearest_38 : decode cX1_takeNearest 38 = .ok (.istore_n 1, 1) := by decide +kernel
theorem dX1_takeNearest_39 : decode cX1_takeNearest 39 = .ok (.iinc 2 1, 3) := by decide +kernel
theorem dX1_takeNearest_42 : decode cX1_takeNearest 42 = .ok (.goto (-38), 3) := by decide +kernel
theorem dX1_takeNearest_45 : decode cX1_takeNearest 45 = .ok (.aload_n 0, 1) := by decide +kernel
theorem dX1_takeNearest_46 : decode cX1_takeNearest 46 = .ok (.getfield 19, 3) := by decide +kernel
theorem dX1_takeNearest_49 : decode cX1_takeNearest 49 = .ok (.iload_n 1, 1) := by decide +kernel
theorem dX1_takeNearest_50 : decode cX1_takeNearest 50 = .ok (.iaload, 1) := by decide +kernel
theorem dX1_takeNearest_51 : decode cX1_takeNearest 51 = .ok (.istore_n 2, 1) := by decide +kernel
theorem dX1_takeNearest_52 : decode cX1_takeNearest 52 = .ok (.aload_n 0, 1) := by decide +kernel
theorem dX1_takeNearest_53 : decode cX1_takeNearest 53 = .ok (.dup, 1) := by decide +kernel
theorem dX1_takeNearest_54 : decode cX1_takeNearest 54 = .ok (.getfield 22, 3) := by decide +kernel
theorem dX1_takeNearest_57 : decode cX1_takeNearest 57 = .ok (.iconst 1, 1) := by decide +kernel
theorem dX1_takeNearest_58 : decode cX1_takeNearest 58 = .ok (.isub, 1) := by decide +kernel
theorem dX1_takeNearest_59 : decode cX1_takeNearest 59 = .ok (.putfield 22, 3) := by decide +kernel
theorem dX1_takeNearest_62 : decode cX1_takeNearest 62 = .ok (.aload_n 0, 1) := by decide +kernel
theorem dX1_takeNearest_63 : decode cX1_takeNearest 63 = .ok (.getfield 19, 3) := by decide +kernel
theorem dX1_takeNearest_66 : decode cX1_takeNearest 66 = .ok (.iload_n 1, 1) := by decide +kernel
theorem dX1_takeNearest_67 : decode cX1_takeNearest 67 = .ok (.aload_n 0, 1) := by decide +kernel
theorem dX1_takeNearest_68 : decode cX1_takeNearest 68 = .ok (.getfield 19, 3) := by decide +kernel
theorem dX1_takeNearest_71 : decode cX1_takeNearest 71 = .ok (.aload_n 0, 1) := by decide +kernel
theorem dX1_takeNearest_72 : decode cX1_takeNearest 72 = .ok (.getfield 22, 3) := by decide +kernel
theorem dX1_takeNearest_75 : decode cX1_takeNearest 75 = .ok (.iaload, 1) := by decide +kernel
theorem dX1_takeNearest_76 : decode cX1_takeNearest 76 = .ok (.iastore, 1) := by decide +kernel
theorem dX1_takeNearest_77 : decode cX1_takeNearest 77 = .ok (.iload_n 2, 1) := by decide +kernel
theorem dX1_takeNearest_78 : decode cX1_takeNearest 78 = .ok (.ireturn, 1) := by decide +kernel
theorem dX2_init_0 : decode cX2_init 0 = .ok (.aload_n 0, 1) := by decide +kernel
theorem dX2_init_1 : decode cX2_init 1 = .ok (.invokespecial 3, 3) := by decide +kernel
theorem dX2_init_4 : decode cX2_init 4 = .ok (.aload_n 0, 1) := by decide +kernel
theorem dX2_init_5 : decode cX2_init 5 = .ok (.bipush 14, 2) := by decide +kernel
theorem dX2_init_7 : decode cX2_init 7 = .ok (.newarray .int, 2) := by decide +kernel
theorem dX2_init_9 : decode cX2_init 9 = .ok (.putfield 9, 3) := by decide +kernel
theorem dX2_init_12 : decode cX2_init 12 = .ok (.aload_n 0, 1) := by decide +kernel
theorem dX2_init_13 : decode cX2_init 13 = .ok (.bipush 14, 2) := by decide +kernel
theorem dX2_init_15 : decode cX2_init 15 = .ok (.newarray .int, 2) := by decide +kernel
theorem dX2_init_17 : decode cX2_init 17 = .ok (.putfield 15, 3) := by decide +kernel
theorem dX2_init_20 : decode cX2_init 20 = .ok (.return_, 1) := by decide +kernel
theorem dX2_most_0 : decode cX2_most 0 = .ok (.aload_n 0, 1) := by decide +kernel
theorem dX2_most_1 : decode cX2_most 1 = .ok (.getfield 9, 3) := by decide +kernel
theorem dX2_most_4 : decode cX2_most 4 = .ok (.iconst 0, 1) := by decide +kernel
theorem dX2_most_5 : decode cX2_most 5 = .ok (.invokestatic 18, 3) := by decide +kernel
theorem dX2_most_8 : decode cX2_most 8 = .ok (.iconst 0, 1) := by decide +kernel
theorem dX2_most_9 : decode cX2_most 9 = .ok (.istore_n 2, 1) := by decide +kernel
theorem dX2_most_10 : decode cX2_most 10 = .ok (.iload_n 2, 1) := by decide +kernel
theorem dX2_most_11 : decode cX2_most 11 = .ok (.bipush 20, 2) := by decide +kernel
theorem dX2_most_13 : decode cX2_most 13 = .ok (.if_icmp .ge 58, 3) := by decide +kernel
theorem dX2_most_16 : decode cX2_most 16 = .ok (.aload_n 0, 1) := by decide +kernel
theorem dX2_most_17 : decode cX2_most 17 = .ok (.getfield 9, 3) := by decide +kernel
theorem dX2_most_20 : decode cX2_most 20 = .ok (.iconst 0, 1) := by decide +kernel
theorem dX2_most_21 : decode cX2_most 21 = .ok (.aload_n 0, 1) := by decide +kernel
theorem dX2_most_22 : decode cX2_most 22 = .ok (.getfield 15, 3) := by decide +kernel
theorem dX2_most_25 : decode cX2_most 25 = .ok (.iconst 0, 1) := by decide +kernel
theorem dX2_most_26 : decode cX2_most 26 = .ok (.bipush 14, 2) := by decide +kernel
theorem dX2_most_28 : decode cX2_most 28 = .ok (.invokestatic 24, 3) := by decide +kernel
theorem dX2_most_31 : decode cX2_most 31 = .ok (.iconst 0, 1) := by decide +kernel
theorem dX2_most_32 : decode cX2_most 32 = .ok (.istore_n 3, 1) := by decide +kernel
theorem dX2_most_33 : decode cX2_most 33 = .ok (.iload_n 3, 1) := by decide +kernel
theorem dX2_most_34 : decode cX2_most 34 = .ok (.bipush 14, 2) := by decide +kernel
theorem dX2_most_36 : decode cX2_most 36 = .ok (.if_icmp .ge 29, 3) := by decide +kernel
theorem dX2_most_39 : decode cX2_most 39 = .ok (.aload_n 0, 1) := by decide +kernel
theorem dX2_most_40 : decode cX2_most 40 = .ok (.getfield 9, 3) := by decide +kernel
theorem dX2_most_43 : decode cX2_most 43 = .ok (.iload_n 3, 1) := by decide +kernel
theorem dX2_most_44 : decode cX2_most 44 = .ok (.aload_n 0, 1) := by decide +kernel
theorem dX2_most_45 : decode cX2_most 45 = .ok (.iload_n 3, 1) := by decide +kernel
theorem dX2_most_46 : decode cX2_most 46 = .ok (.invokevirtual 30, 3) := by decide +kernel
theorem dX2_most_49 : decode cX2_most 49 = .ok (.aload_n 1, 1) := by decide +kernel
theorem dX2_most_50 : decode cX2_most 50 = .ok (.iload_n 3, 1) := by decide +kernel
theorem dX2_most_51 : decode cX2_most 51 = .ok (.bipush 20, 2) := by decide +kernel
theorem dX2_most_53 : decode cX2_most 53 = .ok (.imul, 1) := by decide +kernel
theorem dX2_most_54 : decode cX2_most 54 = .ok (.iload_n 2, 1) := by decide +kernel
theorem dX2_most_55 : decode cX2_most 55 = .ok (.iadd, 1) := by decide +kernel
theorem dX2_most_56 : decode cX2_most 56 = .ok (.iaload, 1) := by decide +kernel
theorem dX2_most_57 : decode cX2_most 57 = .ok (.iadd, 1) := by decide +kernel
theorem dX2_most_58 : decode cX2_most 58 = .ok (.iastore, 1) := by decide +kernel
theorem dX2_most_59 : decode cX2_most 59 = .ok (.iinc 3 1, 3) := by decide +kernel
theorem dX2_most_62 : decode cX2_most 62 = .ok (.goto (-29), 3) := by decide +kernel
theorem dX2_most_65 : decode cX2_most 65 = .ok (.iinc 2 1, 3) := by decide +kernel
theorem dX2_most_68 : decode cX2_most 68 = .ok (.goto (-58), 3) := by decide +kernel
theorem dX2_most_71 : decode cX2_most 71 = .ok (.iconst 0, 1) := by decide +kernel
theorem dX2_most_72 : decode cX2_most 72 = .ok (.istore_n 2, 1) := by decide +kernel
theorem dX2_most_73 : decode cX2_most 73 = .ok (.iconst 0, 1) := by decide +kernel
theorem dX2_most_74 : decode cX2_most 74 = .ok (.istore_n 3, 1) := by decide +kernel
theorem dX2_most_75 : decode cX2_most 75 = .ok (.iload_n 3, 1) := by decide +kernel
theorem dX2_most_76 : decode cX2_most 76 = .ok (.bipush 14, 2) := by decide +kernel
theorem dX2_most_78 : decode cX2_most 78 = .ok (.if_icmp .ge 20, 3) := by decide +kernel
theorem dX2_most_81 : decode cX2_most 81 = .ok (.iload_n 2, 1) := by decide +kernel
theorem dX2_most_82 : decode cX2_most 82 = .ok (.aload_n 0, 1) := by decide +kernel
theorem dX2_most_83 : decode cX2_most 83 = .ok (.getfield 9, 3) := by decide +kernel
theorem dX2_most_86 : decode cX2_most 86 = .ok (.iload_n 3, 1) := by decide +kernel
theorem dX2_most_87 : decode cX2_most 87 = .ok (.iaload, 1) := by decide +kernel
theorem dX2_most_88 : decode cX2_most 88 = .ok (.invokestatic 34, 3) := by decide +kernel
theorem dX2_most_91 : decode cX2_most 91 = .ok (.istore_n 2, 1) := by decide +kernel
theorem dX2_most_92 : decode cX2_most 92 = .ok (.iinc 3 1, 3) := by decide +kernel
theorem dX2_most_95 : decode cX2_most 95 = .ok (.goto (-20), 3) := by decide +kernel
theorem dX2_most_98 : decode cX2_most 98 = .ok (.iload_n 2, 1) := by decide +kernel
theorem dX2_most_99 : decode cX2_most 99 = .ok (.ireturn, 1) := by decide +kernel
theorem dX2_bestBefore_0 : decode cX2_bestBefore 0 = .ok (.aload_n 0, 1) := by decide +kernel
theorem dX2_bestBefore_1 : decode cX2_bestBefore 1 = .ok (.getfield 15, 3) := by decide +kernel
theorem dX2_bestBefore_4 : decode cX2_bestBefore 4 = .ok (.iload_n 1, 1) := by decide +kernel
theorem dX2_bestBefore_5 : decode cX2_bestBefore 5 = .ok (.iaload, 1) := by decide +kernel
theorem dX2_bestBefore_6 : decode cX2_bestBefore 6 = .ok (.istore_n 2, 1) := by decide +kernel
theorem dX2_bestBefore_7 : decode cX2_bestBefore 7 = .ok (.iload_n 1, 1) := by decide +kernel
theorem dX2_bestBefore_8 : decode cX2_bestBefore 8 = .ok (.ifCond .le 16, 3) := by decide +kernel
theorem dX2_bestBefore_11 : decode cX2_bestBefore 11 = .ok (.iload_n 2, 1) := by decide +kernel
theorem dX2_bestBefore_12 : decode cX2_bestBefore 12 = .ok (.aload_n 0, 1) := by decide +kernel
theorem dX2_bestBefore_13 : decode cX2_bestBefore 13 = .ok (.getfield 15, 3) := by decide +kernel
theorem dX2_bestBefore_16 : decode cX2_bestBefore 16 = .ok (.iload_n 1, 1) := by decide +kernel
theorem dX2_bestBefore_17 : decode cX2_bestBefore 17 = .ok (.iconst 1, 1) := by decide +kernel
theorem dX2_bestBefore_18 : decode cX2_bestBefore 18 = .ok (.isub, 1) := by decide +kernel
theorem dX2_bestBefore_19 : decode cX2_bestBefore 19 = .ok (.iaload, 1) := by decide +kernel
theorem dX2_bestBefore_20 : decode cX2_bestBefore 20 = .ok (.invokestatic 34, 3) := by decide +kernel
theorem dX2_bestBefore_23 : decode cX2_bestBefore 23 = .ok (.istore_n 2, 1) := by decide +kernel
theorem dX2_bestBefore_24 : decode cX2_bestBefore 24 = .ok (.iload_n 1, 1) := by decide +kernel
theorem dX2_bestBefore_25 : decode cX2_bestBefore 25 = .ok (.bipush 13, 2) := by decide +kernel
theorem dX2_bestBefore_27 : decode cX2_bestBefore 27 = .ok (.if_icmp .ge 16, 3) := by decide +kernel
theorem dX2_bestBefore_30 : decode cX2_bestBefore 30 = .ok (.iload_n 2, 1) := by decide +kernel
theorem dX2_bestBefore_31 : decode cX2_bestBefore 31 = .ok (.aload_n 0, 1) := by decide +kernel
theorem dX2_bestBefore_32 : decode cX2_bestBefore 32 = .ok (.getfield 15, 3) := by decide +kernel
theorem dX2_bestBefore_35 : decode cX2_bestBefore 35 = .ok (.iload_n 1, 1) := by decide +kernel
theorem dX2_bestBefore_36 : decode cX2_bestBefore 36 = .ok (.iconst 1, 1) := by decide +kernel
theorem dX2_bestBefore_37 : decode cX2_bestBefore 37 = .ok (.iadd, 1) := by decide +kernel
theorem dX2_bestBefore_38 : decode cX2_bestBefore 38 = .ok (.iaload, 1) := by decide +kernel
theorem dX2_bestBefore_39 : decode cX2_bestBefore 39 = .ok (.invokestatic 34, 3) := by decide +kernel
theorem dX2_bestBefore_42 : decode cX2_bestBefore 42 = .ok (.istore_n 2, 1) := by decide +kernel
theorem dX2_bestBefore_43 : decode cX2_bestBefore 43 = .ok (.iload_n 2, 1) := by decide +kernel
theorem dX2_bestBefore_44 : decode cX2_bestBefore 44 = .ok (.ireturn, 1) := by decide +kernel
theorem dX3_init_0 : decode cX3_init 0 = .ok (.aload_n 0, 1) := by decide +kernel
theorem dX3_init_1 : decode cX3_init 1 = .ok (.invokespecial 3, 3) := by decide +kernel
theorem dX3_init_4 : decode cX3_init 4 = .ok (.aload_n 0, 1) := by decide +kernel
theorem dX3_init_5 : decode cX3_init 5 = .ok (.new 9, 3) := by decide +kernel
theorem dX3_init_8 : decode cX3_init 8 = .ok (.dup, 1) := by decide +kernel
theorem dX3_init_9 : decode cX3_init 9 = .ok (.invokespecial 11, 3) := by decide +kernel
theorem dX3_init_12 : decode cX3_init 12 = .ok (.putfield 12, 3) := by decide +kernel
theorem dX3_init_15 : decode cX3_init 15 = .ok (.aload_n 0, 1) := by decide +kernel
theorem dX3_init_16 : decode cX3_init 16 = .ok (.bipush 21, 2) := by decide +kernel
theorem dX3_init_18 : decode cX3_init 18 = .ok (.newarray .int, 2) := by decide +kernel
theorem dX3_init_20 : decode cX3_init 20 = .ok (.putfield 18, 3) := by decide +kernel
theorem dX3_init_23 : decode cX3_init 23 = .ok (.aload_n 0, 1) := by decide +kernel
theorem dX3_init_24 : decode cX3_init 24 = .ok (.bipush 21, 2) := by decide +kernel
theorem dX3_init_26 : decode cX3_init 26 = .ok (.newarray .int, 2) := by decide +kernel
theorem dX3_init_28 : decode cX3_init 28 = .ok (.putfield 22, 3) := by decide +kernel
theorem dX3_init_31 : decode cX3_init 31 = .ok (.return_, 1) := by decide +kernel
theorem dX3_wrap_0 : decode cX3_wrap 0 = .ok (.aload_n 0, 1) := by decide +kernel
theorem dX3_wrap_1 : decode cX3_wrap 1 = .ok (.getfield 18, 3) := by decide +kernel
theorem dX3_wrap_4 : decode cX3_wrap 4 = .ok (.bipush 15, 2) := by decide +kernel
theorem dX3_wrap_6 : decode cX3_wrap 6 = .ok (.invokestatic 25, 3) := by decide +kernel
theorem dX3_wrap_9 : decode cX3_wrap 9 = .ok (.aload_n 0, 1) := by decide +kernel
theorem dX3_wrap_10 : decode cX3_wrap 10 = .ok (.getfield 22, 3) := by decide +kernel
theorem dX3_wrap_13 : decode cX3_wrap 13 = .ok (.iconst (-1), 1) := by decide +kernel
theorem dX3_wrap_14 : decode cX3_wrap 14 = .ok (.invokestatic 25, 3) := by decide +kernel
theorem dX3_wrap_17 : decode cX3_wrap 17 = .ok (.iconst 0, 1) := by decide +kernel
theorem dX3_wrap_18 : decode cX3_wrap 18 = .ok (.istore_n 2, 1) := by decide +kernel
theorem dX3_wrap_19 : decode cX3_wrap 19 = .ok (.iload_n 2, 1) := by decide +kernel
theorem dX3_wrap_20 : decode cX3_wrap 20 = .ok (.sipush 280, 3) := by decide +kernel
theorem dX3_wrap_23 : decode cX3_wrap 23 = .ok (.if_icmp .ge 47, 3) := by decide +kernel
theorem dX3_wrap_26 : decode cX3_wrap 26 = .ok (.iload_n 2, 1) := by decide +kernel
theorem dX3_wrap_27 : decode cX3_wrap 27 = .ok (.aload_n 1, 1) := by decide +kernel
theorem dX3_wrap_28 : decode cX3_wrap 28 = .ok (.arraylength, 1) := by decide +kernel
theorem dX3_wrap_29 : decode cX3_wrap 29 = .ok (.if_icmp .ge 41, 3) := by decide +kernel
theorem dX3_wrap_32 : decode cX3_wrap 32 = .ok (.aload_n 1, 1) := by decide +kernel
theorem dX3_wrap_33 : decode cX3_wrap 33 = .ok (.iload_n 2, 1) := by decide +kernel
theorem dX3_wrap_34 : decode cX3_wrap 34 = .ok (.iaload, 1) := by decide +kernel
theorem dX3_wrap_35 : decode cX3_wrap 35 = .ok (.ifCond .le 29, 3) := by decide +kernel
theorem dX3_wrap_38 : decode cX3_wrap 38 = .ok (.aload_n 0, 1) := by decide +kernel
theorem dX3_wrap_39 : decode cX3_wrap 39 = .ok (.iload_n 2, 1) := by decide +kernel
theorem dX3_wrap_40 : decode cX3_wrap 40 = .ok (.bipush 20, 2) := by decide +kernel
theorem dX3_wrap_42 : decode cX3_wrap 42 = .ok (.irem, 1) := by decide +kernel
theorem dX3_wrap_43 : decode cX3_wrap 43 = .ok (.iload_n 2, 1) := by decide +kernel
theorem dX3_wrap_44 : decode cX3_wrap 44 = .ok (.bipush 20, 2) := by decide +kernel
theorem dX3_wrap_46 : decode cX3_wrap 46 = .ok (.idiv, 1) := by decide +kernel
theorem dX3_wrap_47 : decode cX3_wrap 47 = .ok (.invokevirtual 31, 3) := by decide +kernel
theorem dX3_wrap_50 : decode cX3_wrap 50 = .ok (.aload_n 0, 1) := by decide +kernel
theorem dX3_wrap_51 : decode cX3_wrap 51 = .ok (.iload_n 2, 1) := by decide +kernel
theorem dX3_wrap_52 : decode cX3_wrap 52 = .ok (.bipush 20, 2) := by decide +kernel
theorem dX3_wrap_54 : decode cX3_wrap 54 = .ok (.irem, 1) := by decide +kernel
theorem dX3_wrap_55 : decode cX3_wrap 55 = .ok (.iconst 1, 1) := by decide +kernel
theorem dX3_wrap_56 : decode cX3_wrap 56 = .ok (.iadd, 1) := by decide +kernel
theorem dX3_wrap_57 : decode cX3_wrap 57 = .ok (.iload_n 2, 1) := by decide +kernel
theorem dX3_wrap_58 : decode cX3_wrap 58 = .ok (.bipush 20, 2) := by decide +kernel
theorem dX3_wrap_60 : decode cX3_wrap 60 = .ok (.idiv, 1) := by decide +kernel
theorem dX3_wrap_61 : decode cX3_wrap 61 = .ok (.invokevirtual 31, 3) := by decide +kernel
theorem dX3_wrap_64 : decode cX3_wrap 64 = .ok (.iinc 2 1, 3) := by decide +kernel
theorem dX3_wrap_67 : decode cX3_wrap 67 = .ok (.goto (-48), 3) := by decide +kernel
theorem dX3_wrap_70 : decode cX3_wrap 70 = .ok (.aload_n 0, 1) := by decide +kernel
theorem dX3_wrap_71 : decode cX3_wrap 71 = .ok (.getfield 12, 3) := by decide +kernel
theorem dX3_wrap_74 : decode cX3_wrap 74 = .ok (.iconst 0, 1) := by decide +kernel
theorem dX3_wrap_75 : decode cX3_wrap 75 = .ok (.putfield 35, 3) := by decide +kernel
theorem dX3_wrap_78 : decode cX3_wrap 78 = .ok (.aload_n 0, 1) := by decide +kernel
theorem dX3_wrap_79 : decode cX3_wrap 79 = .ok (.invokevirtual 39, 3) := by decide +kernel
theorem dX3_wrap_82 : decode cX3_wrap 82 = .ok (.aload_n 0, 1) := by decide +kernel
theorem dX3_wrap_83 : decode cX3_wrap 83 = .ok (.aload_n 0, 1) := by decide +kernel
theorem dX3_wrap_84 : decode cX3_wrap 84 = .ok (.getfield 12, 3) := by decide +kernel
theorem dX3_wrap_87 : decode cX3_wrap 87 = .ok (.getfield 35, 3) := by decide +kernel
theorem dX3_wrap_90 : decode cX3_wrap 90 = .ok (.invokevirtual 42, 3) := by decide +kernel
theorem dX3_wrap_93 : decode cX3_wrap 93 = .ok (.return_, 1) := by decide +kernel
theorem dX3_stretch_0 : decode cX3_stretch 0 = .ok (.aload_n 0, 1) := by decide +kernel
theorem dX3_stretch_1 : decode cX3_stretch 1 = .ok (.getfield 18, 3) := by decide +kernel
theorem dX3_stretch_4 : decode cX3_stretch 4 = .ok (.iload_n 1, 1) := by decide +kernel
theorem dX3_stretch_5 : decode cX3_stretch 5 = .ok (.aload_n 0, 1) := by decide +kernel
theorem dX3_stretch_6 : decode cX3_stretch 6 = .ok (.getfield 18, 3) := by decide +kernel
theorem dX3_stretch_9 : decode cX3_stretch 9 = .ok (.iload_n 1, 1) := by decide +kernel
theorem dX3_stretch_10 : decode cX3_stretch 10 = .ok (.iaload, 1) := by decide +kernel
theorem dX3_stretch_11 : decode cX3_stretch 11 = .ok (.iload_n 2, 1) := by decide +kernel
theorem dX3_stretch_12 : decode cX3_stretch 12 = .ok (.invokestatic 46, 3) := by decide +kernel
theorem dX3_stretch_15 : decode cX3_stretch 15 = .ok (.iastore, 1) := by decide +kernel
theorem dX3_stretch_16 : decode cX3_stretch 16 = .ok (.aload_n 0, 1) := by decide +kernel
theorem dX3_stretch_17 : decode cX3_stretch 17 = .ok (.getfield 22, 3) := by decide +kernel
theorem dX3_stretch_20 : decode cX3_stretch 20 = .ok (.iload_n 1, 1) := by decide +kernel
theorem dX3_stretch_21 : decode cX3_stretch 21 = .ok (.aload_n 0, 1) := by decide +kernel
theorem dX3_stretch_22 : decode cX3_stretch 22 = .ok (.getfield 22, 3) := by decide +kernel
theorem dX3_stretch_25 : decode cX3_stretch 25 = .ok (.iload_n 1, 1) := by decide +kernel
theorem dX3_stretch_26 : decode cX3_stretch 26 = .ok (.iaload, 1) := by decide +kernel
theorem dX3_stretch_27 : decode cX3_stretch 27 = .ok (.iload_n 2, 1) := by decide +kernel
theorem dX3_stretch_28 : decode cX3_stretch 28 = .ok (.iconst 1, 1) := by decide +kernel
theorem dX3_stretch_29 : decode cX3_stretch 29 = .ok (.iadd, 1) := by decide +kernel
theorem dX3_stretch_30 : decode cX3_stretch 30 = .ok (.invokestatic 52, 3) := by decide +kernel
theorem dX3_stretch_33 : decode cX3_stretch 33 = .ok (.iastore, 1) := by decide +kernel
theorem dX3_stretch_34 : decode cX3_stretch 34 = .ok (.return_, 1) := by decide +kernel
theorem dX3_goBelow_0 : decode cX3_goBelow 0 = .ok (.iconst 0, 1) := by decide +kernel
theorem dX3_goBelow_1 : decode cX3_goBelow 1 = .ok (.istore_n 1, 1) := by decide +kernel
theorem dX3_goBelow_2 : decode cX3_goBelow 2 = .ok (.iload_n 1, 1) := by decide +kernel
theorem dX3_goBelow_3 : decode cX3_goBelow 3 = .ok (.bipush 20, 2) := by decide +kernel
theorem dX3_goBelow_5 : decode cX3_goBelow 5 = .ok (.if_icmp .gt 48, 3) := by decide +kernel
theorem dX3_goBelow_8 : decode cX3_goBelow 8 = .ok (.aload_n 0, 1) := by decide +kernel
theorem dX3_goBelow_9 : decode cX3_goBelow 9 = .ok (.getfield 22, 3) := by decide +kernel
theorem dX3_goBelow_12 : decode cX3_goBelow 12 = .ok (.iload_n 1, 1) := by decide +kernel
theorem dX3_goBelow_13 : decode cX3_goBelow 13 = .ok (.iaload, 1) := by decide +kernel
theorem dX3_goBelow_14 : decode cX3_goBelow 14 = .ok (.iconst (-1), 1) := by decide +kernel
theorem dX3_goBelow_15 : decode cX3_goBelow 15 = .ok (.if_icmp .eq 32, 3) := by decide +kernel
theorem dX3_goBelow_18 : decode cX3_goBelow 18 = .ok (.aload_n 0, 1) := by decide +kernel
theorem dX3_goBelow_19 : decode cX3_goBelow 19 = .ok (.getfield 12, 3) := by decide +kernel
theorem dX3_goBelow_22 : decode cX3_goBelow 22 = .ok (.iconst 0, 1) := by decide +kernel
theorem dX3_goBelow_23 : decode cX3_goBelow 23 = .ok (.iload_n 1, 1) := by decide +kernel
theorem dX3_goBelow_24 : decode cX3_goBelow 24 = .ok (.aload_n 0, 1) := by decide +kernel
theorem dX3_goBelow_25 : decode cX3_goBelow 25 = .ok (.getfield 18, 3) := by decide +kernel
theorem dX3_goBelow_28 : decode cX3_goBelow 28 = .ok (.iload_n 1, 1) := by decide +kernel
theorem dX3_goBelow_29 : decode cX3_goBelow 29 = .ok (.iaload, 1) := by decide +kernel
theorem dX3_goBelow_30 : decode cX3_goBelow 30 = .ok (.invokevirtual 55, 3) := by decide +kernel
theorem dX3_goBelow_33 : decode cX3_goBelow 33 = .ok (.aload_n 0, 1) := by decide +kernel
theorem dX3_goBelow_34 : decode cX3_goBelow 34 = .ok (.getfield 12, 3) := by decide +kernel
theorem dX3_goBelow_37 : decode cX3_goBelow 37 = .ok (.iload_n 1, 1) := by decide +kernel
theorem dX3_goBelow_38 : decode cX3_goBelow 38 = .ok (.aload_n 0, 1) := by decide +kernel
theorem dX3_goBelow_39 : decode cX3_goBelow 39 = .ok (.getfield 18, 3) := by decide +kernel
theorem dX3_goBelow_42 : decode cX3_goBelow 42 = .ok (.iload_n 1, 1) := by decide +kernel
theorem dX3_goBelow_43 : decode cX3_goBelow 43 = .ok (.iaload, 1) := by decide +kernel
theorem dX3_goBelow_44 : decode cX3_goBelow 44 = .ok (.invokevirtual 59, 3) := by decide +kernel
theorem dX3_goBelow_47 : decode cX3_goBelow 47 = .ok (.iinc 1 1, 3) := by decide +kernel
theorem dX3_goBelow_50 : decode cX3_goBelow 50 = .ok (.goto (-48), 3) := by decide +kernel
theorem dX3_goBelow_53 : decode cX3_goBelow 53 = .ok (.return_, 1) := by decide +kernel
theorem dX3_goAbove_0 : decode cX3_goAbove 0 = .ok (.bipush 20, 2) := by decide +kernel
theorem dX3_goAbove_2 : decode cX3_goAbove 2 = .ok (.istore_n 2, 1) := by decide +kernel
theorem dX3_goAbove_3 : decode cX3_goAbove 3 = .ok (.iload_n 2, 1) := by decide +kernel
theorem dX3_goAbove_4 : decode cX3_goAbove 4 = .ok (.ifCond .lt 48, 3) := by decide +kernel
theorem dX3_goAbove_7 : decode cX3_goAbove 7 = .ok (.aload_n 0, 1) := by decide +kernel
theorem dX3_goAbove_8 : decode cX3_goAbove 8 = .ok (.getfield 22, 3) := by decide +kernel
theorem dX3_goAbove_11 : decode cX3_goAbove 11 = .ok (.iload_n 2, 1) := by decide +kernel
theorem dX3_goAbove_12 : decode cX3_goAbove 12 = .ok (.iaload, 1) := by decide +kernel
theorem dX3_goAbove_13 : decode cX3_goAbove 13 = .ok (.iconst (-1), 1) := by decide +kernel
theorem dX3_goAbove_14 : decode cX3_goAbove 14 = .ok (.if_icmp .eq 32, 3) := by decide +kernel
theorem dX3_goAbove_17 : decode cX3_goAbove 17 = .ok (.aload_n 0, 1) := by decide +kernel
theorem dX3_goAbove_18 : decode cX3_goAbove 18 = .ok (.getfield 12, 3) := by decide +kernel
theorem dX3_goAbove_21 : decode cX3_goAbove 21 = .ok (.iload_n 1, 1) := by decide +kernel
theorem dX3_goAbove_22 : decode cX3_goAbove 22 = .ok (.iload_n 2, 1) := by decide +kernel
theorem dX3_goAbove_23 : decode cX3_goAbove 23 = .ok (.aload_n 0, 1) := by decide +kernel
theorem dX3_goAbove_24 : decode cX3_goAbove 24 = .ok (.getfield 22, 3) := by decide +kernel
theorem dX3_goAbove_27 : decode cX3_goAbove 27 = .ok (.iload_n 2, 1) := by decide +kernel
theorem dX3_goAbove_28 : decode cX3_goAbove 28 = .ok (.iaload, 1) := by decide +kernel
theorem dX3_goAbove_29 : decode cX3_goAbove 29 = .ok (.invokevirtual 55, 3) := by decide +kernel
theorem dX3_goAbove_32 : decode cX3_goAbove 32 = .ok (.aload_n 0, 1) := by decide +kernel
theorem dX3_goAbove_33 : decode cX3_goAbove 33 = .ok (.getfield 12, 3) := by decide +kernel
theorem dX3_goAbove_36 : decode cX3_goAbove 36 = .ok (.iload_n 2, 1) := by decide +kernel
theorem dX3_goAbove_37 : decode cX3_goAbove 37 = .ok (.aload_n 0, 1) := by decide +kernel
theorem dX3_goAbove_38 : decode cX3_goAbove 38 = .ok (.getfield 22, 3) := by decide +kernel
theorem dX3_goAbove_41 : decode cX3_goAbove 41 = .ok (.iload_n 2, 1) := by decide +kernel
theorem dX3_goAbove_42 : decode cX3_goAbove 42 = .ok (.iaload, 1) := by decide +kernel
theorem dX3_goAbove_43 : decode cX3_goAbove 43 = .ok (.invokevirtual 59, 3) := by decide +kernel
theorem dX3_goAbove_46 : decode cX3_goAbove 46 = .ok (.iinc 2 (-1), 3) := by decide +kernel
theorem dX3_goAbove_49 : decode cX3_goAbove 49 = .ok (.goto (-46), 3) := by decide +kernel
theorem dX3_goAbove_52 : decode cX3_goAbove 52 = .ok (.return_, 1) := by decide +kernel
theorem dX4_init_0 : decode cX4_init 0 = .ok (.aload_n 0, 1) := by decide +kernel
theorem dX4_init_1 : decode cX4_init 1 = .ok (.invokespecial 3, 3) := by decide +kernel
theorem dX4_init_4 : decode cX4_init 4 = .ok (.aload_n 0, 1) := by decide +kernel
theorem dX4_init_5 : decode cX4_init 5 = .ok (.bipush 42, 2) := by decide +kernel
theorem dX4_init_7 : decode cX4_init 7 = .ok (.newarray .int, 2) := by decide +kernel
theorem dX4_init_9 : decode cX4_init 9 = .ok (.putfield 9, 3) := by decide +kernel
theorem dX4_init_12 : decode cX4_init 12 = .ok (.aload_n 0, 1) := by decide +kernel
theorem dX4_init_13 : decode cX4_init 13 = .ok (.bipush 42, 2) := by decide +kernel
theorem dX4_init_15 : decode cX4_init 15 = .ok (.newarray .int, 2) := by decide +kernel
theorem dX4_init_17 : decode cX4_init 17 = .ok (.putfield 15, 3) := by decide +kernel
theorem dX4_init_20 : decode cX4_init 20 = .ok (.aload_n 0, 1) := by decide +kernel
theorem dX4_init_21 : decode cX4_init 21 = .ok (.iconst 0, 1) := by decide +kernel
theorem dX4_init_22 : decode cX4_init 22 = .ok (.putfield 18, 3) := by decide +kernel
theorem dX4_init_25 : decode cX4_init 25 = .ok (.return_, 1) := by decide +kernel
theorem dX4_add_0 : decode cX4_add 0 = .ok (.aload_n 0, 1) := by decide +kernel
theorem dX4_add_1 : decode cX4_add 1 = .ok (.getfield 18, 3) := by decide +kernel
theorem dX4_add_4 : decode cX4_add 4 = .ok (.ifCond .lt 57, 3) := by decide +kernel
theorem dX4_add_7 : decode cX4_add 7 = .ok (.aload_n 0, 1) := by decide +kernel
theorem dX4_add_8 : decode cX4_add 8 = .ok (.getfield 18, 3) := by decide +kernel
theorem dX4_add_11 : decode cX4_add 11 = .ok (.aload_n 0, 1) := by decide +kernel
theorem dX4_add_12 : decode cX4_add 12 = .ok (.getfield 9, 3) := by decide +kernel
theorem dX4_add_15 : decode cX4_add 15 = .ok (.arraylength, 1) := by decide +kernel
theorem dX4_add_16 : decode cX4_add 16 = .ok (.if_icmp .ge 45, 3) := by decide +kernel
theorem dX4_add_19 : decode cX4_add 19 = .ok (.aload_n 0, 1) := by decide +kernel
theorem dX4_add_20 : decode cX4_add 20 = .ok (.getfield 18, 3) := by decide +kernel
theorem dX4_add_23 : decode cX4_add 23 = .ok (.aload_n 0, 1) := by decide +kernel
theorem dX4_add_24 : decode cX4_add 24 = .ok (.getfield 15, 3) := by decide +kernel
theorem dX4_add_27 : decode cX4_add 27 = .ok (.arraylength, 1) := by decide +kernel
theorem dX4_add_28 : decode cX4_add 28 = .ok (.if_icmp .ge 33, 3) := by decide +kernel
theorem dX4_add_31 : decode cX4_add 31 = .ok (.aload_n 0, 1) := by decide +kernel
theorem dX4_add_32 : decode cX4_add 32 = .ok (.getfield 9, 3) := by decide +kernel
theorem dX4_add_35 : decode cX4_add 35 = .ok (.aload_n 0, 1) := by decide +kernel
theorem dX4_add_36 : decode cX4_add 36 = .ok (.getfield 18, 3) := by decide +kernel
theorem dX4_add_39 : decode cX4_add 39 = .ok (.iload_n 1, 1) := by decide +kernel
theorem dX4_add_40 : decode cX4_add 40 = .ok (.iastore, 1) := by decide +kernel
theorem dX4_add_41 : decode cX4_add 41 = .ok (.aload_n 0, 1) := by decide +kernel
theorem dX4_add_42 : decode cX4_add 42 = .ok (.getfield 15, 3) := by decide +kernel
theorem dX4_add_45 : decode cX4_add 45 = .ok (.aload_n 0, 1) := by decide +kernel
theorem dX4_add_46 : decode cX4_add 46 = .ok (.getfield 18, 3) := by decide +kernel
theorem dX4_add_49 : decode cX4_add 49 = .ok (.iload_n 2, 1) := by decide +kernel
theorem dX4_add_50 : decode cX4_add 50 = .ok (.iastore, 1) := by decide +kernel
theorem dX4_add_51 : decode cX4_add 51 = .ok (.aload_n 0, 1) := by decide +kernel
theorem dX4_add_52 : decode cX4_add 52 = .ok (.dup, 1) := by decide +kernel
theorem dX4_add_53 : decode cX4_add 53 = .ok (.getfield 18, 3) := by decide +kernel
theorem dX4_add_56 : decode cX4_add 56 = .ok (.iconst 1, 1) := by decide +kernel
theorem dX4_add_57 : decode cX4_add 57 = .ok (.iadd, 1) := by decide +kernel
theorem dX4_add_58 : decode cX4_add 58 = .ok (.putfield 18, 3) := by decide +kernel
theorem dX4_add_61 : decode cX4_add 61 = .ok (.return_, 1) := by decide +kernel
theorem dX4_dropForLeftTurn_0 : decode cX4_dropForLeftTurn 0 = .ok (.iload_n 1, 1) := by decide +kernel
theorem dX4_dropForLeftTurn_1 : decode cX4_dropForLeftTurn 1 = .ok (.ifCond .lt 59, 3) := by decide +kernel
theorem dX4_dropForLeftTurn_4 : decode cX4_dropForLeftTurn 4 = .ok (.aload_n 0, 1) := by decide +kernel
theorem dX4_dropForLeftTurn_5 : decode cX4_dropForLeftTurn 5 = .ok (.getfield 18, 3) := by decide +kernel
theorem dX4_dropForLeftTurn_8 : decode cX4_dropForLeftTurn 8 = .ok (.iload_n 1, 1) := by decide +kernel
theorem dX4_dropForLeftTurn_9 : decode cX4_dropForLeftTurn 9 = .ok (.iconst 2, 1) := by decide +kernel
theorem dX4_dropForLeftTurn_10 : decode cX4_dropForLeftTurn 10 = .ok (.iadd, 1) := by decide +kernel
theorem dX4_dropForLeftTurn_11 : decode cX4_dropForLeftTurn 11 = .ok (.if_icmp .lt 49, 3) := by decide +kernel
theorem dX4_dropForLeftTurn_14 : decode cX4_dropForLeftTurn 14 = .ok (.aload_n 0, 1) := by decide +kernel
theorem dX4_dropForLeftTurn_15 : decode cX4_dropForLeftTurn 15 = .ok (.getfield 18, 3) := by decide +kernel
theorem dX4_dropForLeftTurn_18 : decode cX4_dropForLeftTurn 18 = .ok (.aload_n 0, 1) := by decide +kernel
theorem dX4_dropForLeftTurn_19 : decode cX4_dropForLeftTurn 19 = .ok (.getfield 9, 3) := by decide +kernel
theorem dX4_dropForLeftTurn_22 : decode cX4_dropForLeftTurn 22 = .ok (.arraylength, 1) := by decide +kernel
theorem dX4_dropForLeftTurn_23 : decode cX4_dropForLeftTurn 23 = .ok (.if_icmp .gt 37, 3) := by decide +kernel
theorem dX4_dropForLeftTurn_26 : decode cX4_dropForLeftTurn 26 = .ok (.aload_n 0, 1) := by decide +kernel
theorem dX4_dropForLeftTurn_27 : decode cX4_dropForLeftTurn 27 = .ok (.aload_n 0, 1) := by decide +kernel
theorem dX4_dropForLeftTurn_28 : decode cX4_dropForLeftTurn 28 = .ok (.getfield 18, 3) := by decide +kernel
theorem dX4_dropForLeftTurn_31 : decode cX4_dropForLeftTurn 31 = .ok (.iconst 2, 1) := by decide +kernel
theorem dX4_dropForLeftTurn_32 : decode cX4_dropForLeftTurn 32 = .ok (.isub, 1) := by decide +kernel
theorem dX4_dropForLeftTurn_33 : decode cX4_dropForLeftTurn 33 = .ok (.aload_n 0, 1) := by decide +kernel
theorem dX4_dropForLeftTurn_34 : decode cX4_dropForLeftTurn 34 = .ok (.getfield 18, 3) := by decide +kernel
theorem dX4_dropForLeftTurn_37 : decode cX4_dropForLeftTurn 37 = .ok (.iconst 1, 1) := by decide +kernel
theorem dX4_dropForLeftTurn_38 : decode cX4_dropForLeftTurn 38 = .ok (.isub, 1) := by decide +kernel
theorem dX4_dropForLeftTurn_39 : decode cX4_dropForLeftTurn 39 = .ok (.iload_n 2, 1) := by decide +kernel
theorem dX4_dropForLeftTurn_40 : decode cX4_dropForLeftTurn 40 = .ok (.iload_n 3, 1) := by decide +kernel
theorem dX4_dropForLeftTurn_41 : decode cX4_dropForLeftTurn 41 = .ok (.invokevirtual 22, 3) := by decide +kernel
theorem dX4_dropForLeftTurn_44 : decode cX4_dropForLeftTurn 44 = .ok (.ifCond .ne 16, 3) := by decide +kernel
theorem dX4_dropForLeftTurn_47 : decode cX4_dropForLeftTurn 47 = .ok (.aload_n 0, 1) := by decide +kernel
theorem dX4_dropForLeftTurn_48 : decode cX4_dropForLeftTurn 48 = .ok (.dup, 1) := by decide +kernel
theorem dX4_dropForLeftTurn_49 : decode cX4_dropForLeftTurn 49 = .ok (.getfield 18, 3) := by decide +kernel
theorem dX4_dropForLeftTurn_52 : decode cX4_dropForLeftTurn 52 = .ok (.iconst 1, 1) := by decide +kernel
theorem dX4_dropForLeftTurn_53 : decode cX4_dropForLeftTurn 53 = .ok (.isub, 1) := by decide +kernel
theorem dX4_dropForLeftTurn_54 : decode cX4_dropForLeftTurn 54 = .ok (.putfield 18, 3) := by decide +kernel
theorem dX4_dropForLeftTurn_57 : decode cX4_dropForLeftTurn 57 = .ok (.goto (-57), 3) := by decide +kernel
theorem dX4_dropForLeftTurn_60 : decode cX4_dropForLeftTurn 60 = .ok (.return_, 1) := by decide +kernel
theorem dX4_turnsLeft_0 : decode cX4_turnsLeft 0 = .ok (.aload_n 0, 1) := by decide +kernel
theorem dX4_turnsLeft_1 : decode cX4_turnsLeft 1 = .ok (.getfield 9, 3) := by decide +kernel
theorem dX4_turnsLeft_4 : decode cX4_turnsLeft 4 = .ok (.iload_n 2, 1) := by decide +kernel
theorem dX4_turnsLeft_5 : decode cX4_turnsLeft 5 = .ok (.iaload, 1) := by decide +kernel
theorem dX4_turnsLeft_6 : decode cX4_turnsLeft 6 = .ok (.aload_n 0, 1) := by decide +kernel
theorem dX4_turnsLeft_7 : decode cX4_turnsLeft 7 = .ok (.getfield 9, 3) := by decide +kernel
theorem dX4_turnsLeft_10 : decode cX4_turnsLeft 10 = .ok (.iload_n 1, 1) := by decide +kernel
theorem dX4_turnsLeft_11 : decode cX4_turnsLeft 11 = .ok (.iaload, 1) := by decide +kernel
theorem dX4_turnsLeft_12 : decode cX4_turnsLeft 12 = .ok (.isub, 1) := by decide +kernel
theorem dX4_turnsLeft_13 : decode cX4_turnsLeft 13 = .ok (.iload 4, 2) := by decide +kernel
theorem dX4_turnsLeft_15 : decode cX4_turnsLeft 15 = .ok (.aload_n 0, 1) := by decide +kernel
theorem dX4_turnsLeft_16 : decode cX4_turnsLeft 16 = .ok (.getfield 15, 3) := by decide +kernel
theorem dX4_turnsLeft_19 : decode cX4_turnsLeft 19 = .ok (.iload_n 2, 1) := by decide +kernel
theorem dX4_turnsLeft_20 : decode cX4_turnsLeft 20 = .ok (.iaload, 1) := by decide +kernel
theorem dX4_turnsLeft_21 : decode cX4_turnsLeft 21 = .ok (.isub, 1) := by decide +kernel
theorem dX4_turnsLeft_22 : decode cX4_turnsLeft 22 = .ok (.imul, 1) := by decide +kernel
theorem dX4_turnsLeft_23 : decode cX4_turnsLeft 23 = .ok (.aload_n 0, 1) := by decide +kernel
theorem dX4_turnsLeft_24 : decode cX4_turnsLeft 24 = .ok (.getfield 15, 3) := by decide +kernel
theorem dX4_turnsLeft_27 : decode cX4_turnsLeft 27 = .ok (.iload_n 2, 1) := by decide +kernel
theorem dX4_turnsLeft_28 : decode cX4_turnsLeft 28 = .ok (.iaload, 1) := by decide +kernel
theorem dX4_turnsLeft_29 : decode cX4_turnsLeft 29 = .ok (.aload_n 0, 1) := by decide +kernel
theorem dX4_turnsLeft_30 : decode cX4_turnsLeft 30 = .ok (.getfield 15, 3) := by decide +kernel
theorem dX4_turnsLeft_33 : decode cX4_turnsLeft 33 = .ok (.iload_n 1, 1) := by decide +kernel
theorem dX4_turnsLeft_34 : decode cX4_turnsLeft 34 = .ok (.iaload, 1) := by decide +kernel
theorem dX4_turnsLeft_35 : decode cX4_turnsLeft 35 = .ok (.isub, 1) := by decide +kernel
theorem dX4_turnsLeft_36 : decode cX4_turnsLeft 36 = .ok (.iload_n 3, 1) := by decide +kernel
theorem dX4_turnsLeft_37 : decode cX4_turnsLeft 37 = .ok (.aload_n 0, 1) := by decide +kernel
theorem dX4_turnsLeft_38 : decode cX4_turnsLeft 38 = .ok (.getfield 9, 3) := by decide +kernel
theorem dX4_turnsLeft_41 : decode cX4_turnsLeft 41 = .ok (.iload_n 2, 1) := by decide +kernel
theorem dX4_turnsLeft_42 : decode cX4_turnsLeft 42 = .ok (.iaload, 1) := by decide +kernel
theorem dX4_turnsLeft_43 : decode cX4_turnsLeft 43 = .ok (.isub, 1) := by decide +kernel
theorem dX4_turnsLeft_44 : decode cX4_turnsLeft 44 = .ok (.imul, 1) := by decide +kernel
theorem dX4_turnsLeft_45 : decode cX4_turnsLeft 45 = .ok (.isub, 1) := by decide +kernel
theorem dX4_turnsLeft_46 : decode cX4_turnsLeft 46 = .ok (.ifCond .le 7, 3) := by decide +kernel
theorem dX4_turnsLeft_49 : decode cX4_turnsLeft 49 = .ok (.iconst 1, 1) := by decide +kernel
theorem dX4_turnsLeft_50 : decode cX4_turnsLeft 50 = .ok (.goto 4, 3) := by decide +kernel
theorem dX4_turnsLeft_53 : decode cX4_turnsLeft 53 = .ok (.iconst 0, 1) := by decide +kernel
theorem dX4_turnsLeft_54 : decode cX4_turnsLeft 54 = .ok (.ireturn, 1) := by decide +kernel
theorem dX5_init_0 : decode cX5_init 0 = .ok (.aload_n 0, 1) := by decide +kernel
theorem dX5_init_1 : decode cX5_init 1 = .ok (.invokespecial 3, 3) := by decide +kernel
theorem dX5_init_4 : decode cX5_init 4 = .ok (.aload_n 0, 1) := by decide +kernel
theorem dX5_init_5 : decode cX5_init 5 = .ok (.sipush 280, 3) := by decide +kernel
theorem dX5_init_8 : decode cX5_init 8 = .ok (.newarray .boolean, 2) := by decide +kernel
theorem dX5_init_10 : decode cX5_init 10 = .ok (.putfield 9, 3) := by decide +kernel
theorem dX5_init_13 : decode cX5_init 13 = .ok (.aload_n 0, 1) := by decide +kernel
theorem dX5_init_14 : decode cX5_init 14 = .ok (.sipush 280, 3) := by decide +kernel
theorem dX5_init_17 : decode cX5_init 17 = .ok (.newarray .int, 2) := by decide +kernel
theorem dX5_init_19 : decode cX5_init 19 = .ok (.putfield 15, 3) := by decide +kernel
theorem dX5_init_22 : decode cX5_init 22 = .ok (.aload_n 0, 1) := by decide +kernel
theorem dX5_init_23 : decode cX5_init 23 = .ok (.sipush 280, 3) := by decide +kernel
theorem dX5_init_26 : decode cX5_init 26 = .ok (.newarray .int, 2) := by decide +kernel
theorem dX5_init_28 : decode cX5_init 28 = .ok (.putfield 19, 3) := by decide +kernel
theorem dX5_init_31 : decode cX5_init 31 = .ok (.aload_n 0, 1) := by decide +kernel
theorem dX5_init_32 : decode cX5_init 32 = .ok (.sipush 280, 3) := by decide +kernel
theorem dX5_init_35 : decode cX5_init 35 = .ok (.newarray .int, 2) := by decide +kernel
theorem dX5_init_37 : decode cX5_init 37 = .ok (.putfield 22, 3) := by decide +kernel
theorem dX5_init_40 : decode cX5_init 40 = .ok (.aload_n 0, 1) := by decide +kernel
theorem dX5_init_41 : decode cX5_init 41 = .ok (.getfield 22, 3) := by decide +kernel
theorem dX5_init_44 : decode cX5_init 44 = .ok (.iconst 1, 1) := by decide +kernel
theorem dX5_init_45 : decode cX5_init 45 = .ok (.invokestatic 25, 3) := by decide +kernel
theorem dX5_init_48 : decode cX5_init 48 = .ok (.return_, 1) := by decide +kernel
theorem dX6_init_0 : decode cX6_init 0 = .ok (.aload_n 0, 1) := by decide +kernel
theorem dX6_init_1 : decode cX6_init 1 = .ok (.invokespecial 3, 3) := by decide +kernel
theorem dX6_init_4 : decode cX6_init 4 = .ok (.aload_n 0, 1) := by decide +kernel
theorem dX6_init_5 : decode cX6_init 5 = .ok (.sipush 400, 3) := by decide +kernel
theorem dX6_init_8 : decode cX6_init 8 = .ok (.newarray .int, 2) := by decide +kernel
theorem dX6_init_10 : decode cX6_init 10 = .ok (.putfield 9, 3) := by decide +kernel
theorem dX6_init_13 : decode cX6_init 13 = .ok (.aload_n 0, 1) := by decide +kernel
theorem dX6_init_14 : decode cX6_init 14 = .ok (.iconst 0, 1) := by decide +kernel
theorem dX6_init_15 : decode cX6_init 15 = .ok (.putfield 15, 3) := by decide +kernel
theorem dX6_init_18 : decode cX6_init 18 = .ok (.return_, 1) := by decide +kernel
theorem dX6_put_0 : decode cX6_put 0 = .ok (.aload_n 0, 1) := by decide +kernel
theorem dX6_put_1 : decode cX6_put 1 = .ok (.getfield 15, 3) := by decide +kernel
theorem dX6_put_4 : decode cX6_put 4 = .ok (.ifCond .lt 39, 3) := by decide +kernel
theorem dX6_put_7 : decode cX6_put 7 = .ok (.aload_n 0, 1) := by decide +kernel
theorem dX6_put_8 : decode cX6_put 8 = .ok (.getfield 15, 3) := by decide +kernel
theorem dX6_put_11 : decode cX6_put 11 = .ok (.aload_n 0, 1) := by decide +kernel
theorem dX6_put_12 : decode cX6_put 12 = .ok (.getfield 9, 3) := by decide +kernel
theorem dX6_put_15 : decode cX6_put 15 = .ok (.arraylength, 1) := by decide +kernel
theorem dX6_put_16 : decode cX6_put 16 = .ok (.if_icmp .ge 27, 3) := by decide +kernel
theorem dX6_put_19 : decode cX6_put 19 = .ok (.aload_n 0, 1) := by decide +kernel
theorem dX6_put_20 : decode cX6_put 20 = .ok (.getfield 9, 3) := by decide +kernel
theorem dX6_put_23 : decode cX6_put 23 = .ok (.aload_n 0, 1) := by decide +kernel
theorem dX6_put_24 : decode cX6_put 24 = .ok (.getfield 15, 3) := by decide +kernel
theorem dX6_put_27 : decode cX6_put 27 = .ok (.iload_n 1, 1) := by decide +kernel
theorem dX6_put_28 : decode cX6_put 28 = .ok (.sipush 255, 3) := by decide +kernel
theorem dX6_put_31 : decode cX6_put 31 = .ok (.iand, 1) := by decide +kernel
theorem dX6_put_32 : decode cX6_put 32 = .ok (.iastore, 1) := by decide +kernel
theorem dX6_put_33 : decode cX6_put 33 = .ok (.aload_n 0, 1) := by decide +kernel
theorem dX6_put_34 : decode cX6_put 34 = .ok (.dup, 1) := by decide +kernel
theorem dX6_put_35 : decode cX6_put 35 = .ok (.getfield 15, 3) := by decide +kernel
theorem dX6_put_38 : decode cX6_put 38 = .ok (.iconst 1, 1) := by decide +kernel
theorem dX6_put_39 : decode cX6_put 39 = .ok (.iadd, 1) := by decide +kernel
theorem dX6_put_40 : decode cX6_put 40 = .ok (.putfield 15, 3) := by decide +kernel
theorem dX6_put_43 : decode cX6_put 43 = .ok (.return_, 1) := by decide +kernel
theorem dX6_putFour_0 : decode cX6_putFour 0 = .ok (.aload_n 0, 1) := by decide +kernel
theorem dX6_putFour_1 : decode cX6_putFour 1 = .ok (.iload_n 1, 1) := by decide +kernel
theorem dX6_putFour_2 : decode cX6_putFour 2 = .ok (.bipush 24, 2) := by decide +kernel
theorem dX6_putFour_4 : decode cX6_putFour 4 = .ok (.iushr, 1) := by decide +kernel
theorem dX6_putFour_5 : decode cX6_putFour 5 = .ok (.invokevirtual 19, 3) := by decide +kernel
theorem dX6_putFour_8 : decode cX6_putFour 8 = .ok (.aload_n 0, 1) := by decide +kernel
theorem dX6_putFour_9 : decode cX6_putFour 9 = .ok (.iload_n 1, 1) := by decide +kernel
theorem dX6_putFour_10 : decode cX6_putFour 10 = .ok (.bipush 16, 2) := by decide +kernel
theorem dX6_putFour_12 : decode cX6_putFour 12 = .ok (.iushr, 1) := by decide +kernel
theorem dX6_putFour_13 : decode cX6_putFour 13 = .ok (.invokevirtual 19, 3) := by decide +kernel
theorem dX6_putFour_16 : decode cX6_putFour 16 = .ok (.aload_n 0, 1) := by decide +kernel
theorem dX6_putFour_17 : decode cX6_putFour 17 = .ok (.iload_n 1, 1) := by decide +kernel
theorem dX6_putFour_18 : decode cX6_putFour 18 = .ok (.bipush 8, 2) := by decide +kernel
theorem dX6_putFour_20 : decode cX6_putFour 20 = .ok (.iushr, 1) := by decide +kernel
theorem dX6_putFour_21 : decode cX6_putFour 21 = .ok (.invokevirtual 19, 3) := by decide +kernel
theorem dX6_putFour_24 : decode cX6_putFour 24 = .ok (.aload_n 0, 1) := by decide +kernel
theorem dX6_putFour_25 : decode cX6_putFour 25 = .ok (.iload_n 1, 1) := by decide +kernel
theorem dX6_putFour_26 : decode cX6_putFour 26 = .ok (.invokevirtual 19, 3) := by decide +kernel
theorem dX6_putFour_29 : decode cX6_putFour 29 = .ok (.return_, 1) := by decide +kernel
theorem dX6_putWord_0 : decode cX6_putWord 0 = .ok (.iconst 0, 1) := by decide +kernel
theorem dX6_putWord_1 : decode cX6_putWord 1 = .ok (.istore_n 2, 1) := by decide +kernel
theorem dX6_putWord_2 : decode cX6_putWord 2 = .ok (.iload_n 2, 1) := by decide +kernel
theorem dX6_putWord_3 : decode cX6_putWord 3 = .ok (.aload_n 1, 1) := by decide +kernel
theorem dX6_putWord_4 : decode cX6_putWord 4 = .ok (.invokevirtual 23, 3) := by decide +kernel
theorem dX6_putWord_7 : decode cX6_putWord 7 = .ok (.if_icmp .ge 18, 3) := by decide +kernel
theorem dX6_putWord_10 : decode cX6_putWord 10 = .ok (.aload_n 0, 1) := by decide +kernel
theorem dX6_putWord_11 : decode cX6_putWord 11 = .ok (.aload_n 1, 1) := by decide +kernel
theorem dX6_putWord_12 : decode cX6_putWord 12 = .ok (.iload_n 2, 1) := by decide +kernel
theorem dX6_putWord_13 : decode cX6_putWord 13 = .ok (.invokevirtual 28, 3) := by decide +kernel
theorem dX6_putWord_16 : decode cX6_putWord 16 = .ok (.invokevirtual 19, 3) := by decide +kernel
theorem dX6_putWord_19 : decode cX6_putWord 19 = .ok (.iinc 2 1, 3) := by decide +kernel
theorem dX6_putWord_22 : decode cX6_putWord 22 = .ok (.goto (-20), 3) := by decide +kernel
theorem dX6_putWord_25 : decode cX6_putWord 25 = .ok (.return_, 1) := by decide +kernel
theorem dX6_putNumber_0 : decode cX6_putNumber 0 = .ok (.iload_n 1, 1) := by decide +kernel
theorem dX6_putNumber_1 : decode cX6_putNumber 1 = .ok (.bipush 10, 2) := by decide +kernel
theorem dX6_putNumber_3 : decode cX6_putNumber 3 = .ok (.if_icmp .lt 14, 3) := by decide +kernel
theorem dX6_putNumber_6 : decode cX6_putNumber 6 = .ok (.aload_n 0, 1) := by decide +kernel
theorem dX6_putNumber_7 : decode cX6_putNumber 7 = .ok (.bipush 48, 2) := by decide +kernel
theorem dX6_putNumber_9 : decode cX6_putNumber 9 = .ok (.iload_n 1, 1) := by decide +kernel
theorem dX6_putNumber_10 : decode cX6_putNumber 10 = .ok (.bipush 10, 2) := by decide +kernel
theorem dX6_putNumber_12 : decode cX6_putNumber 12 = .ok (.idiv, 1) := by decide +kernel
theorem dX6_putNumber_13 : decode cX6_putNumber 13 = .ok (.iadd, 1) := by decide +kernel
theorem dX6_putNumber_14 : decode cX6_putNumber 14 = .ok (.invokevirtual 19, 3) := by decide +kernel
theorem dX6_putNumber_17 : decode cX6_putNumber 17 = .ok (.aload_n 0, 1) := by decide +kernel
theorem dX6_putNumber_18 : decode cX6_putNumber 18 = .ok (.bipush 48, 2) := by decide +kernel
theorem dX6_putNumber_20 : decode cX6_putNumber 20 = .ok (.iload_n 1, 1) := by decide +kernel
theorem dX6_putNumber_21 : decode cX6_putNumber 21 = .ok (.bipush 10, 2) := by decide +kernel
theorem dX6_putNumber_23 : decode cX6_putNumber 23 = .ok (.irem, 1) := by decide +kernel
theorem dX6_putNumber_24 : decode cX6_putNumber 24 = .ok (.iadd, 1) := by decide +kernel
theorem dX6_putNumber_25 : decode cX6_putNumber 25 = .ok (.invokevirtual 19, 3) := by decide +kernel
theorem dX6_putNumber_28 : decode cX6_putNumber 28 = .ok (.return_, 1) := by decide +kernel
theorem dX7_init_0 : decode cX7_init 0 = .ok (.aload_n 0, 1) := by decide +kernel
theorem dX7_init_1 : decode cX7_init 1 = .ok (.invokespecial 3, 3) := by decide +kernel
theorem dX7_init_4 : decode cX7_init 4 = .ok (.aload_n 0, 1) := by decide +kernel
theorem dX7_init_5 : decode cX7_init 5 = .ok (.new 9, 3) := by decide +kernel
theorem dX7_init_8 : decode cX7_init 8 = .ok (.dup, 1) := by decide +kernel
theorem dX7_init_9 : decode cX7_init 9 = .ok (.invokespecial 11, 3) := by decide +kernel
theorem dX7_init_12 : decode cX7_init 12 = .ok (.putfield 12, 3) := by decide +kernel
theorem dX7_init_15 : decode cX7_init 15 = .ok (.aload_n 0, 1) := by decide +kernel
theorem dX7_init_16 : decode cX7_init 16 = .ok (.new 18, 3) := by decide +kernel
theorem dX7_init_19 : decode cX7_init 19 = .ok (.dup, 1) := by decide +kernel
theorem dX7_init_20 : decode cX7_init 20 = .ok (.invokespecial 20, 3) := by decide +kernel
theorem dX7_init_23 : decode cX7_init 23 = .ok (.putfield 21, 3) := by decide +kernel
theorem dX7_init_26 : decode cX7_init 26 = .ok (.aload_n 0, 1) := by decide +kernel
theorem dX7_init_27 : decode cX7_init 27 = .ok (.iconst 0, 1) := by decide +kernel
theorem dX7_init_28 : decode cX7_init 28 = .ok (.putfield 25, 3) := by decide +kernel
theorem dX7_init_31 : decode cX7_init 31 = .ok (.return_, 1) := by decide +kernel
theorem dX7_findFirstWrong_0 : decode cX7_findFirstWrong 0 = .ok (.aload_n 0, 1) := by decide +kernel
theorem dX7_findFirstWrong_1 : decode cX7_findFirstWrong 1 = .ok (.iconst 0, 1) := by decide +kernel
theorem dX7_findFirstWrong_2 : decode cX7_findFirstWrong 2 = .ok (.putfield 25, 3) := by decide +kernel
theorem dX7_findFirstWrong_5 : decode cX7_findFirstWrong 5 = .ok (.aload_n 0, 1) := by decide +kernel
theorem dX7_findFirstWrong_6 : decode cX7_findFirstWrong 6 = .ok (.getfield 21, 3) := by decide +kernel
theorem dX7_findFirstWrong_9 : decode cX7_findFirstWrong 9 = .ok (.iconst 0, 1) := by decide +kernel
theorem dX7_findFirstWrong_10 : decode cX7_findFirstWrong 10 = .ok (.putfield 29, 3) := by decide +kernel
theorem dX7_findFirstWrong_13 : decode cX7_findFirstWrong 13 = .ok (.aload_n 0, 1) := by decide +kernel
theorem dX7_findFirstWrong_14 : decode cX7_findFirstWrong 14 = .ok (.ldc 32, 2) := by decide +kernel
theorem dX7_findFirstWrong_16 : decode cX7_findFirstWrong 16 = .ok (.invokevirtual 33, 3) := by decide +kernel
theorem dX7_findFirstWrong_19 : decode cX7_findFirstWrong 19 = .ok (.ifCond .eq 23, 3) := by decide +kernel
theorem dX7_findFirstWrong_22 : decode cX7_findFirstWrong 22 = .ok (.aload_n 0, 1) := by decide +kernel
theorem dX7_findFirstWrong_23 : decode cX7_findFirstWrong 23 = .ok (.invokevirtual 37, 3) := by decide +kernel
theorem dX7_findFirstWrong_26 : decode cX7_findFirstWrong 26 = .ok (.ifCond .eq 16, 3) := by decide +kernel
theorem dX7_findFirstWrong_29 : decode cX7_findFirstWrong 29 = .ok (.aload_n 0, 1) := by decide +kernel
theorem dX7_findFirstWrong_30 : decode cX7_findFirstWrong 30 = .ok (.ldc 41, 2) := by decide +kernel
theorem dX7_findFirstWrong_32 : decode cX7_findFirstWrong 32 = .ok (.invokevirtual 33, 3) := by decide +kernel
theorem dX7_findFirstWrong_35 : decode cX7_findFirstWrong 35 = .ok (.ifCond .eq 7, 3) := by decide +kernel
theorem dX7_findFirstWrong_38 : decode cX7_findFirstWrong 38 = .ok (.iconst 1, 1) := by decide +kernel
theorem dX7_findFirstWrong_39 : decode cX7_findFirstWrong 39 = .ok (.goto 4, 3) := by decide +kernel
theorem dX7_findFirstWrong_42 : decode cX7_findFirstWrong 42 = .ok (.iconst 0, 1) := by decide +kernel
theorem dX7_findFirstWrong_43 : decode cX7_findFirstWrong 43 = .ok (.istore_n 1, 1) := by decide +kernel
theorem dX7_findFirstWrong_44 : decode cX7_findFirstWrong 44 = .ok (.aload_n 0, 1) := by decide +kernel
theorem dX7_findFirstWrong_45 : decode cX7_findFirstWrong 45 = .ok (.invokevirtual 43, 3) := by decide +kernel
theorem dX7_findFirstWrong_48 : decode cX7_findFirstWrong 48 = .ok (.iload_n 1, 1) := by decide +kernel
theorem dX7_findFirstWrong_49 : decode cX7_findFirstWrong 49 = .ok (.ifCond .eq 21, 3) := by decide +kernel
theorem dX7_findFirstWrong_52 : decode cX7_findFirstWrong 52 = .ok (.aload_n 0, 1) := by decide +kernel
theorem dX7_findFirstWrong_53 : decode cX7_findFirstWrong 53 = .ok (.getfield 25, 3) := by decide +kernel
theorem dX7_findFirstWrong_56 : decode cX7_findFirstWrong 56 = .ok (.aload_n 0, 1) := by decide +kernel
theorem dX7_findFirstWrong_57 : decode cX7_findFirstWrong 57 = .ok (.getfield 12, 3) := by decide +kernel
theorem dX7_findFirstWrong_60 : decode cX7_findFirstWrong 60 = .ok (.getfield 46, 3) := by decide +kernel
theorem dX7_findFirstWrong_63 : decode cX7_findFirstWrong 63 = .ok (.if_icmp .lt 7, 3) := by decide +kernel
theorem dX7_findFirstWrong_66 : decode cX7_findFirstWrong 66 = .ok (.iconst (-1), 1) := by decide +kernel
theorem dX7_findFirstWrong_67 : decode cX7_findFirstWrong 67 = .ok (.goto 7, 3) := by decide +kernel
theorem dX7_findFirstWrong_70 : decode cX7_findFirstWrong 70 = .ok (.aload_n 0, 1) := by decide +kernel
theorem dX7_findFirstWrong_71 : decode cX7_findFirstWrong 71 = .ok (.getfield 25, 3) := by decide +kernel
theorem dX7_findFirstWrong_74 : decode cX7_findFirstWrong 74 = .ok (.ireturn, 1) := by decide +kernel
theorem dX7_takeCorners_0 : decode cX7_takeCorners 0 = .ok (.iconst 1, 1) := by decide +kernel
theorem dX7_takeCorners_1 : decode cX7_takeCorners 1 = .ok (.istore_n 1, 1) := by decide +kernel
theorem dX7_takeCorners_2 : decode cX7_takeCorners 2 = .ok (.iload_n 1, 1) := by decide +kernel
theorem dX7_takeCorners_3 : decode cX7_takeCorners 3 = .ok (.bipush 40, 2) := by decide +kernel
theorem dX7_takeCorners_5 : decode cX7_takeCorners 5 = .ok (.if_icmp .gt 62, 3) := by decide +kernel
theorem dX7_takeCorners_8 : decode cX7_takeCorners 8 = .ok (.aload_n 0, 1) := by decide +kernel
theorem dX7_takeCorners_9 : decode cX7_takeCorners 9 = .ok (.invokevirtual 47, 3) := by decide +kernel
theorem dX7_takeCorners_12 : decode cX7_takeCorners 12 = .ok (.ifCond .ne 5, 3) := by decide +kernel
theorem dX7_takeCorners_15 : decode cX7_takeCorners 15 = .ok (.iconst 0, 1) := by decide +kernel
theorem dX7_takeCorners_16 : decode cX7_takeCorners 16 = .ok (.ireturn, 1) := by decide +kernel
theorem dX7_takeCorners_17 : decode cX7_takeCorners 17 = .ok (.aload_n 0, 1) := by decide +kernel
theorem dX7_takeCorners_18 : decode cX7_takeCorners 18 = .ok (.invokevirtual 43, 3) := by decide +kernel
theorem dX7_takeCorners_21 : decode cX7_takeCorners 21 = .ok (.aload_n 0, 1) := by decide +kernel
theorem dX7_takeCorners_22 : decode cX7_takeCorners 22 = .ok (.aload_n 0, 1) := by decide +kernel
theorem dX7_takeCorners_23 : decode cX7_takeCorners 23 = .ok (.getfield 25, 3) := by decide +kernel
theorem dX7_takeCorners_26 : decode cX7_takeCorners 26 = .ok (.invokevirtual 50, 3) := by decide +kernel
theorem dX7_takeCorners_29 : decode cX7_takeCorners 29 = .ok (.bipush 44, 2) := by decide +kernel
theorem dX7_takeCorners_31 : decode cX7_takeCorners 31 = .ok (.if_icmp .eq 14, 3) := by decide +kernel
theorem dX7_takeCorners_34 : decode cX7_takeCorners 34 = .ok (.iload_n 1, 1) := by decide +kernel
theorem dX7_takeCorners_35 : decode cX7_takeCorners 35 = .ok (.iconst 3, 1) := by decide +kernel
theorem dX7_takeCorners_36 : decode cX7_takeCorners 36 = .ok (.if_icmp .lt 7, 3) := by decide +kernel
theorem dX7_takeCorners_39 : decode cX7_takeCorners 39 = .ok (.iconst 1, 1) := by decide +kernel
theorem dX7_takeCorners_40 : decode cX7_takeCorners 40 = .ok (.goto 4, 3) := by decide +kernel
theorem dX7_takeCorners_43 : decode cX7_takeCorners 43 = .ok (.iconst 0, 1) := by decide +kernel
theorem dX7_takeCorners_44 : decode cX7_takeCorners 44 = .ok (.ireturn, 1) := by decide +kernel
theorem dX7_takeCorners_45 : decode cX7_takeCorners 45 = .ok (.iload_n 1, 1) := by decide +kernel
theorem dX7_takeCorners_46 : decode cX7_takeCorners 46 = .ok (.bipush 40, 2) := by decide +kernel
theorem dX7_takeCorners_48 : decode cX7_takeCorners 48 = .ok (.if_icmp .ge 13, 3) := by decide +kernel
theorem dX7_takeCorners_51 : decode cX7_takeCorners 51 = .ok (.aload_n 0, 1) := by decide +kernel
theorem dX7_takeCorners_52 : decode cX7_takeCorners 52 = .ok (.dup, 1) := by decide +kernel
theorem dX7_takeCorners_53 : decode cX7_takeCorners 53 = .ok (.getfield 25, 3) := by decide +kernel
theorem dX7_takeCorners_56 : decode cX7_takeCorners 56 = .ok (.iconst 1, 1) := by decide +kernel
theorem dX7_takeCorners_57 : decode cX7_takeCorners 57 = .ok (.iadd, 1) := by decide +kernel
theorem dX7_takeCorners_58 : decode cX7_takeCorners 58 = .ok (.putfield 25, 3) := by decide +kernel
theorem dX7_takeCorners_61 : decode cX7_takeCorners 61 = .ok (.iinc 1 1, 3) := by decide +kernel
theorem dX7_takeCorners_64 : decode cX7_takeCorners 64 = .ok (.goto (-62), 3) := by decide +kernel
theorem dX7_takeCorners_67 : decode cX7_takeCorners 67 = .ok (.iconst 0, 1) := by decide +kernel
theorem dX7_takeCorners_68 : decode cX7_takeCorners 68 = .ok (.ireturn, 1) := by decide +kernel
theorem dX7_takeCorner_0 : decode cX7_takeCorner 0 = .ok (.aload_n 0, 1) := by decide +kernel
theorem dX7_takeCorner_1 : decode cX7_takeCorner 1 = .ok (.bipush 20, 2) := by decide +kernel
theorem dX7_takeCorner_3 : decode cX7_takeCorner 3 = .ok (.invokevirtual 54, 3) := by decide +kernel
theorem dX7_takeCorner_6 : decode cX7_takeCorner 6 = .ok (.istore_n 1, 1) := by decide +kernel
theorem dX7_takeCorner_7 : decode cX7_takeCorner 7 = .ok (.iload_n 1, 1) := by decide +kernel
theorem dX7_takeCorner_8 : decode cX7_takeCorner 8 = .ok (.iconst (-1), 1) := by decide +kernel
theorem dX7_takeCorner_9 : decode cX7_takeCorner 9 = .ok (.if_icmp .ne 5, 3) := by decide +kernel
theorem dX7_takeCorner_12 : decode cX7_takeCorner 12 = .ok (.iconst 0, 1) := by decide +kernel
theorem dX7_takeCorner_13 : decode cX7_takeCorner 13 = .ok (.ireturn, 1) := by decide +kernel
theorem dX7_takeCorner_14 : decode cX7_takeCorner 14 = .ok (.aload_n 0, 1) := by decide +kernel
theorem dX7_takeCorner_15 : decode cX7_takeCorner 15 = .ok (.bipush 14, 2) := by decide +kernel
theorem dX7_takeCorner_17 : decode cX7_takeCorner 17 = .ok (.invokevirtual 54, 3) := by decide +kernel
theorem dX7_takeCorner_20 : decode cX7_takeCorner 20 = .ok (.istore_n 2, 1) := by decide +kernel
theorem dX7_takeCorner_21 : decode cX7_takeCorner 21 = .ok (.iload_n 2, 1) := by decide +kernel
theorem dX7_takeCorner_22 : decode cX7_takeCorner 22 = .ok (.iconst (-1), 1) := by decide +kernel
theorem dX7_takeCorner_23 : decode cX7_takeCorner 23 = .ok (.if_icmp .ne 5, 3) := by decide +kernel
theorem dX7_takeCorner_26 : decode cX7_takeCorner 26 = .ok (.iconst 0, 1) := by decide +kernel
theorem dX7_takeCorner_27 : decode cX7_takeCorner 27 = .ok (.ireturn, 1) := by decide +kernel
theorem dX7_takeCorner_28 : decode cX7_takeCorner 28 = .ok (.aload_n 0, 1) := by decide +kernel
theorem dX7_takeCorner_29 : decode cX7_takeCorner 29 = .ok (.getfield 21, 3) := by decide +kernel
theorem dX7_takeCorner_32 : decode cX7_takeCorner 32 = .ok (.iload_n 1, 1) := by decide +kernel
theorem dX7_takeCorner_33 : decode cX7_takeCorner 33 = .ok (.iload_n 2, 1) := by decide +kernel
theorem dX7_takeCorner_34 : decode cX7_takeCorner 34 = .ok (.invokevirtual 57, 3) := by decide +kernel
theorem dX7_takeCorner_37 : decode cX7_takeCorner 37 = .ok (.iconst 1, 1) := by decide +kernel
theorem dX7_takeCorner_38 : decode cX7_takeCorner 38 = .ok (.ireturn, 1) := by decide +kernel
theorem dX7_takeNumber_0 : decode cX7_takeNumber 0 = .ok (.aload_n 0, 1) := by decide +kernel
theorem dX7_takeNumber_1 : decode cX7_takeNumber 1 = .ok (.invokevirtual 43, 3) := by decide +kernel
theorem dX7_takeNumber_4 : decode cX7_takeNumber 4 = .ok (.aload_n 0, 1) := by decide +kernel
theorem dX7_takeNumber_5 : decode cX7_takeNumber 5 = .ok (.getfield 25, 3) := by decide +kernel
theorem dX7_takeNumber_8 : decode cX7_takeNumber 8 = .ok (.istore_n 2, 1) := by decide +kernel
theorem dX7_takeNumber_9 : decode cX7_takeNumber 9 = .ok (.iload_n 2, 1) := by decide +kernel
theorem dX7_takeNumber_10 : decode cX7_takeNumber 10 = .ok (.aload_n 0, 1) := by decide +kernel
theorem dX7_takeNumber_11 : decode cX7_takeNumber 11 = .ok (.getfield 12, 3) := by decide +kernel
theorem dX7_takeNumber_14 : decode cX7_takeNumber 14 = .ok (.getfield 46, 3) := by decide +kernel
theorem dX7_takeNumber_17 : decode cX7_takeNumber 17 = .ok (.if_icmp .ge 20, 3) := by decide +kernel
theorem dX7_takeNumber_20 : decode cX7_takeNumber 20 = .ok (.aload_n 0, 1) := by decide +kernel
theorem dX7_takeNumber_21 : decode cX7_takeNumber 21 = .ok (.iload_n 2, 1) := by decide +kernel
theorem dX7_takeNumber_22 : decode cX7_takeNumber 22 = .ok (.invokevirtual 50, 3) := by decide +kernel
theorem dX7_takeNumber_25 : decode cX7_takeNumber 25 = .ok (.invokestatic 61, 3) := by decide +kernel
theorem dX7_takeNumber_28 : decode cX7_takeNumber 28 = .ok (.ifCond .eq 9, 3) := by decide +kernel
theorem dX7_takeNumber_31 : decode cX7_takeNumber 31 = .ok (.iinc 2 1, 3) := by decide +kernel
theorem dX7_takeNumber_34 : decode cX7_takeNumber 34 = .ok (.goto (-25), 3) := by decide +kernel
theorem dX7_takeNumber_37 : decode cX7_takeNumber 37 = .ok (.iload_n 2, 1) := by decide +kernel
theorem dX7_takeNumber_38 : decode cX7_takeNumber 38 = .ok (.aload_n 0, 1) := by decide +kernel
theorem dX7_takeNumber_39 : decode cX7_takeNumber 39 = .ok (.getfield 25, 3) := by decide +kernel
theorem dX7_takeNumber_42 : decode cX7_takeNumber 42 = .ok (.if_icmp .eq 13, 3) := by decide +kernel
theorem dX7_takeNumber_45 : decode cX7_takeNumber 45 = .ok (.iload_n 2, 1) := by decide +kernel
theorem dX7_takeNumber_46 : decode cX7_takeNumber 46 = .ok (.aload_n 0, 1) := by decide +kernel
theorem dX7_takeNumber_47 : decode cX7_takeNumber 47 = .ok (.getfield 25, 3) := by decide +kernel
theorem dX7_takeNumber_50 : decode cX7_takeNumber 50 = .ok (.iconst 2, 1) := by decide +kernel
theorem dX7_takeNumber_51 : decode cX7_takeNumber 51 = .ok (.iadd, 1) := by decide +kernel
theorem dX7_takeNumber_52 : decode cX7_takeNumber 52 = .ok (.if_icmp .le 5, 3) := by decide +kernel
theorem dX7_takeNumber_55 : decode cX7_takeNumber 55 = .ok (.iconst (-1), 1) := by decide +kernel
theorem dX7_takeNumber_56 : decode cX7_takeNumber 56 = .ok (.ireturn, 1) := by decide +kernel
theorem dX7_takeNumber_57 : decode cX7_takeNumber 57 = .ok (.iconst 0, 1) := by decide +kernel
theorem dX7_takeNumber_58 : decode cX7_takeNumber 58 = .ok (.istore_n 3, 1) := by decide +kernel
theorem dX7_takeNumber_59 : decode cX7_takeNumber 59 = .ok (.aload_n 0, 1) := by decide +kernel
theorem dX7_takeNumber_60 : decode cX7_takeNumber 60 = .ok (.getfield 25, 3) := by decide +kernel
theorem dX7_takeNumber_63 : decode cX7_takeNumber 63 = .ok (.istore 4, 2) := by decide +kernel
theorem dX7_takeNumber_65 : decode cX7_takeNumber 65 = .ok (.iload 4, 2) := by decide +kernel
theorem dX7_takeNumber_67 : decode cX7_takeNumber 67 = .ok (.iload_n 2, 1) := by decide +kernel
theorem dX7_takeNumber_68 : decode cX7_takeNumber 68 = .ok (.if_icmp .ge 24, 3) := by decide +kernel
theorem dX7_takeNumber_71 : decode cX7_takeNumber 71 = .ok (.iload_n 3, 1) := by decide +kernel
theorem dX7_takeNumber_72 : decode cX7_takeNumber 72 = .ok (.bipush 10, 2) := by decide +kernel
theorem dX7_takeNumber_74 : decode cX7_takeNumber 74 = .ok (.imul, 1) := by decide +kernel
theorem dX7_takeNumber_75 : decode cX7_takeNumber 75 = .ok (.aload_n 0, 1) := by decide +kernel
theorem dX7_takeNumber_76 : decode cX7_takeNumber 76 = .ok (.iload 4, 2) := by decide +kernel
theorem dX7_takeNumber_78 : decode cX7_takeNumber 78 = .ok (.invokevirtual 50, 3) := by decide +kernel
theorem dX7_takeNumber_81 : decode cX7_takeNumber 81 = .ok (.iadd, 1) := by decide +kernel
theorem dX7_takeNumber_82 : decode cX7_takeNumber 82 = .ok (.bipush 48, 2) := by decide +kernel
theorem dX7_takeNumber_84 : decode cX7_takeNumber 84 = .ok (.isub, 1) := by decide +kernel
theorem dX7_takeNumber_85 : decode cX7_takeNumber 85 = .ok (.istore_n 3, 1) := by decide +kernel
theorem dX7_takeNumber_86 : decode cX7_takeNumber 86 = .ok (.iinc 4 1, 3) := by decide +kernel
theorem dX7_takeNumber_89 : decode cX7_takeNumber 89 = .ok (.goto (-24), 3) := by decide +kernel
theorem dX7_takeNumber_92 : decode cX7_takeNumber 92 = .ok (.iload_n 3, 1) := by decide +kernel
theorem dX7_takeNumber_93 : decode cX7_takeNumber 93 = .ok (.iload_n 1, 1) := by decide +kernel
theorem dX7_takeNumber_94 : decode cX7_takeNumber 94 = .ok (.if_icmp .le 5, 3) := by decide +kernel
theorem dX7_takeNumber_97 : decode cX7_takeNumber 97 = .ok (.iconst (-1), 1) := by decide +kernel
theorem dX7_takeNumber_98 : decode cX7_takeNumber 98 = .ok (.ireturn, 1) := by decide +kernel
theorem dX7_takeNumber_99 : decode cX7_takeNumber 99 = .ok (.aload_n 0, 1) := by decide +kernel
theorem dX7_takeNumber_100 : decode cX7_takeNumber 100 = .ok (.iload_n 2, 1) := by decide +kernel
theorem dX7_takeNumber_101 : decode cX7_takeNumber 101 = .ok (.putfield 25, 3) := by decide +kernel
theorem dX7_takeNumber_104 : decode cX7_takeNumber 104 = .ok (.iload_n 3, 1) := by decide +kernel
theorem dX7_takeNumber_105 : decode cX7_takeNumber 105 = .ok (.ireturn, 1) := by decide +kernel
theorem dX7_takeWord_0 : decode cX7_takeWord 0 = .ok (.aload_n 0, 1) := by decide +kernel
theorem dX7_takeWord_1 : decode cX7_takeWord 1 = .ok (.invokevirtual 43, 3) := by decide +kernel
theorem dX7_takeWord_4 : decode cX7_takeWord 4 = .ok (.aload_n 0, 1) := by decide +kernel
theorem dX7_takeWord_5 : decode cX7_takeWord 5 = .ok (.getfield 25, 3) := by decide +kernel
theorem dX7_takeWord_8 : decode cX7_takeWord 8 = .ok (.istore_n 2, 1) := by decide +kernel
theorem dX7_takeWord_9 : decode cX7_takeWord 9 = .ok (.iload_n 2, 1) := by decide +kernel
theorem dX7_takeWord_10 : decode cX7_takeWord 10 = .ok (.aload_n 0, 1) := by decide +kernel
theorem dX7_takeWord_11 : decode cX7_takeWord 11 = .ok (.getfield 12, 3) := by decide +kernel
theorem dX7_takeWord_14 : decode cX7_takeWord 14 = .ok (.getfield 46, 3) := by decide +kernel
theorem dX7_takeWord_17 : decode cX7_takeWord 17 = .ok (.if_icmp .ge 20, 3) := by decide +kernel
theorem dX7_takeWord_20 : decode cX7_takeWord 20 = .ok (.aload_n 0, 1) := by decide +kernel
theorem dX7_takeWord_21 : decode cX7_takeWord 21 = .ok (.iload_n 2, 1) := by decide +kernel
theorem dX7_takeWord_22 : decode cX7_takeWord 22 = .ok (.invokevirtual 50, 3) := by decide +kernel
theorem dX7_takeWord_25 : decode cX7_takeWord 25 = .ok (.invokestatic 65, 3) := by decide +kernel
theorem dX7_takeWord_28 : decode cX7_takeWord 28 = .ok (.ifCond .eq 9, 3) := by decide +kernel
theorem dX7_takeWord_31 : decode cX7_takeWord 31 = .ok (.iinc 2 1, 3) := by decide +kernel
theorem dX7_takeWord_34 : decode cX7_takeWord 34 = .ok (.goto (-25), 3) := by decide +kernel
theorem dX7_takeWord_37 : decode cX7_takeWord 37 = .ok (.iload_n 2, 1) := by decide +kernel
theorem dX7_takeWord_38 : decode cX7_takeWord 38 = .ok (.aload_n 0, 1) := by decide +kernel
theorem dX7_takeWord_39 : decode cX7_takeWord 39 = .ok (.getfield 25, 3) := by decide +kernel
theorem dX7_takeWord_42 : decode cX7_takeWord 42 = .ok (.isub, 1) := by decide +kernel
theorem dX7_takeWord_43 : decode cX7_takeWord 43 = .ok (.aload_n 1, 1) := by decide +kernel
theorem dX7_takeWord_44 : decode cX7_takeWord 44 = .ok (.invokevirtual 68, 3) := by decide +kernel
theorem dX7_takeWord_47 : decode cX7_takeWord 47 = .ok (.if_icmp .eq 5, 3) := by decide +kernel
theorem dX7_takeWord_50 : decode cX7_takeWord 50 = .ok (.iconst 0, 1) := by decide +kernel
theorem dX7_takeWord_51 : decode cX7_takeWord 51 = .ok (.ireturn, 1) := by decide +kernel
theorem dX7_takeWord_52 : decode cX7_takeWord 52 = .ok (.iconst 0, 1) := by decide +kernel
theorem dX7_takeWord_53 : decode cX7_takeWord 53 = .ok (.istore_n 3, 1) := by decide +kernel
theorem dX7_takeWord_54 : decode cX7_takeWord 54 = .ok (.iload_n 3, 1) := by decide +kernel
theorem dX7_takeWord_55 : decode cX7_takeWord 55 = .ok (.aload_n 1, 1) := by decide +kernel
theorem dX7_takeWord_56 : decode cX7_takeWord 56 = .ok (.invokevirtual 68, 3) := by decide +kernel
theorem dX7_takeWord_59 : decode cX7_takeWord 59 = .ok (.if_icmp .ge 29, 3) := by decide +kernel
theorem dX7_takeWord_62 : decode cX7_takeWord 62 = .ok (.aload_n 0, 1) := by decide +kernel
theorem dX7_takeWord_63 : decode cX7_takeWord 63 = .ok (.aload_n 0, 1) := by decide +kernel
theorem dX7_takeWord_64 : decode cX7_takeWord 64 = .ok (.getfield 25, 3) := by decide +kernel
theorem dX7_takeWord_67 : decode cX7_takeWord 67 = .ok (.iload_n 3, 1) := by decide +kernel
theorem dX7_takeWord_68 : decode cX7_takeWord 68 = .ok (.iadd, 1) := by decide +kernel
theorem dX7_takeWord_69 : decode cX7_takeWord 69 = .ok (.invokevirtual 50, 3) := by decide +kernel
theorem dX7_takeWord_72 : decode cX7_takeWord 72 = .ok (.aload_n 1, 1) := by decide +kernel
theorem dX7_takeWord_73 : decode cX7_takeWord 73 = .ok (.iload_n 3, 1) := by decide +kernel
theorem dX7_takeWord_74 : decode cX7_takeWord 74 = .ok (.invokevirtual 73, 3) := by decide +kernel
theorem dX7_takeWord_77 : decode cX7_takeWord 77 = .ok (.if_icmp .eq 5, 3) := by decide +kernel
theorem dX7_takeWord_80 : decode cX7_takeWord 80 = .ok (.iconst 0, 1) := by decide +kernel
theorem dX7_takeWord_81 : decode cX7_takeWord 81 = .ok (.ireturn, 1) := by decide +kernel
theorem dX7_takeWord_82 : decode cX7_takeWord 82 = .ok (.iinc 3 1, 3) := by decide +kernel
theorem dX7_takeWord_85 : decode cX7_takeWord 85 = .ok (.goto (-31), 3) := by decide +kernel
theorem dX7_takeWord_88 : decode cX7_takeWord 88 = .ok (.aload_n 0, 1) := by decide +kernel
theorem dX7_takeWord_89 : decode cX7_takeWord 89 = .ok (.iload_n 2, 1) := by decide +kernel
theorem dX7_takeWord_90 : decode cX7_takeWord 90 = .ok (.putfield 25, 3) := by decide +kernel
theorem dX7_takeWord_93 : decode cX7_takeWord 93 = .ok (.iconst 1, 1) := by decide +kernel
theorem dX7_takeWord_94 : decode cX7_takeWord 94 = .ok (.ireturn, 1) := by decide +kernel
theorem dX7_skipBlanks_0 : decode cX7_skipBlanks 0 = .ok (.aload_n 0, 1) := by decide +kernel
theorem dX7_skipBlanks_1 : decode cX7_skipBlanks 1 = .ok (.getfield 25, 3) := by decide +kernel
theorem dX7_skipBlanks_4 : decode cX7_skipBlanks 4 = .ok (.aload_n 0, 1) := by decide +kernel
theorem dX7_skipBlanks_5 : decode cX7_skipBlanks 5 = .ok (.getfield 12, 3) := by decide +kernel
theorem dX7_skipBlanks_8 : decode cX7_skipBlanks 8 = .ok (.getfield 46, 3) := by decide +kernel
theorem dX7_skipBlanks_11 : decode cX7_skipBlanks 11 = .ok (.if_icmp .ge 29, 3) := by decide +kernel
theorem dX7_skipBlanks_14 : decode cX7_skipBlanks 14 = .ok (.aload_n 0, 1) := by decide +kernel
theorem dX7_skipBlanks_15 : decode cX7_skipBlanks 15 = .ok (.aload_n 0, 1) := by decide +kernel
theorem dX7_skipBlanks_16 : decode cX7_skipBlanks 16 = .ok (.getfield 25, 3) := by decide +kernel
theorem dX7_skipBlanks_19 : decode cX7_skipBlanks 19 = .ok (.invokevirtual 50, 3) := by decide +kernel
theorem dX7_skipBlanks_22 : decode cX7_skipBlanks 22 = .ok (.bipush 32, 2) := by decide +kernel
theorem dX7_skipBlanks_24 : decode cX7_skipBlanks 24 = .ok (.if_icmp .ne 16, 3) := by decide +kernel
theorem dX7_skipBlanks_27 : decode cX7_skipBlanks 27 = .ok (.aload_n 0, 1) := by decide +kernel
theorem dX7_skipBlanks_28 : decode cX7_skipBlanks 28 = .ok (.dup, 1) := by decide +kernel
theorem dX7_skipBlanks_29 : decode cX7_skipBlanks 29 = .ok (.getfield 25, 3) := by decide +kernel
theorem dX7_skipBlanks_32 : decode cX7_skipBlanks 32 = .ok (.iconst 1, 1) := by decide +kernel
theorem dX7_skipBlanks_33 : decode cX7_skipBlanks 33 = .ok (.iadd, 1) := by decide +kernel
theorem dX7_skipBlanks_34 : decode cX7_skipBlanks 34 = .ok (.putfield 25, 3) := by decide +kernel
theorem dX7_skipBlanks_37 : decode cX7_skipBlanks 37 = .ok (.goto (-37), 3) := by decide +kernel
theorem dX7_skipBlanks_40 : decode cX7_skipBlanks 40 = .ok (.return_, 1) := by decide +kernel
theorem dX7_here_0 : decode cX7_here 0 = .ok (.iload_n 1, 1) := by decide +kernel
theorem dX7_here_1 : decode cX7_here 1 = .ok (.ifCond .lt 26, 3) := by decide +kernel
theorem dX7_here_4 : decode cX7_here 4 = .ok (.iload_n 1, 1) := by decide +kernel
theorem dX7_here_5 : decode cX7_here 5 = .ok (.aload_n 0, 1) := by decide +kernel
theorem dX7_here_6 : decode cX7_here 6 = .ok (.getfield 12, 3) := by decide +kernel
theorem dX7_here_9 : decode cX7_here 9 = .ok (.getfield 46, 3) := by decide +kernel
theorem dX7_here_12 : decode cX7_here 12 = .ok (.if_icmp .ge 15, 3) := by decide +kernel
theorem dX7_here_15 : decode cX7_here 15 = .ok (.iload_n 1, 1) := by decide +kernel
theorem dX7_here_16 : decode cX7_here 16 = .ok (.aload_n 0, 1) := by decide +kernel
theorem dX7_here_17 : decode cX7_here 17 = .ok (.getfield 12, 3) := by decide +kernel
theorem dX7_here_20 : decode cX7_here 20 = .ok (.getfield 77, 3) := by decide +kernel
theorem dX7_here_23 : decode cX7_here 23 = .ok (.arraylength, 1) := by decide +kernel
theorem dX7_here_24 : decode cX7_here 24 = .ok (.if_icmp .lt 7, 3) := by decide +kernel
theorem dX7_here_27 : decode cX7_here 27 = .ok (.iconst (-1), 1) := by decide +kernel
theorem dX7_here_28 : decode cX7_here 28 = .ok (.goto 12, 3) := by decide +kernel
theorem dX7_here_31 : decode cX7_here 31 = .ok (.aload_n 0, 1) := by decide +kernel
theorem dX7_here_32 : decode cX7_here 32 = .ok (.getfield 12, 3) := by decide +kernel
theorem dX7_here_35 : decode cX7_here 35 = .ok (.getfield 77, 3) := by decide +kernel
theorem dX7_here_38 : decode cX7_here 38 = .ok (.iload_n 1, 1) := by decide +kernel
theorem dX7_here_39 : decode cX7_here 39 = .ok (.iaload, 1) := by decide +kernel
theorem dX7_here_40 : decode cX7_here 40 = .ok (.ireturn, 1) := by decide +kernel
theorem dX7_isDigit_0 : decode cX7_isDigit 0 = .ok (.iload_n 0, 1) := by decide +kernel
theorem dX7_isDigit_1 : decode cX7_isDigit 1 = .ok (.bipush 48, 2) := by decide +kernel
theorem dX7_isDigit_3 : decode cX7_isDigit 3 = .ok (.if_icmp .lt 13, 3) := by decide +kernel
theorem dX7_isDigit_6 : decode cX7_isDigit 6 = .ok (.iload_n 0, 1) := by decide +kernel
theorem dX7_isDigit_7 : decode cX7_isDigit 7 = .ok (.bipush 57, 2) := by decide +kernel
theorem dX7_isDigit_9 : decode cX7_isDigit 9 = .ok (.if_icmp .gt 7, 3) := by decide +kernel
theorem dX7_isDigit_12 : decode cX7_isDigit 12 = .ok (.iconst 1, 1) := by decide +kernel
theorem dX7_isDigit_13 : decode cX7_isDigit 13 = .ok (.goto 4, 3) := by decide +kernel
theorem dX7_isDigit_16 : decode cX7_isDigit 16 = .ok (.iconst 0, 1) := by decide +kernel
theorem dX7_isDigit_17 : decode cX7_isDigit 17 = .ok (.ireturn, 1) := by decide +kernel
theorem dX7_isLetter_0 : decode cX7_isLetter 0 = .ok (.iload_n 0, 1) := by decide +kernel
theorem dX7_isLetter_1 : decode cX7_isLetter 1 = .ok (.bipush 97, 2) := by decide +kernel
theorem dX7_isLetter_3 : decode cX7_isLetter 3 = .ok (.if_icmp .lt 13, 3) := by decide +kernel
theorem dX7_isLetter_6 : decode cX7_isLetter 6 = .ok (.iload_n 0, 1) := by decide +kernel
theorem dX7_isLetter_7 : decode cX7_isLetter 7 = .ok (.bipush 122, 2) := by decide +kernel
theorem dX7_isLetter_9 : decode cX7_isLetter 9 = .ok (.if_icmp .gt 7, 3) := by decide +kernel
theorem dX7_isLetter_12 : decode cX7_isLetter 12 = .ok (.iconst 1, 1) := by decide +kernel
theorem dX7_isLetter_13 : decode cX7_isLetter 13 = .ok (.goto 4, 3) := by decide +kernel
theorem dX7_isLetter_16 : decode cX7_isLetter 16 = .ok (.iconst 0, 1) := by decide +kernel
theorem dX7_isLetter_17 : decode cX7_isLetter 17 = .ok (.ireturn, 1) := by decide +kernel
theorem dX8_init_0 : decode cX8_init 0 = .ok (.aload_n 0, 1) := by decide +kernel
theorem dX8_init_1 : decode cX8_init 1 = .ok (.invokespecial 3, 3) := by decide +kernel
theorem dX8_init_4 : decode cX8_init 4 = .ok (.aload_n 1, 1) := by decide +kernel
theorem dX8_init_5 : decode cX8_init 5 = .ok (.getfield 9, 3) := by decide +kernel
theorem dX8_init_8 : decode cX8_init 8 = .ok (.iconst 0, 1) := by decide +kernel
theorem dX8_init_9 : decode cX8_init 9 = .ok (.invokestatic 15, 3) := by decide +kernel
theorem dX8_init_12 : decode cX8_init 12 = .ok (.bipush 40, 2) := by decide +kernel
theorem dX8_init_14 : decode cX8_init 14 = .ok (.invokestatic 21, 3) := by decide +kernel
theorem dX8_init_17 : decode cX8_init 17 = .ok (.istore_n 3, 1) := by decide +kernel
theorem dX8_init_18 : decode cX8_init 18 = .ok (.aload_n 0, 1) := by decide +kernel
theorem dX8_init_19 : decode cX8_init 19 = .ok (.aload_n 1, 1) := by decide +kernel
theorem dX8_init_20 : decode cX8_init 20 = .ok (.getfield 24, 3) := by decide +kernel
theorem dX8_init_23 : decode cX8_init 23 = .ok (.iload_n 3, 1) := by decide +kernel
theorem dX8_init_24 : decode cX8_init 24 = .ok (.invokestatic 28, 3) := by decide +kernel
theorem dX8_init_27 : decode cX8_init 27 = .ok (.putfield 34, 3) := by decide +kernel
theorem dX8_init_30 : decode cX8_init 30 = .ok (.aload_n 0, 1) := by decide +kernel
theorem dX8_init_31 : decode cX8_init 31 = .ok (.aload_n 1, 1) := by decide +kernel
theorem dX8_init_32 : decode cX8_init 32 = .ok (.getfield 37, 3) := by decide +kernel
theorem dX8_init_35 : decode cX8_init 35 = .ok (.iload_n 3, 1) := by decide +kernel
theorem dX8_init_36 : decode cX8_init 36 = .ok (.invokestatic 28, 3) := by decide +kernel
theorem dX8_init_39 : decode cX8_init 39 = .ok (.putfield 40, 3) := by decide +kernel
theorem dX8_init_42 : decode cX8_init 42 = .ok (.aload_n 0, 1) := by decide +kernel
theorem dX8_init_43 : decode cX8_init 43 = .ok (.iload_n 2, 1) := by decide +kernel
theorem dX8_init_44 : decode cX8_init 44 = .ok (.putfield 41, 3) := by decide +kernel
theorem dX8_init_47 : decode cX8_init 47 = .ok (.aload_n 0, 1) := by decide +kernel
theorem dX8_init_48 : decode cX8_init 48 = .ok (.bipush 14, 2) := by decide +kernel
theorem dX8_init_50 : decode cX8_init 50 = .ok (.newarray .int, 2) := by decide +kernel
theorem dX8_init_52 : decode cX8_init 52 = .ok (.putfield 44, 3) := by decide +kernel
theorem dX8_init_55 : decode cX8_init 55 = .ok (.aload_n 0, 1) := by decide +kernel
theorem dX8_init_56 : decode cX8_init 56 = .ok (.iconst 0, 1) := by decide +kernel
theorem dX8_init_57 : decode cX8_init 57 = .ok (.putfield 47, 3) := by decide +kernel
theorem dX8_init_60 : decode cX8_init 60 = .ok (.aload_n 0, 1) := by decide +kernel
theorem dX8_init_61 : decode cX8_init 61 = .ok (.iconst 0, 1) := by decide +kernel
theorem dX8_init_62 : decode cX8_init 62 = .ok (.putfield 51, 3) := by decide +kernel
theorem dX8_init_65 : decode cX8_init 65 = .ok (.iconst 0, 1) := by decide +kernel
theorem dX8_init_66 : decode cX8_init 66 = .ok (.istore 4, 2) := by decide +kernel
theorem dX8_init_68 : decode cX8_init 68 = .ok (.iload 4, 2) := by decide +kernel
theorem dX8_init_70 : decode cX8_init 70 = .ok (.sipush 280, 3) := by decide +kernel
theorem dX8_init_73 : decode cX8_init 73 = .ok (.if_icmp .ge 46, 3) := by decide +kernel
theorem dX8_init_76 : decode cX8_init 76 = .ok (.aload_n 0, 1) := by decide +kernel
theorem dX8_init_77 : decode cX8_init 77 = .ok (.iload 4, 2) := by decide +kernel
theorem dX8_init_79 : decode cX8_init 79 = .ok (.bipush 20, 2) := by decide +kernel
theorem dX8_init_81 : decode cX8_init 81 = .ok (.irem, 1) := by decide +kernel
theorem dX8_init_82 : decode cX8_init 82 = .ok (.iload 4, 2) := by decide +kernel
theorem dX8_init_84 : decode cX8_init 84 = .ok (.bipush 20, 2) := by decide +kernel
theorem dX8_init_86 : decode cX8_init 86 = .ok (.idiv, 1) := by decide +kernel
theorem dX8_init_87 : decode cX8_init 87 = .ok (.invokevirtual 54, 3) := by decide +kernel
theorem dX8_init_90 : decode cX8_init 90 = .ok (.ifCond .eq 23, 3) := by decide +kernel
theorem dX8_init_93 : decode cX8_init 93 = .ok (.aload_n 0, 1) := by decide +kernel
theorem dX8_init_94 : decode cX8_init 94 = .ok (.getfield 44, 3) := by decide +kernel
theorem dX8_init_97 : decode cX8_init 97 = .ok (.iload 4, 2) := by decide +kernel
theorem dX8_init_99 : decode cX8_init 99 = .ok (.bipush 20, 2) := by decide +kernel
theorem dX8_init_101 : decode cX8_init 101 = .ok (.idiv, 1) := by decide +kernel
theorem dX8_init_102 : decode cX8_init 102 = .ok (.dup2, 1) := by decide +kernel
theorem dX8_init_103 : decode cX8_init 103 = .ok (.iaload, 1) := by decide +kernel
theorem dX8_init_104 : decode cX8_init 104 = .ok (.iconst 1, 1) := by decide +kernel
theorem dX8_init_105 : decode cX8_init 105 = .ok (.iload 4, 2) := by decide +kernel
theorem dX8_init_107 : decode cX8_init 107 = .ok (.bipush 20, 2) := by decide +kernel
theorem dX8_init_109 : decode cX8_init 109 = .ok (.irem, 1) := by decide +kernel
theorem dX8_init_110 : decode cX8_init 110 = .ok (.ishl, 1) := by decide +kernel
theorem dX8_init_111 : decode cX8_init 111 = .ok (.ior, 1) := by decide +kernel
theorem dX8_init_112 : decode cX8_init 112 = .ok (.iastore, 1) := by decide +kernel
theorem dX8_init_113 : decode cX8_init 113 = .ok (.iinc 4 1, 3) := by decide +kernel
theorem dX8_init_116 : decode cX8_init 116 = .ok (.goto (-48), 3) := by decide +kernel
theorem dX8_init_119 : decode cX8_init 119 = .ok (.return_, 1) := by decide +kernel
theorem dX8_holdsAt_0 : decode cX8_holdsAt 0 = .ok (.iload_n 1, 1) := by decide +kernel
theorem dX8_holdsAt_1 : decode cX8_holdsAt 1 = .ok (.aload_n 0, 1) := by decide +kernel
theorem dX8_holdsAt_2 : decode cX8_holdsAt 2 = .ok (.getfield 41, 3) := by decide +kernel
theorem dX8_holdsAt_5 : decode cX8_holdsAt 5 = .ok (.if_icmp .lt 22, 3) := by decide +kernel
theorem dX8_holdsAt_8 : decode cX8_holdsAt 8 = .ok (.aload_n 0, 1) := by decide +kernel
theorem dX8_holdsAt_9 : decode cX8_holdsAt 9 = .ok (.getfield 47, 3) := by decide +kernel
theorem dX8_holdsAt_12 : decode cX8_holdsAt 12 = .ok (.ifCond .eq 11, 3) := by decide +kernel
theorem dX8_holdsAt_15 : decode cX8_holdsAt 15 = .ok (.iload_n 1, 1) := by decide +kernel
theorem dX8_holdsAt_16 : decode cX8_holdsAt 16 = .ok (.aload_n 0, 1) := by decide +kernel
theorem dX8_holdsAt_17 : decode cX8_holdsAt 17 = .ok (.getfield 51, 3) := by decide +kernel
theorem dX8_holdsAt_20 : decode cX8_holdsAt 20 = .ok (.if_icmp .ge 7, 3) := by decide +kernel
theorem dX8_holdsAt_23 : decode cX8_holdsAt 23 = .ok (.iconst 1, 1) := by decide +kernel
theorem dX8_holdsAt_24 : decode cX8_holdsAt 24 = .ok (.goto 4, 3) := by decide +kernel
theorem dX8_holdsAt_27 : decode cX8_holdsAt 27 = .ok (.iconst 0, 1) := by decide +kernel
theorem dX8_holdsAt_28 : decode cX8_holdsAt 28 = .ok (.ireturn, 1) := by decide +kernel
theorem dX8_isWithin_0 : decode cX8_isWithin 0 = .ok (.iconst 0, 1) := by decide +kernel
theorem dX8_isWithin_1 : decode cX8_isWithin 1 = .ok (.istore_n 3, 1) := by decide +kernel
theorem dX8_isWithin_2 : decode cX8_isWithin 2 = .ok (.aload_n 0, 1) := by decide +kernel
theorem dX8_isWithin_3 : decode cX8_isWithin 3 = .ok (.getfield 34, 3) := by decide +kernel
theorem dX8_isWithin_6 : decode cX8_isWithin 6 = .ok (.arraylength, 1) := by decide +kernel
theorem dX8_isWithin_7 : decode cX8_isWithin 7 = .ok (.iconst 1, 1) := by decide +kernel
theorem dX8_isWithin_8 : decode cX8_isWithin 8 = .ok (.isub, 1) := by decide +kernel
theorem dX8_isWithin_9 : decode cX8_isWithin 9 = .ok (.istore 4, 2) := by decide +kernel
theorem dX8_isWithin_11 : decode cX8_isWithin 11 = .ok (.iconst 0, 1) := by decide +kernel
theorem dX8_isWithin_12 : decode cX8_isWithin 12 = .ok (.istore 5, 2) := by decide +kernel
theorem dX8_isWithin_14 : decode cX8_isWithin 14 = .ok (.iload 5, 2) := by decide +kernel
theorem dX8_isWithin_16 : decode cX8_isWithin 16 = .ok (.aload_n 0, 1) := by decide +kernel
theorem dX8_isWithin_17 : decode cX8_isWithin 17 = .ok (.getfield 34, 3) := by decide +kernel
theorem dX8_isWithin_20 : decode cX8_isWithin 20 = .ok (.arraylength, 1) := by decide +kernel
theorem dX8_isWithin_21 : decode cX8_isWithin 21 = .ok (.if_icmp .ge 46, 3) := by decide +kernel
theorem dX8_isWithin_24 : decode cX8_isWithin 24 = .ok (.iload 5, 2) := by decide +kernel
theorem dX8_isWithin_26 : decode cX8_isWithin 26 = .ok (.aload_n 0, 1) := by decide +kernel
theorem dX8_isWithin_27 : decode cX8_isWithin 27 = .ok (.getfield 40, 3) := by decide +kernel
theorem dX8_isWithin_30 : decode cX8_isWithin 30 = .ok (.arraylength, 1) := by decide +kernel
theorem dX8_isWithin_31 : decode cX8_isWithin 31 = .ok (.if_icmp .ge 36, 3) := by decide +kernel
theorem dX8_isWithin_34 : decode cX8_isWithin 34 = .ok (.aload_n 0, 1) := by decide +kernel
theorem dX8_isWithin_35 : decode cX8_isWithin 35 = .ok (.iload 4, 2) := by decide +kernel
theorem dX8_isWithin_37 : decode cX8_isWithin 37 = .ok (.iload 5, 2) := by decide +kernel
theorem dX8_isWithin_39 : decode cX8_isWithin 39 = .ok (.iload_n 1, 1) := by decide +kernel
theorem dX8_isWithin_40 : decode cX8_isWithin 40 = .ok (.iload_n 2, 1) := by decide +kernel
theorem dX8_isWithin_41 : decode cX8_isWithin 41 = .ok (.invokevirtual 58, 3) := by decide +kernel
theorem dX8_isWithin_44 : decode cX8_isWithin 44 = .ok (.ifCond .eq 13, 3) := by decide +kernel
theorem dX8_isWithin_47 : decode cX8_isWithin 47 = .ok (.iload_n 3, 1) := by decide +kernel
theorem dX8_isWithin_48 : decode cX8_isWithin 48 = .ok (.ifCond .ne 7, 3) := by decide +kernel
theorem dX8_isWithin_51 : decode cX8_isWithin 51 = .ok (.iconst 1, 1) := by decide +kernel
theorem dX8_isWithin_52 : decode cX8_isWithin 52 = .ok (.goto 4, 3) := by decide +kernel
theorem dX8_isWithin_55 : decode cX8_isWithin 55 = .ok (.iconst 0, 1) := by decide +kernel
theorem dX8_isWithin_56 : decode cX8_isWithin 56 = .ok (.istore_n 3, 1) := by decide +kernel
theorem dX8_isWithin_57 : decode cX8_isWithin 57 = .ok (.iload 5, 2) := by decide +kernel
theorem dX8_isWithin_59 : decode cX8_isWithin 59 = .ok (.istore 4, 2) := by decide +kernel
theorem dX8_isWithin_61 : decode cX8_isWithin 61 = .ok (.iinc 5 1, 3) := by decide +kernel
theorem dX8_isWithin_64 : decode cX8_isWithin 64 = .ok (.goto (-50), 3) := by decide +kernel
theorem dX8_isWithin_67 : decode cX8_isWithin 67 = .ok (.iload_n 3, 1) := by decide +kernel
theorem dX8_isWithin_68 : decode cX8_isWithin 68 = .ok (.ireturn, 1) := by decide +kernel
theorem dX8_passes_0 : decode cX8_passes 0 = .ok (.aload_n 0, 1) := by decide +kernel
theorem dX8_passes_1 : decode cX8_passes 1 = .ok (.getfield 40, 3) := by decide +kernel
theorem dX8_passes_4 : decode cX8_passes 4 = .ok (.iload_n 1, 1) := by decide +kernel
theorem dX8_passes_5 : decode cX8_passes 5 = .ok (.iaload, 1) := by decide +kernel
theorem dX8_passes_6 : decode cX8_passes 6 = .ok (.iload 4, 2) := by decide +kernel
theorem dX8_passes_8 : decode cX8_passes 8 = .ok (.if_icmp .le 7, 3) := by decide +kernel
theorem dX8_passes_11 : decode cX8_passes 11 = .ok (.iconst 1, 1) := by decide +kernel
theorem dX8_passes_12 : decode cX8_passes 12 = .ok (.goto 4, 3) := by decide +kernel
theorem dX8_passes_15 : decode cX8_passes 15 = .ok (.iconst 0, 1) := by decide +kernel
theorem dX8_passes_16 : decode cX8_passes 16 = .ok (.istore 5, 2) := by decide +kernel
theorem dX8_passes_18 : decode cX8_passes 18 = .ok (.aload_n 0, 1) := by decide +kernel
theorem dX8_passes_19 : decode cX8_passes 19 = .ok (.getfield 40, 3) := by decide +kernel
theorem dX8_passes_22 : decode cX8_passes 22 = .ok (.iload_n 2, 1) := by decide +kernel
theorem dX8_passes_23 : decode cX8_passes 23 = .ok (.iaload, 1) := by decide +kernel
theorem dX8_passes_24 : decode cX8_passes 24 = .ok (.iload 4, 2) := by decide +kernel
theorem dX8_passes_26 : decode cX8_passes 26 = .ok (.if_icmp .le 7, 3) := by decide +kernel
theorem dX8_passes_29 : decode cX8_passes 29 = .ok (.iconst 1, 1) := by decide +kernel
theorem dX8_passes_30 : decode cX8_passes 30 = .ok (.goto 4, 3) := by decide +kernel
theorem dX8_passes_33 : decode cX8_passes 33 = .ok (.iconst 0, 1) := by decide +kernel
theorem dX8_passes_34 : decode cX8_passes 34 = .ok (.istore 6, 2) := by decide +kernel
theorem dX8_passes_36 : decode cX8_passes 36 = .ok (.iload 5, 2) := by decide +kernel
theorem dX8_passes_38 : decode cX8_passes 38 = .ok (.iload 6, 2) := by decide +kernel
theorem dX8_passes_40 : decode cX8_passes 40 = .ok (.if_icmp .ne 5, 3) := by decide +kernel
theorem dX8_passes_43 : decode cX8_passes 43 = .ok (.iconst 0, 1) := by decide +kernel
theorem dX8_passes_44 : decode cX8_passes 44 = .ok (.ireturn, 1) := by decide +kernel
theorem dX8_passes_45 : decode cX8_passes 45 = .ok (.iload 5, 2) := by decide +kernel
theorem dX8_passes_47 : decode cX8_passes 47 = .ok (.ifCond .eq 7, 3) := by decide +kernel
theorem dX8_passes_50 : decode cX8_passes 50 = .ok (.iload_n 2, 1) := by decide +kernel
theorem dX8_passes_51 : decode cX8_passes 51 = .ok (.goto 4, 3) := by decide +kernel
theorem dX8_passes_54 : decode cX8_passes 54 = .ok (.iload_n 1, 1) := by decide +kernel
theorem dX8_passes_55 : decode cX8_passes 55 = .ok (.istore 7, 2) := by decide +kernel
theorem dX8_passes_57 : decode cX8_passes 57 = .ok (.iload 5, 2) := by decide +kernel
theorem dX8_passes_59 : decode cX8_passes 59 = .ok (.ifCond .eq 7, 3) := by decide +kernel
theorem dX8_passes_62 : decode cX8_passes 62 = .ok (.iload_n 1, 1) := by decide +kernel
theorem dX8_passes_63 : decode cX8_passes 63 = .ok (.goto 4, 3) := by decide +kernel
theorem dX8_passes_66 : decode cX8_passes 66 = .ok (.iload_n 2, 1) := by decide +kernel
theorem dX8_passes_67 : decode cX8_passes 67 = .ok (.istore 8, 2) := by decide +kernel
theorem dX8_passes_69 : decode cX8_passes 69 = .ok (.iconst 2, 1) := by decide +kernel
theorem dX8_passes_70 : decode cX8_passes 70 = .ok (.iload_n 3, 1) := by decide +kernel
theorem dX8_passes_71 : decode cX8_passes 71 = .ok (.imul, 1) := by decide +kernel
theorem dX8_passes_72 : decode cX8_passes 72 = .ok (.iconst 1, 1) := by decide +kernel
theorem dX8_passes_73 : decode cX8_passes 73 = .ok (.iadd, 1) := by decide +kernel
theorem dX8_passes_74 : decode cX8_passes 74 = .ok (.iconst 2, 1) := by decide +kernel
theorem dX8_passes_75 : decode cX8_passes 75 = .ok (.aload_n 0, 1) := by decide +kernel
theorem dX8_passes_76 : decode cX8_passes 76 = .ok (.getfield 34, 3) := by decide +kernel
theorem dX8_passes_79 : decode cX8_passes 79 = .ok (.iload 7, 2) := by decide +kernel
theorem dX8_passes_81 : decode cX8_passes 81 = .ok (.iaload, 1) := by decide +kernel
theorem dX8_passes_82 : decode cX8_passes 82 = .ok (.imul, 1) := by decide +kernel
theorem dX8_passes_83 : decode cX8_passes 83 = .ok (.isub, 1) := by decide +kernel
theorem dX8_passes_84 : decode cX8_passes 84 = .ok (.istore 9, 2) := by decide +kernel
theorem dX8_passes_86 : decode cX8_passes 86 = .ok (.iconst 2, 1) := by decide +kernel
theorem dX8_passes_87 : decode cX8_passes 87 = .ok (.iload 4, 2) := by decide +kernel
theorem dX8_passes_89 : decode cX8_passes 89 = .ok (.imul, 1) := by decide +kernel
theorem dX8_passes_90 : decode cX8_passes 90 = .ok (.iconst 1, 1) := by decide +kernel
theorem dX8_passes_91 : decode cX8_passes 91 = .ok (.iadd, 1) := by decide +kernel
theorem dX8_passes_92 : decode cX8_passes 92 = .ok (.iconst 2, 1) := by decide +kernel
theorem dX8_passes_93 : decode cX8_passes 93 = .ok (.aload_n 0, 1) := by decide +kernel
theorem dX8_passes_94 : decode cX8_passes 94 = .ok (.getfield 40, 3) := by decide +kernel
theorem dX8_passes_97 : decode cX8_passes 97 = .ok (.iload 7, 2) := by decide +kernel
theorem dX8_passes_99 : decode cX8_passes 99 = .ok (.iaload, 1) := by decide +kernel
theorem dX8_passes_100 : decode cX8_passes 100 = .ok (.imul, 1) := by decide +kernel
theorem dX8_passes_101 : decode cX8_passes 101 = .ok (.isub, 1) := by decide +kernel
theorem dX8_passes_102 : decode cX8_passes 102 = .ok (.istore 10, 2) := by decide +kernel
theorem dX8_passes_104 : decode cX8_passes 104 = .ok (.iload 9, 2) := by decide +kernel
theorem dX8_passes_106 : decode cX8_passes 106 = .ok (.aload_n 0, 1) := by decide +kernel
theorem dX8_passes_107 : decode cX8_passes 107 = .ok (.getfield 40, 3) := by decide +kernel
theorem dX8_passes_110 : decode cX8_passes 110 = .ok (.iload 8, 2) := by decide +kernel
theorem dX8_passes_112 : decode cX8_passes 112 = .ok (.iaload, 1) := by decide +kernel
theorem dX8_passes_113 : decode cX8_passes 113 = .ok (.aload_n 0, 1) := by decide +kernel
theorem dX8_passes_114 : decode cX8_passes 114 = .ok (.getfield 40, 3) := by decide +kernel
theorem dX8_passes_117 : decode cX8_passes 117 = .ok (.iload 7, 2) := by decide +kernel
theorem dX8_passes_119 : decode cX8_passes 119 = .ok (.iaload, 1) := by decide +kernel
theorem dX8_passes_120 : decode cX8_passes 120 = .ok (.isub, 1) := by decide +kernel
theorem dX8_passes_121 : decode cX8_passes 121 = .ok (.imul, 1) := by decide +kernel
theorem dX8_passes_122 : decode cX8_passes 122 = .ok (.iload 10, 2) := by decide +kernel
theorem dX8_passes_124 : decode cX8_passes 124 = .ok (.aload_n 0, 1) := by decide +kernel
theorem dX8_passes_125 : decode cX8_passes 125 = .ok (.getfield 34, 3) := by decide +kernel
theorem dX8_passes_128 : decode cX8_passes 128 = .ok (.iload 8, 2) := by decide +kernel
theorem dX8_passes_130 : decode cX8_passes 130 = .ok (.iaload, 1) := by decide +kernel
theorem dX8_passes_131 : decode cX8_passes 131 = .ok (.aload_n 0, 1) := by decide +kernel
theorem dX8_passes_132 : decode cX8_passes 132 = .ok (.getfield 34, 3) := by decide +kernel
theorem dX8_passes_135 : decode cX8_passes 135 = .ok (.iload 7, 2) := by decide +kernel
theorem dX8_passes_137 : decode cX8_passes 137 = .ok (.iaload, 1) := by decide +kernel
theorem dX8_passes_138 : decode cX8_passes 138 = .ok (.isub, 1) := by decide +kernel
theorem dX8_passes_139 : decode cX8_passes 139 = .ok (.imul, 1) := by decide +kernel
theorem dX8_passes_140 : decode cX8_passes 140 = .ok (.if_icmp .ge 7, 3) := by decide +kernel
theorem dX8_passes_143 : decode cX8_passes 143 = .ok (.iconst 1, 1) := by decide +kernel
theorem dX8_passes_144 : decode cX8_passes 144 = .ok (.goto 4, 3) := by decide +kernel
theorem dX8_passes_147 : decode cX8_passes 147 = .ok (.iconst 0, 1) := by decide +kernel
theorem dX8_passes_148 : decode cX8_passes 148 = .ok (.ireturn, 1) := by decide +kernel
theorem dX9_init_0 : decode cX9_init 0 = .ok (.aload_n 0, 1) := by decide +kernel
theorem dX9_init_1 : decode cX9_init 1 = .ok (.invokespecial 3, 3) := by decide +kernel
theorem dX9_init_4 : decode cX9_init 4 = .ok (.aload_n 0, 1) := by decide +kernel
theorem dX9_init_5 : decode cX9_init 5 = .ok (.new 9, 3) := by decide +kernel
theorem dX9_init_8 : decode cX9_init 8 = .ok (.dup, 1) := by decide +kernel
theorem dX9_init_9 : decode cX9_init 9 = .ok (.invokespecial 11, 3) := by decide +kernel
theorem dX9_init_12 : decode cX9_init 12 = .ok (.putfield 12, 3) := by decide +kernel
theorem dX9_init_15 : decode cX9_init 15 = .ok (.aload_n 0, 1) := by decide +kernel
theorem dX9_init_16 : decode cX9_init 16 = .ok (.new 16, 3) := by decide +kernel
theorem dX9_init_19 : decode cX9_init 19 = .ok (.dup, 1) := by decide +kernel
theorem dX9_init_20 : decode cX9_init 20 = .ok (.invokespecial 18, 3) := by decide +kernel
theorem dX9_init_23 : decode cX9_init 23 = .ok (.putfield 19, 3) := by decide +kernel
theorem dX9_init_26 : decode cX9_init 26 = .ok (.aload_n 0, 1) := by decide +kernel
theorem dX9_init_27 : decode cX9_init 27 = .ok (.new 16, 3) := by decide +kernel
theorem dX9_init_30 : decode cX9_init 30 = .ok (.dup, 1) := by decide +kernel
theorem dX9_init_31 : decode cX9_init 31 = .ok (.invokespecial 18, 3) := by decide +kernel
theorem dX9_init_34 : decode cX9_init 34 = .ok (.putfield 23, 3) := by decide +kernel
theorem dX9_init_37 : decode cX9_init 37 = .ok (.aload_n 0, 1) := by decide +kernel
theorem dX9_init_38 : decode cX9_init 38 = .ok (.new 26, 3) := by decide +kernel
theorem dX9_init_41 : decode cX9_init 41 = .ok (.dup, 1) := by decide +kernel
theorem dX9_init_42 : decode cX9_init 42 = .ok (.invokespecial 28, 3) := by decide +kernel
theorem dX9_init_45 : decode cX9_init 45 = .ok (.putfield 29, 3) := by decide +kernel
theorem dX9_init_48 : decode cX9_init 48 = .ok (.aload_n 0, 1) := by decide +kernel
theorem dX9_init_49 : decode cX9_init 49 = .ok (.aload_n 0, 1) := by decide +kernel
theorem dX9_init_50 : decode cX9_init 50 = .ok (.getfield 29, 3) := by decide +kernel
theorem dX9_init_53 : decode cX9_init 53 = .ok (.getfield 33, 3) := by decide +kernel
theorem dX9_init_56 : decode cX9_init 56 = .ok (.putfield 37, 3) := by decide +kernel
theorem dX9_init_59 : decode cX9_init 59 = .ok (.aload_n 0, 1) := by decide +kernel
theorem dX9_init_60 : decode cX9_init 60 = .ok (.new 38, 3) := by decide +kernel
theorem dX9_init_63 : decode cX9_init 63 = .ok (.dup, 1) := by decide +kernel
theorem dX9_init_64 : decode cX9_init 64 = .ok (.invokespecial 40, 3) := by decide +kernel
theorem dX9_init_67 : decode cX9_init 67 = .ok (.putfield 41, 3) := by decide +kernel
theorem dX9_init_70 : decode cX9_init 70 = .ok (.aload_n 0, 1) := by decide +kernel
theorem dX9_init_71 : decode cX9_init 71 = .ok (.new 45, 3) := by decide +kernel
theorem dX9_init_74 : decode cX9_init 74 = .ok (.dup, 1) := by decide +kernel
theorem dX9_init_75 : decode cX9_init 75 = .ok (.invokespecial 47, 3) := by decide +kernel
theorem dX9_init_78 : decode cX9_init 78 = .ok (.putfield 48, 3) := by decide +kernel
theorem dX9_init_81 : decode cX9_init 81 = .ok (.aload_n 0, 1) := by decide +kernel
theorem dX9_init_82 : decode cX9_init 82 = .ok (.new 52, 3) := by decide +kernel
theorem dX9_init_85 : decode cX9_init 85 = .ok (.dup, 1) := by decide +kernel
theorem dX9_init_86 : decode cX9_init 86 = .ok (.invokespecial 54, 3) := by decide +kernel
theorem dX9_init_89 : decode cX9_init 89 = .ok (.putfield 55, 3) := by decide +kernel
theorem dX9_init_92 : decode cX9_init 92 = .ok (.aload_n 0, 1) := by decide +kernel
theorem dX9_init_93 : decode cX9_init 93 = .ok (.sipush 280, 3) := by decide +kernel
theorem dX9_init_96 : decode cX9_init 96 = .ok (.newarray .int, 2) := by decide +kernel
theorem dX9_init_98 : decode cX9_init 98 = .ok (.putfield 59, 3) := by decide +kernel
theorem dX9_init_101 : decode cX9_init 101 = .ok (.aload_n 0, 1) := by decide +kernel
theorem dX9_init_102 : decode cX9_init 102 = .ok (.sipush 280, 3) := by decide +kernel
theorem dX9_init_105 : decode cX9_init 105 = .ok (.newarray .int, 2) := by decide +kernel
theorem dX9_init_107 : decode cX9_init 107 = .ok (.putfield 63, 3) := by decide +kernel
theorem dX9_init_110 : decode cX9_init 110 = .ok (.aload_n 0, 1) := by decide +kernel
theorem dX9_init_111 : decode cX9_init 111 = .ok (.iconst 0, 1) := by decide +kernel
theorem dX9_init_112 : decode cX9_init 112 = .ok (.putfield 66, 3) := by decide +kernel
theorem dX9_init_115 : decode cX9_init 115 = .ok (.aload_n 0, 1) := by decide +kernel
theorem dX9_init_116 : decode cX9_init 116 = .ok (.iconst 0, 1) := by decide +kernel
theorem dX9_init_117 : decode cX9_init 117 = .ok (.putfield 70, 3) := by decide +kernel
theorem dX9_init_120 : decode cX9_init 120 = .ok (.aload_n 0, 1) := by decide +kernel
theorem dX9_init_121 : decode cX9_init 121 = .ok (.iconst (-1), 1) := by decide +kernel
theorem dX9_init_122 : decode cX9_init 122 = .ok (.putfield 73, 3) := by decide +kernel
theorem dX9_init_125 : decode cX9_init 125 = .ok (.return_, 1) := by decide +kernel
theorem dX9_feed_0 : decode cX9_feed 0 = .ok (.aload_n 0, 1) := by decide +kernel
theorem dX9_feed_1 : decode cX9_feed 1 = .ok (.getfield 37, 3) := by decide +kernel
theorem dX9_feed_4 : decode cX9_feed 4 = .ok (.getfield 76, 3) := by decide +kernel
theorem dX9_feed_7 : decode cX9_feed 7 = .ok (.bipush 20, 2) := by decide +kernel
theorem dX9_feed_9 : decode cX9_feed 9 = .ok (.iadd, 1) := by decide +kernel
theorem dX9_feed_10 : decode cX9_feed 10 = .ok (.sipush 400, 3) := by decide +kernel
theorem dX9_feed_13 : decode cX9_feed 13 = .ok (.if_icmp .le 5, 3) := by decide +kernel
theorem dX9_feed_16 : decode cX9_feed 16 = .ok (.iconst (-1), 1) := by decide +kernel
theorem dX9_feed_17 : decode cX9_feed 17 = .ok (.ireturn, 1) := by decide +kernel
theorem dX9_feed_18 : decode cX9_feed 18 = .ok (.aload_n 0, 1) := by decide +kernel
theorem dX9_feed_19 : decode cX9_feed 19 = .ok (.getfield 37, 3) := by decide +kernel
theorem dX9_feed_22 : decode cX9_feed 22 = .ok (.iload_n 1, 1) := by decide +kernel
theorem dX9_feed_23 : decode cX9_feed 23 = .ok (.invokevirtual 81, 3) := by decide +kernel
theorem dX9_feed_26 : decode cX9_feed 26 = .ok (.aload_n 0, 1) := by decide +kernel
theorem dX9_feed_27 : decode cX9_feed 27 = .ok (.getfield 37, 3) := by decide +kernel
theorem dX9_feed_30 : decode cX9_feed 30 = .ok (.iload_n 2, 1) := by decide +kernel
theorem dX9_feed_31 : decode cX9_feed 31 = .ok (.invokevirtual 81, 3) := by decide +kernel
theorem dX9_feed_34 : decode cX9_feed 34 = .ok (.aload_n 0, 1) := by decide +kernel
theorem dX9_feed_35 : decode cX9_feed 35 = .ok (.getfield 37, 3) := by decide +kernel
theorem dX9_feed_38 : decode cX9_feed 38 = .ok (.iload_n 3, 1) := by decide +kernel
theorem dX9_feed_39 : decode cX9_feed 39 = .ok (.invokevirtual 81, 3) := by decide +kernel
theorem dX9_feed_42 : decode cX9_feed 42 = .ok (.aload_n 0, 1) := by decide +kernel
theorem dX9_feed_43 : decode cX9_feed 43 = .ok (.getfield 37, 3) := by decide +kernel
theorem dX9_feed_46 : decode cX9_feed 46 = .ok (.iload 4, 2) := by decide +kernel
theorem dX9_feed_48 : decode cX9_feed 48 = .ok (.invokevirtual 81, 3) := by decide +kernel
theorem dX9_feed_51 : decode cX9_feed 51 = .ok (.aload_n 0, 1) := by decide +kernel
theorem dX9_feed_52 : decode cX9_feed 52 = .ok (.getfield 37, 3) := by decide +kernel
theorem dX9_feed_55 : decode cX9_feed 55 = .ok (.iload 5, 2) := by decide +kernel
theorem dX9_feed_57 : decode cX9_feed 57 = .ok (.invokevirtual 81, 3) := by decide +kernel
theorem dX9_feed_60 : decode cX9_feed 60 = .ok (.aload_n 0, 1) := by decide +kernel
theorem dX9_feed_61 : decode cX9_feed 61 = .ok (.getfield 37, 3) := by decide +kernel
theorem dX9_feed_64 : decode cX9_feed 64 = .ok (.getfield 76, 3) := by decide +kernel
theorem dX9_feed_67 : decode cX9_feed 67 = .ok (.ireturn, 1) := by decide +kernel
theorem dX9_end_0 : decode cX9_end 0 = .ok (.iload_n 1, 1) := by decide +kernel
theorem dX9_end_1 : decode cX9_end 1 = .ok (.ifCond .lt 14, 3) := by decide +kernel
theorem dX9_end_4 : decode cX9_end 4 = .ok (.iload_n 1, 1) := by decide +kernel
theorem dX9_end_5 : decode cX9_end 5 = .ok (.aload_n 0, 1) := by decide +kernel
theorem dX9_end_6 : decode cX9_end 6 = .ok (.getfield 37, 3) := by decide +kernel
theorem dX9_end_9 : decode cX9_end 9 = .ok (.getfield 76, 3) := by decide +kernel
theorem dX9_end_12 : decode cX9_end 12 = .ok (.if_icmp .le 5, 3) := by decide +kernel
theorem dX9_end_15 : decode cX9_end 15 = .ok (.iconst 0, 1) := by decide +kernel
theorem dX9_end_16 : decode cX9_end 16 = .ok (.ireturn, 1) := by decide +kernel
theorem dX9_end_17 : decode cX9_end 17 = .ok (.aload_n 0, 1) := by decide +kernel
theorem dX9_end_18 : decode cX9_end 18 = .ok (.getfield 37, 3) := by decide +kernel
theorem dX9_end_21 : decode cX9_end 21 = .ok (.iload_n 1, 1) := by decide +kernel
theorem dX9_end_22 : decode cX9_end 22 = .ok (.putfield 76, 3) := by decide +kernel
theorem dX9_end_25 : decode cX9_end 25 = .ok (.iconst 1, 1) := by decide +kernel
theorem dX9_end_26 : decode cX9_end 26 = .ok (.ireturn, 1) := by decide +kernel
theorem dX9_water_0 : decode cX9_water 0 = .ok (.iload_n 1, 1) := by decide +kernel
theorem dX9_water_1 : decode cX9_water 1 = .ok (.invokestatic 85, 3) := by decide +kernel
theorem dX9_water_4 : decode cX9_water 4 = .ok (.iload_n 2, 1) := by decide +kernel
theorem dX9_water_5 : decode cX9_water 5 = .ok (.invokestatic 88, 3) := by decide +kernel
theorem dX9_water_8 : decode cX9_water 8 = .ok (.ifCond .eq 22, 3) := by decide +kernel
theorem dX9_water_11 : decode cX9_water 11 = .ok (.iload_n 3, 1) := by decide +kernel
theorem dX9_water_12 : decode cX9_water 12 = .ok (.invokestatic 88, 3) := by decide +kernel
theorem dX9_water_15 : decode cX9_water 15 = .ok (.ifCond .eq 15, 3) := by decide +kernel
theorem dX9_water_18 : decode cX9_water 18 = .ok (.iload 4, 2) := by decide +kernel
theorem dX9_water_20 : decode cX9_water 20 = .ok (.ifCond .lt 10, 3) := by decide +kernel
theorem dX9_water_23 : decode cX9_water 23 = .ok (.iload 4, 2) := by decide +kernel
theorem dX9_water_25 : decode cX9_water 25 = .ok (.bipush 50, 2) := by decide +kernel
theorem dX9_water_27 : decode cX9_water 27 = .ok (.if_icmp .le 13, 3) := by decide +kernel
theorem dX9_water_30 : decode cX9_water 30 = .ok (.new 92, 3) := by decide +kernel
theorem dX9_water_33 : decode cX9_water 33 = .ok (.dup, 1) := by decide +kernel
theorem dX9_water_34 : decode cX9_water 34 = .ok (.ldc 94, 2) := by decide +kernel
theorem dX9_water_36 : decode cX9_water 36 = .ok (.invokespecial 96, 3) := by decide +kernel
theorem dX9_water_39 : decode cX9_water 39 = .ok (.athrow, 1) := by decide +kernel
theorem dX9_water_40 : decode cX9_water 40 = .ok (.aload_n 0, 1) := by decide +kernel
theorem dX9_water_41 : decode cX9_water 41 = .ok (.getfield 12, 3) := by decide +kernel
theorem dX9_water_44 : decode cX9_water 44 = .ok (.getfield 99, 3) := by decide +kernel
theorem dX9_water_47 : decode cX9_water 47 = .ok (.iload_n 1, 1) := by decide +kernel
theorem dX9_water_48 : decode cX9_water 48 = .ok (.iload_n 2, 1) := by decide +kernel
theorem dX9_water_49 : decode cX9_water 49 = .ok (.iastore, 1) := by decide +kernel
theorem dX9_water_50 : decode cX9_water 50 = .ok (.aload_n 0, 1) := by decide +kernel
theorem dX9_water_51 : decode cX9_water 51 = .ok (.getfield 12, 3) := by decide +kernel
theorem dX9_water_54 : decode cX9_water 54 = .ok (.getfield 102, 3) := by decide +kernel
theorem dX9_water_57 : decode cX9_water 57 = .ok (.iload_n 1, 1) := by decide +kernel
theorem dX9_water_58 : decode cX9_water 58 = .ok (.iload_n 3, 1) := by decide +kernel
theorem dX9_water_59 : decode cX9_water 59 = .ok (.iastore, 1) := by decide +kernel
theorem dX9_water_60 : decode cX9_water 60 = .ok (.aload_n 0, 1) := by decide +kernel
theorem dX9_water_61 : decode cX9_water 61 = .ok (.getfield 12, 3) := by decide +kernel
theorem dX9_water_64 : decode cX9_water 64 = .ok (.getfield 105, 3) := by decide +kernel
theorem dX9_water_67 : decode cX9_water 67 = .ok (.iload_n 1, 1) := by decide +kernel
theorem dX9_water_68 : decode cX9_water 68 = .ok (.iload 4, 2) := by decide +kernel
theorem dX9_water_70 : decode cX9_water 70 = .ok (.iastore, 1) := by decide +kernel
theorem dX9_water_71 : decode cX9_water 71 = .ok (.return_, 1) := by decide +kernel
theorem dX9_land_0 : decode cX9_land 0 = .ok (.iload_n 1, 1) := by decide +kernel
theorem dX9_land_1 : decode cX9_land 1 = .ok (.invokestatic 85, 3) := by decide +kernel
theorem dX9_land_4 : decode cX9_land 4 = .ok (.iload_n 2, 1) := by decide +kernel
theorem dX9_land_5 : decode cX9_land 5 = .ok (.ifCond .eq 21, 3) := by decide +kernel
theorem dX9_land_8 : decode cX9_land 8 = .ok (.aload_n 0, 1) := by decide +kernel
theorem dX9_land_9 : decode cX9_land 9 = .ok (.iload_n 1, 1) := by decide +kernel
theorem dX9_land_10 : decode cX9_land 10 = .ok (.invokevirtual 108, 3) := by decide +kernel
theorem dX9_land_13 : decode cX9_land 13 = .ok (.ifCond .eq 13, 3) := by decide +kernel
theorem dX9_land_16 : decode cX9_land 16 = .ok (.new 111, 3) := by decide +kernel
theorem dX9_land_19 : decode cX9_land 19 = .ok (.dup, 1) := by decide +kernel
theorem dX9_land_20 : decode cX9_land 20 = .ok (.ldc 113, 2) := by decide +kernel
theorem dX9_land_22 : decode cX9_land 22 = .ok (.invokespecial 115, 3) := by decide +kernel
theorem dX9_land_25 : decode cX9_land 25 = .ok (.athrow, 1) := by decide +kernel
theorem dX9_land_26 : decode cX9_land 26 = .ok (.aload_n 0, 1) := by decide +kernel
theorem dX9_land_27 : decode cX9_land 27 = .ok (.getfield 12, 3) := by decide +kernel
theorem dX9_land_30 : decode cX9_land 30 = .ok (.getfield 116, 3) := by decide +kernel
theorem dX9_land_33 : decode cX9_land 33 = .ok (.iload_n 1, 1) := by decide +kernel
theorem dX9_land_34 : decode cX9_land 34 = .ok (.iload_n 2, 1) := by decide +kernel
theorem dX9_land_35 : decode cX9_land 35 = .ok (.bastore, 1) := by decide +kernel
theorem dX9_land_36 : decode cX9_land 36 = .ok (.return_, 1) := by decide +kernel
theorem dX9_tell_0 : decode cX9_tell 0 = .ok (.iload_n 1, 1) := by decide +kernel
theorem dX9_tell_1 : decode cX9_tell 1 = .ok (.invokestatic 85, 3) := by decide +kernel
theorem dX9_tell_4 : decode cX9_tell 4 = .ok (.iload_n 2, 1) := by decide +kernel
theorem dX9_tell_5 : decode cX9_tell 5 = .ok (.iconst 1, 1) := by decide +kernel
theorem dX9_tell_6 : decode cX9_tell 6 = .ok (.if_icmp .lt 22, 3) := by decide +kernel
theorem dX9_tell_9 : decode cX9_tell 9 = .ok (.iload_n 2, 1) := by decide +kernel
theorem dX9_tell_10 : decode cX9_tell 10 = .ok (.sipush 1000, 3) := by decide +kernel
theorem dX9_tell_13 : decode cX9_tell 13 = .ok (.if_icmp .gt 15, 3) := by decide +kernel
theorem dX9_tell_16 : decode cX9_tell 16 = .ok (.aload_n 0, 1) := by decide +kernel
theorem dX9_tell_17 : decode cX9_tell 17 = .ok (.getfield 12, 3) := by decide +kernel
theorem dX9_tell_20 : decode cX9_tell 20 = .ok (.getfield 116, 3) := by decide +kernel
theorem dX9_tell_23 : decode cX9_tell 23 = .ok (.iload_n 1, 1) := by decide +kernel
theorem dX9_tell_24 : decode cX9_tell 24 = .ok (.baload, 1) := by decide +kernel
theorem dX9_tell_25 : decode cX9_tell 25 = .ok (.ifCond .eq 13, 3) := by decide +kernel
theorem dX9_tell_28 : decode cX9_tell 28 = .ok (.new 92, 3) := by decide +kernel
theorem dX9_tell_31 : decode cX9_tell 31 = .ok (.dup, 1) := by decide +kernel
theorem dX9_tell_32 : decode cX9_tell 32 = .ok (.ldc 120, 2) := by decide +kernel
theorem dX9_tell_34 : decode cX9_tell 34 = .ok (.invokespecial 96, 3) := by decide +kernel
theorem dX9_tell_37 : decode cX9_tell 37 = .ok (.athrow, 1) := by decide +kernel
theorem dX9_tell_38 : decode cX9_tell 38 = .ok (.aload_n 0, 1) := by decide +kernel
theorem dX9_tell_39 : decode cX9_tell 39 = .ok (.iload_n 1, 1) := by decide +kernel
theorem dX9_tell_40 : decode cX9_tell 40 = .ok (.iload_n 2, 1) := by decide +kernel
theorem dX9_tell_41 : decode cX9_tell 41 = .ok (.invokevirtual 122, 3) := by decide +kernel
theorem dX9_tell_44 : decode cX9_tell 44 = .ok (.istore_n 3, 1) := by decide +kernel
theorem dX9_tell_45 : decode cX9_tell 45 = .ok (.iload_n 3, 1) := by decide +kernel
theorem dX9_tell_46 : decode cX9_tell 46 = .ok (.iconst (-1), 1) := by decide +kernel
theorem dX9_tell_47 : decode cX9_tell 47 = .ok (.if_icmp .ne 51, 3) := by decide +kernel
theorem dX9_tell_50 : decode cX9_tell 50 = .ok (.aload_n 0, 1) := by decide +kernel
theorem dX9_tell_51 : decode cX9_tell 51 = .ok (.getfield 19, 3) := by decide +kernel
theorem dX9_tell_54 : decode cX9_tell 54 = .ok (.invokevirtual 126, 3) := by decide +kernel
theorem dX9_tell_57 : decode cX9_tell 57 = .ok (.bipush 10, 2) := by decide +kernel
theorem dX9_tell_59 : decode cX9_tell 59 = .ok (.if_icmp .lt 13, 3) := by decide +kernel
theorem dX9_tell_62 : decode cX9_tell 62 = .ok (.new 130, 3) := by decide +kernel
theorem dX9_tell_65 : decode cX9_tell 65 = .ok (.dup, 1) := by decide +kernel
theorem dX9_tell_66 : decode cX9_tell 66 = .ok (.ldc 132, 2) := by decide +kernel
theorem dX9_tell_68 : decode cX9_tell 68 = .ok (.invokespecial 134, 3) := by decide +kernel
theorem dX9_tell_71 : decode cX9_tell 71 = .ok (.athrow, 1) := by decide +kernel
theorem dX9_tell_72 : decode cX9_tell 72 = .ok (.aload_n 0, 1) := by decide +kernel
theorem dX9_tell_73 : decode cX9_tell 73 = .ok (.getfield 19, 3) := by decide +kernel
theorem dX9_tell_76 : decode cX9_tell 76 = .ok (.invokevirtual 126, 3) := by decide +kernel
theorem dX9_tell_79 : decode cX9_tell 79 = .ok (.istore_n 3, 1) := by decide +kernel
theorem dX9_tell_80 : decode cX9_tell 80 = .ok (.aload_n 0, 1) := by decide +kernel
theorem dX9_tell_81 : decode cX9_tell 81 = .ok (.getfield 19, 3) := by decide +kernel
theorem dX9_tell_84 : decode cX9_tell 84 = .ok (.new 135, 3) := by decide +kernel
theorem dX9_tell_87 : decode cX9_tell 87 = .ok (.dup, 1) := by decide +kernel
theorem dX9_tell_88 : decode cX9_tell 88 = .ok (.invokespecial 137, 3) := by decide +kernel
theorem dX9_tell_91 : decode cX9_tell 91 = .ok (.invokevirtual 138, 3) := by decide +kernel
theorem dX9_tell_94 : decode cX9_tell 94 = .ok (.pop, 1) := by decide +kernel
theorem dX9_tell_95 : decode cX9_tell 95 = .ok (.goto 13, 3) := by decide +kernel
theorem dX9_tell_98 : decode cX9_tell 98 = .ok (.aload_n 0, 1) := by decide +kernel
theorem dX9_tell_99 : decode cX9_tell 99 = .ok (.dup, 1) := by decide +kernel
theorem dX9_tell_100 : decode cX9_tell 100 = .ok (.getfield 70, 3) := by decide +kernel
theorem dX9_tell_103 : decode cX9_tell 103 = .ok (.iconst 1, 1) := by decide +kernel
theorem dX9_tell_104 : decode cX9_tell 104 = .ok (.iadd, 1) := by decide +kernel
theorem dX9_tell_105 : decode cX9_tell 105 = .ok (.putfield 70, 3) := by decide +kernel
theorem dX9_tell_108 : decode cX9_tell 108 = .ok (.aload_n 0, 1) := by decide +kernel
theorem dX9_tell_109 : decode cX9_tell 109 = .ok (.getfield 19, 3) := by decide +kernel
theorem dX9_tell_112 : decode cX9_tell 112 = .ok (.iload_n 3, 1) := by decide +kernel
theorem dX9_tell_113 : decode cX9_tell 113 = .ok (.invokevirtual 142, 3) := by decide +kernel
theorem dX9_tell_116 : decode cX9_tell 116 = .ok (.checkcast 135, 3) := by decide +kernel
theorem dX9_tell_119 : decode cX9_tell 119 = .ok (.iload_n 1, 1) := by decide +kernel
theorem dX9_tell_120 : decode cX9_tell 120 = .ok (.iload_n 2, 1) := by decide +kernel
theorem dX9_tell_121 : decode cX9_tell 121 = .ok (.invokevirtual 146, 3) := by decide +kernel
theorem dX9_tell_124 : decode cX9_tell 124 = .ok (.iload_n 3, 1) := by decide +kernel
theorem dX9_tell_125 : decode cX9_tell 125 = .ok (.ireturn, 1) := by decide +kernel
theorem dX9_step_0 : decode cX9_step 0 = .ok (.iload_n 1, 1) := by decide +kernel
theorem dX9_step_1 : decode cX9_step 1 = .ok (.ifCond .lt 9, 3) := by decide +kernel
theorem dX9_step_4 : decode cX9_step 4 = .ok (.iload_n 1, 1) := by decide +kernel
theorem dX9_step_5 : decode cX9_step 5 = .ok (.bipush 50, 2) := by decide +kernel
theorem dX9_step_7 : decode cX9_step 7 = .ok (.if_icmp .le 13, 3) := by decide +kernel
theorem dX9_step_10 : decode cX9_step 10 = .ok (.new 92, 3) := by decide +kernel
theorem dX9_step_13 : decode cX9_step 13 = .ok (.dup, 1) := by decide +kernel
theorem dX9_step_14 : decode cX9_step 14 = .ok (.ldc 150, 2) := by decide +kernel
theorem dX9_step_16 : decode cX9_step 16 = .ok (.invokespecial 96, 3) := by decide +kernel
theorem dX9_step_19 : decode cX9_step 19 = .ok (.athrow, 1) := by decide +kernel
theorem dX9_step_20 : decode cX9_step 20 = .ok (.iconst 0, 1) := by decide +kernel
theorem dX9_step_21 : decode cX9_step 21 = .ok (.istore_n 2, 1) := by decide +kernel
theorem dX9_step_22 : decode cX9_step 22 = .ok (.iload_n 2, 1) := by decide +kernel
theorem dX9_step_23 : decode cX9_step 23 = .ok (.iload_n 1, 1) := by decide +kernel
theorem dX9_step_24 : decode cX9_step 24 = .ok (.if_icmp .ge 60, 3) := by decide +kernel
theorem dX9_step_27 : decode cX9_step 27 = .ok (.aload_n 0, 1) := by decide +kernel
theorem dX9_step_28 : decode cX9_step 28 = .ok (.dup, 1) := by decide +kernel
theorem dX9_step_29 : decode cX9_step 29 = .ok (.getfield 66, 3) := by decide +kernel
theorem dX9_step_32 : decode cX9_step 32 = .ok (.iconst 1, 1) := by decide +kernel
theorem dX9_step_33 : decode cX9_step 33 = .ok (.iadd, 1) := by decide +kernel
theorem dX9_step_34 : decode cX9_step 34 = .ok (.putfield 66, 3) := by decide +kernel
theorem dX9_step_37 : decode cX9_step 37 = .ok (.iconst 0, 1) := by decide +kernel
theorem dX9_step_38 : decode cX9_step 38 = .ok (.istore_n 3, 1) := by decide +kernel
theorem dX9_step_39 : decode cX9_step 39 = .ok (.iload_n 3, 1) := by decide +kernel
theorem dX9_step_40 : decode cX9_step 40 = .ok (.aload_n 0, 1) := by decide +kernel
theorem dX9_step_41 : decode cX9_step 41 = .ok (.getfield 19, 3) := by decide +kernel
theorem dX9_step_44 : decode cX9_step 44 = .ok (.invokevirtual 126, 3) := by decide +kernel
theorem dX9_step_47 : decode cX9_step 47 = .ok (.if_icmp .ge 31, 3) := by decide +kernel
theorem dX9_step_50 : decode cX9_step 50 = .ok (.aload_n 0, 1) := by decide +kernel
theorem dX9_step_51 : decode cX9_step 51 = .ok (.getfield 19, 3) := by decide +kernel
theorem dX9_step_54 : decode cX9_step 54 = .ok (.iload_n 3, 1) := by decide +kernel
theorem dX9_step_55 : decode cX9_step 55 = .ok (.invokevirtual 142, 3) := by decide +kernel
theorem dX9_step_58 : decode cX9_step 58 = .ok (.checkcast 135, 3) := by decide +kernel
theorem dX9_step_61 : decode cX9_step 61 = .ok (.aload_n 0, 1) := by decide +kernel
theorem dX9_step_62 : decode cX9_step 62 = .ok (.getfield 12, 3) := by decide +kernel
theorem dX9_step_65 : decode cX9_step 65 = .ok (.aload_n 0, 1) := by decide +kernel
theorem dX9_step_66 : decode cX9_step 66 = .ok (.getfield 63, 3) := by decide +kernel
theorem dX9_step_69 : decode cX9_step 69 = .ok (.invokevirtual 152, 3) := by decide +kernel
theorem dX9_step_72 : decode cX9_step 72 = .ok (.iinc 3 1, 3) := by decide +kernel
theorem dX9_step_75 : decode cX9_step 75 = .ok (.goto (-36), 3) := by decide +kernel
theorem dX9_step_78 : decode cX9_step 78 = .ok (.iinc 2 1, 3) := by decide +kernel
theorem dX9_step_81 : decode cX9_step 81 = .ok (.goto (-59), 3) := by decide +kernel
theorem dX9_step_84 : decode cX9_step 84 = .ok (.aload_n 0, 1) := by decide +kernel
theorem dX9_step_85 : decode cX9_step 85 = .ok (.getfield 66, 3) := by decide +kernel
theorem dX9_step_88 : decode cX9_step 88 = .ok (.ireturn, 1) := by decide +kernel
theorem dX9_look_0 : decode cX9_look 0 = .ok (.iload_n 1, 1) := by decide +kernel
theorem dX9_look_1 : decode cX9_look 1 = .ok (.invokestatic 85, 3) := by decide +kernel
theorem dX9_look_4 : decode cX9_look 4 = .ok (.iload_n 2, 1) := by decide +kernel
theorem dX9_look_5 : decode cX9_look 5 = .ok (.ifCond .lt 9, 3) := by decide +kernel
theorem dX9_look_8 : decode cX9_look 8 = .ok (.iload_n 2, 1) := by decide +kernel
theorem dX9_look_9 : decode cX9_look 9 = .ok (.bipush 100, 2) := by decide +kernel
theorem dX9_look_11 : decode cX9_look 11 = .ok (.if_icmp .le 13, 3) := by decide +kernel
theorem dX9_look_14 : decode cX9_look 14 = .ok (.new 92, 3) := by decide +kernel
theorem dX9_look_17 : decode cX9_look 17 = .ok (.dup, 1) := by decide +kernel
theorem dX9_look_18 : decode cX9_look 18 = .ok (.ldc 156, 2) := by decide +kernel
theorem dX9_look_20 : decode cX9_look 20 = .ok (.invokespecial 96, 3) := by decide +kernel
theorem dX9_look_23 : decode cX9_look 23 = .ok (.athrow, 1) := by decide +kernel
theorem dX9_look_24 : decode cX9_look 24 = .ok (.iconst 0, 1) := by decide +kernel
theorem dX9_look_25 : decode cX9_look 25 = .ok (.istore_n 3, 1) := by decide +kernel
theorem dX9_look_26 : decode cX9_look 26 = .ok (.iconst 0, 1) := by decide +kernel
theorem dX9_look_27 : decode cX9_look 27 = .ok (.istore 4, 2) := by decide +kernel
theorem dX9_look_29 : decode cX9_look 29 = .ok (.iload 4, 2) := by decide +kernel
theorem dX9_look_31 : decode cX9_look 31 = .ok (.aload_n 0, 1) := by decide +kernel
theorem dX9_look_32 : decode cX9_look 32 = .ok (.getfield 19, 3) := by decide +kernel
theorem dX9_look_35 : decode cX9_look 35 = .ok (.invokevirtual 126, 3) := by decide +kernel
theorem dX9_look_38 : decode cX9_look 38 = .ok (.if_icmp .ge 29, 3) := by decide +kernel
theorem dX9_look_41 : decode cX9_look 41 = .ok (.iload_n 3, 1) := by decide +kernel
theorem dX9_look_42 : decode cX9_look 42 = .ok (.aload_n 0, 1) := by decide +kernel
theorem dX9_look_43 : decode cX9_look 43 = .ok (.getfield 19, 3) := by decide +kernel
theorem dX9_look_46 : decode cX9_look 46 = .ok (.iload 4, 2) := by decide +kernel
theorem dX9_look_48 : decode cX9_look 48 = .ok (.invokevirtual 142, 3) := by decide +kernel
theorem dX9_look_51 : decode cX9_look 51 = .ok (.checkcast 135, 3) := by decide +kernel
theorem dX9_look_54 : decode cX9_look 54 = .ok (.iload_n 1, 1) := by decide +kernel
theorem dX9_look_55 : decode cX9_look 55 = .ok (.iload_n 2, 1) := by decide +kernel
theorem dX9_look_56 : decode cX9_look 56 = .ok (.invokevirtual 158, 3) := by decide +kernel
theorem dX9_look_59 : decode cX9_look 59 = .ok (.iadd, 1) := by decide +kernel
theorem dX9_look_60 : decode cX9_look 60 = .ok (.istore_n 3, 1) := by decide +kernel
theorem dX9_look_61 : decode cX9_look 61 = .ok (.iinc 4 1, 3) := by decide +kernel
theorem dX9_look_64 : decode cX9_look 64 = .ok (.goto (-35), 3) := by decide +kernel
theorem dX9_look_67 : decode cX9_look 67 = .ok (.iload_n 3, 1) := by decide +kernel
theorem dX9_look_68 : decode cX9_look 68 = .ok (.ireturn, 1) := by decide +kernel
theorem dX9_parts_0 : decode cX9_parts 0 = .ok (.aload_n 0, 1) := by decide +kernel
theorem dX9_parts_1 : decode cX9_parts 1 = .ok (.iload_n 1, 1) := by decide +kernel
theorem dX9_parts_2 : decode cX9_parts 2 = .ok (.invokevirtual 161, 3) := by decide +kernel
theorem dX9_parts_5 : decode cX9_parts 5 = .ok (.iload_n 2, 1) := by decide +kernel
theorem dX9_parts_6 : decode cX9_parts 6 = .ok (.invokestatic 85, 3) := by decide +kernel
theorem dX9_parts_9 : decode cX9_parts 9 = .ok (.aload_n 0, 1) := by decide +kernel
theorem dX9_parts_10 : decode cX9_parts 10 = .ok (.getfield 19, 3) := by decide +kernel
theorem dX9_parts_13 : decode cX9_parts 13 = .ok (.iload_n 1, 1) := by decide +kernel
theorem dX9_parts_14 : decode cX9_parts 14 = .ok (.invokevirtual 142, 3) := by decide +kernel
theorem dX9_parts_17 : decode cX9_parts 17 = .ok (.checkcast 135, 3) := by decide +kernel
theorem dX9_parts_20 : decode cX9_parts 20 = .ok (.getfield 164, 3) := by decide +kernel
theorem dX9_parts_23 : decode cX9_parts 23 = .ok (.iload_n 2, 1) := by decide +kernel
theorem dX9_parts_24 : decode cX9_parts 24 = .ok (.iaload, 1) := by decide +kernel
theorem dX9_parts_25 : decode cX9_parts 25 = .ok (.ireturn, 1) := by decide +kernel
theorem dX9_berg_0 : decode cX9_berg 0 = .ok (.aload_n 0, 1) := by decide +kernel
theorem dX9_berg_1 : decode cX9_berg 1 = .ok (.iload_n 1, 1) := by decide +kernel
theorem dX9_berg_2 : decode cX9_berg 2 = .ok (.invokevirtual 161, 3) := by decide +kernel
theorem dX9_berg_5 : decode cX9_berg 5 = .ok (.aload_n 0, 1) := by decide +kernel
theorem dX9_berg_6 : decode cX9_berg 6 = .ok (.getfield 19, 3) := by decide +kernel
theorem dX9_berg_9 : decode cX9_berg 9 = .ok (.iload_n 1, 1) := by decide +kernel
theorem dX9_berg_10 : decode cX9_berg 10 = .ok (.invokevirtual 142, 3) := by decide +kernel
theorem dX9_berg_13 : decode cX9_berg 13 = .ok (.checkcast 135, 3) := by decide +kernel
theorem dX9_berg_16 : decode cX9_berg 16 = .ok (.astore_n 3, 1) := by decide +kernel
theorem dX9_berg_17 : decode cX9_berg 17 = .ok (.iload_n 2, 1) := by decide +kernel
theorem dX9_berg_18 : decode cX9_berg 18 = .ok (.tableswitch 79 0 5 #[38, 43, 48, 61, 69, 74], 38) := by decide +kernel
theorem dX9_berg_56 : decode cX9_berg 56 = .ok (.aload_n 3, 1) := by decide +kernel
theorem dX9_berg_57 : decode cX9_berg 57 = .ok (.getfield 167, 3) := by decide +kernel
theorem dX9_berg_60 : decode cX9_berg 60 = .ok (.ireturn, 1) := by decide +kernel
theorem dX9_berg_61 : decode cX9_berg 61 = .ok (.aload_n 3, 1) := by decide +kernel
theorem dX9_berg_62 : decode cX9_berg 62 = .ok (.getfield 169, 3) := by decide +kernel
theorem dX9_berg_65 : decode cX9_berg 65 = .ok (.ireturn, 1) := by decide +kernel
theorem dX9_berg_66 : decode cX9_berg 66 = .ok (.aload_n 3, 1) := by decide +kernel
theorem dX9_berg_67 : decode cX9_berg 67 = .ok (.getfield 172, 3) := by decide +kernel
theorem dX9_berg_70 : decode cX9_berg 70 = .ok (.ifCond .eq 7, 3) := by decide +kernel
theorem dX9_berg_73 : decode cX9_berg 73 = .ok (.iconst 1, 1) := by decide +kernel
theorem dX9_berg_74 : decode cX9_berg 74 = .ok (.goto 4, 3) := by decide +kernel
theorem dX9_berg_77 : decode cX9_berg 77 = .ok (.iconst 0, 1) := by decide +kernel
theorem dX9_berg_78 : decode cX9_berg 78 = .ok (.ireturn, 1) := by decide +kernel
theorem dX9_berg_79 : decode cX9_berg 79 = .ok (.aload_n 3, 1) := by decide +kernel
theorem dX9_berg_80 : decode cX9_berg 80 = .ok (.getfield 164, 3) := by decide +kernel
theorem dX9_berg_83 : decode cX9_berg 83 = .ok (.invokestatic 176, 3) := by decide +kernel
theorem dX9_berg_86 : decode cX9_berg 86 = .ok (.ireturn, 1) := by decide +kernel
theorem dX9_berg_87 : decode cX9_berg 87 = .ok (.aload_n 3, 1) := by decide +kernel
theorem dX9_berg_88 : decode cX9_berg 88 = .ok (.invokevirtual 180, 3) := by decide +kernel
theorem dX9_berg_91 : decode cX9_berg 91 = .ok (.ireturn, 1) := by decide +kernel
theorem dX9_berg_92 : decode cX9_berg 92 = .ok (.aload_n 3, 1) := by decide +kernel
theorem dX9_berg_93 : decode cX9_berg 93 = .ok (.getfield 183, 3) := by decide +kernel
theorem dX9_berg_96 : decode cX9_berg 96 = .ok (.ireturn, 1) := by decide +kernel
theorem dX9_berg_97 : decode cX9_berg 97 = .ok (.new 186, 3) := by decide +kernel
theorem dX9_berg_100 : decode cX9_berg 100 = .ok (.dup, 1) := by decide +kernel
theorem dX9_berg_101 : decode cX9_berg 101 = .ok (.ldc 188, 2) := by decide +kernel
theorem dX9_berg_103 : decode cX9_berg 103 = .ok (.invokespecial 190, 3) := by decide +kernel
theorem dX9_berg_106 : decode cX9_berg 106 = .ok (.athrow, 1) := by decide +kernel
theorem dX9_limit_0 : decode cX9_limit 0 = .ok (.aload_n 0, 1) := by decide +kernel
theorem dX9_limit_1 : decode cX9_limit 1 = .ok (.invokevirtual 191, 3) := by decide +kernel
theorem dX9_limit_4 : decode cX9_limit 4 = .ok (.aload_n 0, 1) := by decide +kernel
theorem dX9_limit_5 : decode cX9_limit 5 = .ok (.getfield 41, 3) := by decide +kernel
theorem dX9_limit_8 : decode cX9_limit 8 = .ok (.aload_n 0, 1) := by decide +kernel
theorem dX9_limit_9 : decode cX9_limit 9 = .ok (.getfield 59, 3) := by decide +kernel
theorem dX9_limit_12 : decode cX9_limit 12 = .ok (.invokevirtual 194, 3) := by decide +kernel
theorem dX9_limit_15 : decode cX9_limit 15 = .ok (.aload_n 0, 1) := by decide +kernel
theorem dX9_limit_16 : decode cX9_limit 16 = .ok (.getfield 41, 3) := by decide +kernel
theorem dX9_limit_19 : decode cX9_limit 19 = .ok (.getfield 198, 3) := by decide +kernel
theorem dX9_limit_22 : decode cX9_limit 22 = .ok (.getfield 202, 3) := by decide +kernel
theorem dX9_limit_25 : decode cX9_limit 25 = .ok (.ireturn, 1) := by decide +kernel
theorem dX9_corner_0 : decode cX9_corner 0 = .ok (.aload_n 0, 1) := by decide +kernel
theorem dX9_corner_1 : decode cX9_corner 1 = .ok (.invokevirtual 191, 3) := by decide +kernel
theorem dX9_corner_4 : decode cX9_corner 4 = .ok (.aload_n 0, 1) := by decide +kernel
theorem dX9_corner_5 : decode cX9_corner 5 = .ok (.getfield 41, 3) := by decide +kernel
theorem dX9_corner_8 : decode cX9_corner 8 = .ok (.aload_n 0, 1) := by decide +kernel
theorem dX9_corner_9 : decode cX9_corner 9 = .ok (.getfield 59, 3) := by decide +kernel
theorem dX9_corner_12 : decode cX9_corner 12 = .ok (.invokevirtual 194, 3) := by decide +kernel
theorem dX9_corner_15 : decode cX9_corner 15 = .ok (.iload_n 1, 1) := by decide +kernel
theorem dX9_corner_16 : decode cX9_corner 16 = .ok (.ifCond .lt 17, 3) := by decide +kernel
theorem dX9_corner_19 : decode cX9_corner 19 = .ok (.iload_n 1, 1) := by decide +kernel
theorem dX9_corner_20 : decode cX9_corner 20 = .ok (.aload_n 0, 1) := by decide +kernel
theorem dX9_corner_21 : decode cX9_corner 21 = .ok (.getfield 41, 3) := by decide +kernel
theorem dX9_corner_24 : decode cX9_corner 24 = .ok (.getfield 198, 3) := by decide +kernel
theorem dX9_corner_27 : decode cX9_corner 27 = .ok (.getfield 202, 3) := by decide +kernel
theorem dX9_corner_30 : decode cX9_corner 30 = .ok (.if_icmp .lt 5, 3) := by decide +kernel
theorem dX9_corner_33 : decode cX9_corner 33 = .ok (.iconst (-1), 1) := by decide +kernel
theorem dX9_corner_34 : decode cX9_corner 34 = .ok (.ireturn, 1) := by decide +kernel
theorem dX9_corner_35 : decode cX9_corner 35 = .ok (.iload_n 2, 1) := by decide +kernel
theorem dX9_corner_36 : decode cX9_corner 36 = .ok (.ifCond .eq 18, 3) := by decide +kernel
theorem dX9_corner_39 : decode cX9_corner 39 = .ok (.aload_n 0, 1) := by decide +kernel
theorem dX9_corner_40 : decode cX9_corner 40 = .ok (.getfield 41, 3) := by decide +kernel
theorem dX9_corner_43 : decode cX9_corner 43 = .ok (.getfield 198, 3) := by decide +kernel
theorem dX9_corner_46 : decode cX9_corner 46 = .ok (.getfield 205, 3) := by decide +kernel
theorem dX9_corner_49 : decode cX9_corner 49 = .ok (.iload_n 1, 1) := by decide +kernel
theorem dX9_corner_50 : decode cX9_corner 50 = .ok (.iaload, 1) := by decide +kernel
theorem dX9_corner_51 : decode cX9_corner 51 = .ok (.goto 15, 3) := by decide +kernel
theorem dX9_corner_54 : decode cX9_corner 54 = .ok (.aload_n 0, 1) := by decide +kernel
theorem dX9_corner_55 : decode cX9_corner 55 = .ok (.getfield 41, 3) := by decide +kernel
theorem dX9_corner_58 : decode cX9_corner 58 = .ok (.getfield 198, 3) := by decide +kernel
theorem dX9_corner_61 : decode cX9_corner 61 = .ok (.getfield 208, 3) := by decide +kernel
theorem dX9_corner_64 : decode cX9_corner 64 = .ok (.iload_n 1, 1) := by decide +kernel
theorem dX9_corner_65 : decode cX9_corner 65 = .ok (.iaload, 1) := by decide +kernel
theorem dX9_corner_66 : decode cX9_corner 66 = .ok (.ireturn, 1) := by decide +kernel
theorem dX9_warn_0 : decode cX9_warn 0 = .ok (.aload_n 0, 1) := by decide +kernel
theorem dX9_warn_1 : decode cX9_warn 1 = .ok (.invokevirtual 191, 3) := by decide +kernel
theorem dX9_warn_4 : decode cX9_warn 4 = .ok (.aload_n 0, 1) := by decide +kernel
theorem dX9_warn_5 : decode cX9_warn 5 = .ok (.getfield 41, 3) := by decide +kernel
theorem dX9_warn_8 : decode cX9_warn 8 = .ok (.aload_n 0, 1) := by decide +kernel
theorem dX9_warn_9 : decode cX9_warn 9 = .ok (.getfield 59, 3) := by decide +kernel
theorem dX9_warn_12 : decode cX9_warn 12 = .ok (.invokevirtual 194, 3) := by decide +kernel
theorem dX9_warn_15 : decode cX9_warn 15 = .ok (.aload_n 0, 1) := by decide +kernel
theorem dX9_warn_16 : decode cX9_warn 16 = .ok (.getfield 41, 3) := by decide +kernel
theorem dX9_warn_19 : decode cX9_warn 19 = .ok (.getfield 198, 3) := by decide +kernel
theorem dX9_warn_22 : decode cX9_warn 22 = .ok (.getfield 202, 3) := by decide +kernel
theorem dX9_warn_25 : decode cX9_warn 25 = .ok (.istore_n 1, 1) := by decide +kernel
theorem dX9_warn_26 : decode cX9_warn 26 = .ok (.iload_n 1, 1) := by decide +kernel
theorem dX9_warn_27 : decode cX9_warn 27 = .ok (.ifCond .eq 21, 3) := by decide +kernel
theorem dX9_warn_30 : decode cX9_warn 30 = .ok (.iload_n 1, 1) := by decide +kernel
theorem dX9_warn_31 : decode cX9_warn 31 = .ok (.bipush 40, 2) := by decide +kernel
theorem dX9_warn_33 : decode cX9_warn 33 = .ok (.if_icmp .gt 15, 3) := by decide +kernel
theorem dX9_warn_36 : decode cX9_warn 36 = .ok (.aload_n 0, 1) := by decide +kernel
theorem dX9_warn_37 : decode cX9_warn 37 = .ok (.getfield 23, 3) := by decide +kernel
theorem dX9_warn_40 : decode cX9_warn 40 = .ok (.invokevirtual 126, 3) := by decide +kernel
theorem dX9_warn_43 : decode cX9_warn 43 = .ok (.bipush 40, 2) := by decide +kernel
theorem dX9_warn_45 : decode cX9_warn 45 = .ok (.if_icmp .lt 5, 3) := by decide +kernel
theorem dX9_warn_48 : decode cX9_warn 48 = .ok (.iconst (-1), 1) := by decide +kernel
theorem dX9_warn_49 : decode cX9_warn 49 = .ok (.ireturn, 1) := by decide +kernel
theorem dX9_warn_50 : decode cX9_warn 50 = .ok (.aload_n 0, 1) := by decide +kernel
theorem dX9_warn_51 : decode cX9_warn 51 = .ok (.aload_n 0, 1) := by decide +kernel
theorem dX9_warn_52 : decode cX9_warn 52 = .ok (.getfield 41, 3) := by decide +kernel
theorem dX9_warn_55 : decode cX9_warn 55 = .ok (.getfield 198, 3) := by decide +kernel
theorem dX9_warn_58 : decode cX9_warn 58 = .ok (.invokevirtual 211, 3) := by decide +kernel
theorem dX9_warn_61 : decode cX9_warn 61 = .ok (.ireturn, 1) := by decide +kernel
theorem dX9_read_0 : decode cX9_read 0 = .ok (.aload_n 0, 1) := by decide +kernel
theorem dX9_read_1 : decode cX9_read 1 = .ok (.aload_n 0, 1) := by decide +kernel
theorem dX9_read_2 : decode cX9_read 2 = .ok (.getfield 29, 3) := by decide +kernel
theorem dX9_read_5 : decode cX9_read 5 = .ok (.invokevirtual 215, 3) := by decide +kernel
theorem dX9_read_8 : decode cX9_read 8 = .ok (.putfield 73, 3) := by decide +kernel
theorem dX9_read_11 : decode cX9_read 11 = .ok (.aload_n 0, 1) := by decide +kernel
theorem dX9_read_12 : decode cX9_read 12 = .ok (.getfield 37, 3) := by decide +kernel
theorem dX9_read_15 : decode cX9_read 15 = .ok (.iconst 0, 1) := by decide +kernel
theorem dX9_read_16 : decode cX9_read 16 = .ok (.putfield 76, 3) := by decide +kernel
theorem dX9_read_19 : decode cX9_read 19 = .ok (.aload_n 0, 1) := by decide +kernel
theorem dX9_read_20 : decode cX9_read 20 = .ok (.getfield 73, 3) := by decide +kernel
theorem dX9_read_23 : decode cX9_read 23 = .ok (.iconst (-1), 1) := by decide +kernel
theorem dX9_read_24 : decode cX9_read 24 = .ok (.if_icmp .eq 13, 3) := by decide +kernel
theorem dX9_read_27 : decode cX9_read 27 = .ok (.new 92, 3) := by decide +kernel
theorem dX9_read_30 : decode cX9_read 30 = .ok (.dup, 1) := by decide +kernel
theorem dX9_read_31 : decode cX9_read 31 = .ok (.ldc 218, 2) := by decide +kernel
theorem dX9_read_33 : decode cX9_read 33 = .ok (.invokespecial 96, 3) := by decide +kernel
theorem dX9_read_36 : decode cX9_read 36 = .ok (.athrow, 1) := by decide +kernel
theorem dX9_read_37 : decode cX9_read 37 = .ok (.aload_n 0, 1) := by decide +kernel
theorem dX9_read_38 : decode cX9_read 38 = .ok (.getfield 23, 3) := by decide +kernel
theorem dX9_read_41 : decode cX9_read 41 = .ok (.invokevirtual 126, 3) := by decide +kernel
theorem dX9_read_44 : decode cX9_read 44 = .ok (.bipush 40, 2) := by decide +kernel
theorem dX9_read_46 : decode cX9_read 46 = .ok (.if_icmp .lt 13, 3) := by decide +kernel
theorem dX9_read_49 : decode cX9_read 49 = .ok (.new 130, 3) := by decide +kernel
theorem dX9_read_52 : decode cX9_read 52 = .ok (.dup, 1) := by decide +kernel
theorem dX9_read_53 : decode cX9_read 53 = .ok (.ldc 220, 2) := by decide +kernel
theorem dX9_read_55 : decode cX9_read 55 = .ok (.invokespecial 134, 3) := by decide +kernel
theorem dX9_read_58 : decode cX9_read 58 = .ok (.athrow, 1) := by decide +kernel
theorem dX9_read_59 : decode cX9_read 59 = .ok (.aload_n 0, 1) := by decide +kernel
theorem dX9_read_60 : decode cX9_read 60 = .ok (.aload_n 0, 1) := by decide +kernel
theorem dX9_read_61 : decode cX9_read 61 = .ok (.getfield 29, 3) := by decide +kernel
theorem dX9_read_64 : decode cX9_read 64 = .ok (.getfield 222, 3) := by decide +kernel
theorem dX9_read_67 : decode cX9_read 67 = .ok (.invokevirtual 211, 3) := by decide +kernel
theorem dX9_read_70 : decode cX9_read 70 = .ok (.ireturn, 1) := by decide +kernel
theorem dX9_fault_0 : decode cX9_fault 0 = .ok (.aload_n 0, 1) := by decide +kernel
theorem dX9_fault_1 : decode cX9_fault 1 = .ok (.getfield 73, 3) := by decide +kernel
theorem dX9_fault_4 : decode cX9_fault 4 = .ok (.ireturn, 1) := by decide +kernel
theorem dX9_cancel_0 : decode cX9_cancel 0 = .ok (.aload_n 0, 1) := by decide +kernel
theorem dX9_cancel_1 : decode cX9_cancel 1 = .ok (.iload_n 1, 1) := by decide +kernel
theorem dX9_cancel_2 : decode cX9_cancel 2 = .ok (.invokevirtual 223, 3) := by decide +kernel
theorem dX9_cancel_5 : decode cX9_cancel 5 = .ok (.aload_n 0, 1) := by decide +kernel
theorem dX9_cancel_6 : decode cX9_cancel 6 = .ok (.getfield 23, 3) := by decide +kernel
theorem dX9_cancel_9 : decode cX9_cancel 9 = .ok (.iload_n 1, 1) := by decide +kernel
theorem dX9_cancel_10 : decode cX9_cancel 10 = .ok (.invokevirtual 142, 3) := by decide +kernel
theorem dX9_cancel_13 : decode cX9_cancel 13 = .ok (.checkcast 226, 3) := by decide +kernel
theorem dX9_cancel_16 : decode cX9_cancel 16 = .ok (.astore_n 2, 1) := by decide +kernel
theorem dX9_cancel_17 : decode cX9_cancel 17 = .ok (.aload_n 2, 1) := by decide +kernel
theorem dX9_cancel_18 : decode cX9_cancel 18 = .ok (.getfield 228, 3) := by decide +kernel
theorem dX9_cancel_21 : decode cX9_cancel 21 = .ok (.ifCond .eq 5, 3) := by decide +kernel
theorem dX9_cancel_24 : decode cX9_cancel 24 = .ok (.iconst 0, 1) := by decide +kernel
theorem dX9_cancel_25 : decode cX9_cancel 25 = .ok (.ireturn, 1) := by decide +kernel
theorem dX9_cancel_26 : decode cX9_cancel 26 = .ok (.aload_n 2, 1) := by decide +kernel
theorem dX9_cancel_27 : decode cX9_cancel 27 = .ok (.iconst 1, 1) := by decide +kernel
theorem dX9_cancel_28 : decode cX9_cancel 28 = .ok (.putfield 228, 3) := by decide +kernel
theorem dX9_cancel_31 : decode cX9_cancel 31 = .ok (.aload_n 2, 1) := by decide +kernel
theorem dX9_cancel_32 : decode cX9_cancel 32 = .ok (.aload_n 0, 1) := by decide +kernel
theorem dX9_cancel_33 : decode cX9_cancel 33 = .ok (.getfield 66, 3) := by decide +kernel
theorem dX9_cancel_36 : decode cX9_cancel 36 = .ok (.putfield 231, 3) := by decide +kernel
theorem dX9_cancel_39 : decode cX9_cancel 39 = .ok (.iconst 1, 1) := by decide +kernel
theorem dX9_cancel_40 : decode cX9_cancel 40 = .ok (.ireturn, 1) := by decide +kernel
theorem dX9_force_0 : decode cX9_force 0 = .ok (.aload_n 0, 1) := by decide +kernel
theorem dX9_force_1 : decode cX9_force 1 = .ok (.iload_n 1, 1) := by decide +kernel
theorem dX9_force_2 : decode cX9_force 2 = .ok (.invokevirtual 223, 3) := by decide +kernel
theorem dX9_force_5 : decode cX9_force 5 = .ok (.aload_n 0, 1) := by decide +kernel
theorem dX9_force_6 : decode cX9_force 6 = .ok (.getfield 23, 3) := by decide +kernel
theorem dX9_force_9 : decode cX9_force 9 = .ok (.iload_n 1, 1) := by decide +kernel
theorem dX9_force_10 : decode cX9_force 10 = .ok (.invokevirtual 142, 3) := by decide +kernel
theorem dX9_force_13 : decode cX9_force 13 = .ok (.checkcast 226, 3) := by decide +kernel
theorem dX9_force_16 : decode cX9_force 16 = .ok (.iload_n 2, 1) := by decide +kernel
theorem dX9_force_17 : decode cX9_force 17 = .ok (.invokevirtual 234, 3) := by decide +kernel
theorem dX9_force_20 : decode cX9_force 20 = .ok (.ireturn, 1) := by decide +kernel
theorem dX9_write_0 : decode cX9_write 0 = .ok (.aload_n 0, 1) := by decide +kernel
theorem dX9_write_1 : decode cX9_write 1 = .ok (.iload_n 1, 1) := by decide +kernel
theorem dX9_write_2 : decode cX9_write 2 = .ok (.invokevirtual 223, 3) := by decide +kernel
theorem dX9_write_5 : decode cX9_write 5 = .ok (.aload_n 0, 1) := by decide +kernel
theorem dX9_write_6 : decode cX9_write 6 = .ok (.getfield 23, 3) := by decide +kernel
theorem dX9_write_9 : decode cX9_write 9 = .ok (.iload_n 1, 1) := by decide +kernel
theorem dX9_write_10 : decode cX9_write 10 = .ok (.invokevirtual 142, 3) := by decide +kernel
theorem dX9_write_13 : decode cX9_write 13 = .ok (.checkcast 226, 3) := by decide +kernel
theorem dX9_write_16 : decode cX9_write 16 = .ok (.astore_n 2, 1) := by decide +kernel
theorem dX9_write_17 : decode cX9_write 17 = .ok (.aload_n 0, 1) := by decide +kernel
theorem dX9_write_18 : decode cX9_write 18 = .ok (.getfield 37, 3) := by decide +kernel
theorem dX9_write_21 : decode cX9_write 21 = .ok (.iconst 0, 1) := by decide +kernel
theorem dX9_write_22 : decode cX9_write 22 = .ok (.putfield 76, 3) := by decide +kernel
theorem dX9_write_25 : decode cX9_write 25 = .ok (.aload_n 0, 1) := by decide +kernel
theorem dX9_write_26 : decode cX9_write 26 = .ok (.getfield 37, 3) := by decide +kernel
theorem dX9_write_29 : decode cX9_write 29 = .ok (.ldc 237, 2) := by decide +kernel
theorem dX9_write_31 : decode cX9_write 31 = .ok (.invokevirtual 239, 3) := by decide +kernel
theorem dX9_write_34 : decode cX9_write 34 = .ok (.iconst 0, 1) := by decide +kernel
theorem dX9_write_35 : decode cX9_write 35 = .ok (.istore_n 3, 1) := by decide +kernel
theorem dX9_write_36 : decode cX9_write 36 = .ok (.iload_n 3, 1) := by decide +kernel
theorem dX9_write_37 : decode cX9_write 37 = .ok (.aload_n 2, 1) := by decide +kernel
theorem dX9_write_38 : decode cX9_write 38 = .ok (.getfield 242, 3) := by decide +kernel
theorem dX9_write_41 : decode cX9_write 41 = .ok (.arraylength, 1) := by decide +kernel
theorem dX9_write_42 : decode cX9_write 42 = .ok (.if_icmp .ge 66, 3) := by decide +kernel
theorem dX9_write_45 : decode cX9_write 45 = .ok (.iload_n 3, 1) := by decide +kernel
theorem dX9_write_46 : decode cX9_write 46 = .ok (.aload_n 2, 1) := by decide +kernel
theorem dX9_write_47 : decode cX9_write 47 = .ok (.getfield 243, 3) := by decide +kernel
theorem dX9_write_50 : decode cX9_write 50 = .ok (.arraylength, 1) := by decide +kernel
theorem dX9_write_51 : decode cX9_write 51 = .ok (.if_icmp .ge 57, 3) := by decide +kernel
theorem dX9_write_54 : decode cX9_write 54 = .ok (.iload_n 3, 1) := by decide +kernel
theorem dX9_write_55 : decode cX9_write 55 = .ok (.ifCond .le 12, 3) := by decide +kernel
theorem dX9_write_58 : decode cX9_write 58 = .ok (.aload_n 0, 1) := by decide +kernel
theorem dX9_write_59 : decode cX9_write 59 = .ok (.getfield 37, 3) := by decide +kernel
theorem dX9_write_62 : decode cX9_write 62 = .ok (.bipush 44, 2) := by decide +kernel
theorem dX9_write_64 : decode cX9_write 64 = .ok (.invokevirtual 244, 3) := by decide +kernel
theorem dX9_write_67 : decode cX9_write 67 = .ok (.aload_n 0, 1) := by decide +kernel
theorem dX9_write_68 : decode cX9_write 68 = .ok (.getfield 37, 3) := by decide +kernel
theorem dX9_write_71 : decode cX9_write 71 = .ok (.aload_n 2, 1) := by decide +kernel
theorem dX9_write_72 : decode cX9_write 72 = .ok (.getfield 242, 3) := by decide +kernel
theorem dX9_write_75 : decode cX9_write 75 = .ok (.iload_n 3, 1) := by decide +kernel
theorem dX9_write_76 : decode cX9_write 76 = .ok (.iaload, 1) := by decide +kernel
theorem dX9_write_77 : decode cX9_write 77 = .ok (.invokevirtual 247, 3) := by decide +kernel
theorem dX9_write_80 : decode cX9_write 80 = .ok (.aload_n 0, 1) := by decide +kernel
theorem dX9_write_81 : decode cX9_write 81 = .ok (.getfield 37, 3) := by decide +kernel
theorem dX9_write_84 : decode cX9_write 84 = .ok (.bipush 32, 2) := by decide +kernel
theorem dX9_write_86 : decode cX9_write 86 = .ok (.invokevirtual 244, 3) := by decide +kernel
theorem dX9_write_89 : decode cX9_write 89 = .ok (.aload_n 0, 1) := by decide +kernel
theorem dX9_write_90 : decode cX9_write 90 = .ok (.getfield 37, 3) := by decide +kernel
theorem dX9_write_93 : decode cX9_write 93 = .ok (.aload_n 2, 1) := by decide +kernel
theorem dX9_write_94 : decode cX9_write 94 = .ok (.getfield 243, 3) := by decide +kernel
theorem dX9_write_97 : decode cX9_write 97 = .ok (.iload_n 3, 1) := by decide +kernel
theorem dX9_write_98 : decode cX9_write 98 = .ok (.iaload, 1) := by decide +kernel
theorem dX9_write_99 : decode cX9_write 99 = .ok (.invokevirtual 247, 3) := by decide +kernel
theorem dX9_write_102 : decode cX9_write 102 = .ok (.iinc 3 1, 3) := by decide +kernel
theorem dX9_write_105 : decode cX9_write 105 = .ok (.goto (-69), 3) := by decide +kernel
theorem dX9_write_108 : decode cX9_write 108 = .ok (.aload_n 0, 1) := by decide +kernel
theorem dX9_write_109 : decode cX9_write 109 = .ok (.getfield 37, 3) := by decide +kernel
theorem dX9_write_112 : decode cX9_write 112 = .ok (.ldc 250, 2) := by decide +kernel
theorem dX9_write_114 : decode cX9_write 114 = .ok (.invokevirtual 239, 3) := by decide +kernel
theorem dX9_write_117 : decode cX9_write 117 = .ok (.aload_n 0, 1) := by decide +kernel
theorem dX9_write_118 : decode cX9_write 118 = .ok (.getfield 37, 3) := by decide +kernel
theorem dX9_write_121 : decode cX9_write 121 = .ok (.getfield 76, 3) := by decide +kernel
theorem dX9_write_124 : decode cX9_write 124 = .ok (.ireturn, 1) := by decide +kernel
theorem dX9_taped_0 : decode cX9_taped 0 = .ok (.iload_n 1, 1) := by decide +kernel
theorem dX9_taped_1 : decode cX9_taped 1 = .ok (.ifCond .lt 14, 3) := by decide +kernel
theorem dX9_taped_4 : decode cX9_taped 4 = .ok (.iload_n 1, 1) := by decide +kernel
theorem dX9_taped_5 : decode cX9_taped 5 = .ok (.aload_n 0, 1) := by decide +kernel
theorem dX9_taped_6 : decode cX9_taped 6 = .ok (.getfield 37, 3) := by decide +kernel
theorem dX9_taped_9 : decode cX9_taped 9 = .ok (.getfield 76, 3) := by decide +kernel
theorem dX9_taped_12 : decode cX9_taped 12 = .ok (.if_icmp .lt 7, 3) := by decide +kernel
theorem dX9_taped_15 : decode cX9_taped 15 = .ok (.iconst (-1), 1) := by decide +kernel
theorem dX9_taped_16 : decode cX9_taped 16 = .ok (.goto 12, 3) := by decide +kernel
theorem dX9_taped_19 : decode cX9_taped 19 = .ok (.aload_n 0, 1) := by decide +kernel
theorem dX9_taped_20 : decode cX9_taped 20 = .ok (.getfield 37, 3) := by decide +kernel
theorem dX9_taped_23 : decode cX9_taped 23 = .ok (.getfield 252, 3) := by decide +kernel
theorem dX9_taped_26 : decode cX9_taped 26 = .ok (.iload_n 1, 1) := by decide +kernel
theorem dX9_taped_27 : decode cX9_taped 27 = .ok (.iaload, 1) := by decide +kernel
theorem dX9_taped_28 : decode cX9_taped 28 = .ok (.ireturn, 1) := by decide +kernel
theorem dX9_way_0 : decode cX9_way 0 = .ok (.iload_n 1, 1) := by decide +kernel
theorem dX9_way_1 : decode cX9_way 1 = .ok (.invokestatic 85, 3) := by decide +kernel
theorem dX9_way_4 : decode cX9_way 4 = .ok (.iload_n 2, 1) := by decide +kernel
theorem dX9_way_5 : decode cX9_way 5 = .ok (.invokestatic 85, 3) := by decide +kernel
theorem dX9_way_8 : decode cX9_way 8 = .ok (.aload_n 0, 1) := by decide +kernel
theorem dX9_way_9 : decode cX9_way 9 = .ok (.getfield 48, 3) := by decide +kernel
theorem dX9_way_12 : decode cX9_way 12 = .ok (.aload_n 0, 1) := by decide +kernel
theorem dX9_way_13 : decode cX9_way 13 = .ok (.getfield 12, 3) := by decide +kernel
theorem dX9_way_16 : decode cX9_way 16 = .ok (.getfield 116, 3) := by decide +kernel
theorem dX9_way_19 : decode cX9_way 19 = .ok (.invokevirtual 255, 3) := by decide +kernel
theorem dX9_way_22 : decode cX9_way 22 = .ok (.iconst 0, 1) := by decide +kernel
theorem dX9_way_23 : decode cX9_way 23 = .ok (.istore 4, 2) := by decide +kernel
theorem dX9_way_25 : decode cX9_way 25 = .ok (.iload 4, 2) := by decide +kernel
theorem dX9_way_27 : decode cX9_way 27 = .ok (.aload_n 0, 1) := by decide +kernel
theorem dX9_way_28 : decode cX9_way 28 = .ok (.getfield 23, 3) := by decide +kernel
theorem dX9_way_31 : decode cX9_way 31 = .ok (.invokevirtual 126, 3) := by decide +kernel
theorem dX9_way_34 : decode cX9_way 34 = .ok (.if_icmp .ge 47, 3) := by decide +kernel
theorem dX9_way_37 : decode cX9_way 37 = .ok (.aload_n 0, 1) := by decide +kernel
theorem dX9_way_38 : decode cX9_way 38 = .ok (.getfield 23, 3) := by decide +kernel
theorem dX9_way_41 : decode cX9_way 41 = .ok (.iload 4, 2) := by decide +kernel
theorem dX9_way_43 : decode cX9_way 43 = .ok (.invokevirtual 142, 3) := by decide +kernel
theorem dX9_way_46 : decode cX9_way 46 = .ok (.checkcast 226, 3) := by decide +kernel
theorem dX9_way_49 : decode cX9_way 49 = .ok (.iload_n 3, 1) := by decide +kernel
theorem dX9_way_50 : decode cX9_way 50 = .ok (.invokevirtual 234, 3) := by decide +kernel
theorem dX9_way_53 : decode cX9_way 53 = .ok (.ifCond .eq 22, 3) := by decide +kernel
theorem dX9_way_56 : decode cX9_way 56 = .ok (.aload_n 0, 1) := by decide +kernel
theorem dX9_way_57 : decode cX9_way 57 = .ok (.getfield 48, 3) := by decide +kernel
theorem dX9_way_60 : decode cX9_way 60 = .ok (.aload_n 0, 1) := by decide +kernel
theorem dX9_way_61 : decode cX9_way 61 = .ok (.getfield 23, 3) := by decide +kernel
theorem dX9_way_64 : decode cX9_way 64 = .ok (.iload 4, 2) := by decide +kernel
theorem dX9_way_66 : decode cX9_way 66 = .ok (.invokevirtual 142, 3) := by decide +kernel
theorem dX9_way_69 : decode cX9_way 69 = .ok (.checkcast 226, 3) := by decide +kernel
theorem dX9_way_72 : decode cX9_way 72 = .ok (.invokevirtual 259, 3) := by decide +kernel
theorem dX9_way_75 : decode cX9_way 75 = .ok (.iinc 4 1, 3) := by decide +kernel
theorem dX9_way_78 : decode cX9_way 78 = .ok (.goto (-53), 3) := by decide +kernel
theorem dX9_way_81 : decode cX9_way 81 = .ok (.aload_n 0, 1) := by decide +kernel
theorem dX9_way_82 : decode cX9_way 82 = .ok (.getfield 48, 3) := by decide +kernel
theorem dX9_way_85 : decode cX9_way 85 = .ok (.iload_n 1, 1) := by decide +kernel
theorem dX9_way_86 : decode cX9_way 86 = .ok (.iload_n 2, 1) := by decide +kernel
theorem dX9_way_87 : decode cX9_way 87 = .ok (.invokevirtual 263, 3) := by decide +kernel
theorem dX9_way_90 : decode cX9_way 90 = .ok (.ireturn, 1) := by decide +kernel
theorem dX9_flight_0 : decode cX9_flight 0 = .ok (.aload_n 0, 1) := by decide +kernel
theorem dX9_flight_1 : decode cX9_flight 1 = .ok (.invokevirtual 191, 3) := by decide +kernel
theorem dX9_flight_4 : decode cX9_flight 4 = .ok (.aload_n 0, 1) := by decide +kernel
theorem dX9_flight_5 : decode cX9_flight 5 = .ok (.getfield 55, 3) := by decide +kernel
theorem dX9_flight_8 : decode cX9_flight 8 = .ok (.aload_n 0, 1) := by decide +kernel
theorem dX9_flight_9 : decode cX9_flight 9 = .ok (.getfield 59, 3) := by decide +kernel
theorem dX9_flight_12 : decode cX9_flight 12 = .ok (.invokevirtual 266, 3) := by decide +kernel
theorem dX9_flight_15 : decode cX9_flight 15 = .ok (.ireturn, 1) := by decide +kernel
theorem dX9_count_0 : decode cX9_count 0 = .ok (.iload_n 1, 1) := by decide +kernel
theorem dX9_count_1 : decode cX9_count 1 = .ok (.tableswitch 103 0 7 #[47, 52, 60, 65, 73, 78, 90, 98], 47) := by decide +kernel
theorem dX9_count_48 : decode cX9_count 48 = .ok (.aload_n 0, 1) := by decide +kernel
theorem dX9_count_49 : decode cX9_count 49 = .ok (.getfield 66, 3) := by decide +kernel
theorem dX9_count_52 : decode cX9_count 52 = .ok (.ireturn, 1) := by decide +kernel
theorem dX9_count_53 : decode cX9_count 53 = .ok (.aload_n 0, 1) := by decide +kernel
theorem dX9_count_54 : decode cX9_count 54 = .ok (.getfield 19, 3) := by decide +kernel
theorem dX9_count_57 : decode cX9_count 57 = .ok (.invokevirtual 126, 3) := by decide +kernel
theorem dX9_count_60 : decode cX9_count 60 = .ok (.ireturn, 1) := by decide +kernel
theorem dX9_count_61 : decode cX9_count 61 = .ok (.aload_n 0, 1) := by decide +kernel
theorem dX9_count_62 : decode cX9_count 62 = .ok (.invokevirtual 269, 3) := by decide +kernel
theorem dX9_count_65 : decode cX9_count 65 = .ok (.ireturn, 1) := by decide +kernel
theorem dX9_count_66 : decode cX9_count 66 = .ok (.aload_n 0, 1) := by decide +kernel
theorem dX9_count_67 : decode cX9_count 67 = .ok (.getfield 23, 3) := by decide +kernel
theorem dX9_count_70 : decode cX9_count 70 = .ok (.invokevirtual 126, 3) := by decide +kernel
theorem dX9_count_73 : decode cX9_count 73 = .ok (.ireturn, 1) := by decide +kernel
theorem dX9_count_74 : decode cX9_count 74 = .ok (.aload_n 0, 1) := by decide +kernel
theorem dX9_count_75 : decode cX9_count 75 = .ok (.invokevirtual 272, 3) := by decide +kernel
theorem dX9_count_78 : decode cX9_count 78 = .ok (.ireturn, 1) := by decide +kernel
theorem dX9_count_79 : decode cX9_count 79 = .ok (.aload_n 0, 1) := by decide +kernel
theorem dX9_count_80 : decode cX9_count 80 = .ok (.invokevirtual 191, 3) := by decide +kernel
theorem dX9_count_83 : decode cX9_count 83 = .ok (.aload_n 0, 1) := by decide +kernel
theorem dX9_count_84 : decode cX9_count 84 = .ok (.getfield 59, 3) := by decide +kernel
theorem dX9_count_87 : decode cX9_count 87 = .ok (.invokestatic 176, 3) := by decide +kernel
theorem dX9_count_90 : decode cX9_count 90 = .ok (.ireturn, 1) := by decide +kernel
theorem dX9_count_91 : decode cX9_count 91 = .ok (.aload_n 0, 1) := by decide +kernel
theorem dX9_count_92 : decode cX9_count 92 = .ok (.getfield 37, 3) := by decide +kernel
theorem dX9_count_95 : decode cX9_count 95 = .ok (.getfield 76, 3) := by decide +kernel
theorem dX9_count_98 : decode cX9_count 98 = .ok (.ireturn, 1) := by decide +kernel
theorem dX9_count_99 : decode cX9_count 99 = .ok (.aload_n 0, 1) := by decide +kernel
theorem dX9_count_100 : decode cX9_count 100 = .ok (.getfield 70, 3) := by decide +kernel
theorem dX9_count_103 : decode cX9_count 103 = .ok (.ireturn, 1) := by decide +kernel
theorem dX9_count_104 : decode cX9_count 104 = .ok (.iconst (-1), 1) := by decide +kernel
theorem dX9_count_105 : decode cX9_count 105 = .ok (.ireturn, 1) := by decide +kernel
theorem dX9_checkSquare_0 : decode cX9_checkSquare 0 = .ok (.iload_n 0, 1) := by decide +kernel
theorem dX9_checkSquare_1 : decode cX9_checkSquare 1 = .ok (.ifCond .lt 10, 3) := by decide +kernel
theorem dX9_checkSquare_4 : decode cX9_checkSquare 4 = .ok (.iload_n 0, 1) := by decide +kernel
theorem dX9_checkSquare_5 : decode cX9_checkSquare 5 = .ok (.sipush 280, 3) := by decide +kernel
theorem dX9_checkSquare_8 : decode cX9_checkSquare 8 = .ok (.if_icmp .lt 14, 3) := by decide +kernel
theorem dX9_checkSquare_11 : decode cX9_checkSquare 11 = .ok (.new 275, 3) := by decide +kernel
theorem dX9_checkSquare_14 : decode cX9_checkSquare 14 = .ok (.dup, 1) := by decide +kernel
theorem dX9_checkSquare_15 : decode cX9_checkSquare 15 = .ok (.ldc_w 277, 3) := by decide +kernel
theorem dX9_checkSquare_18 : decode cX9_checkSquare 18 = .ok (.invokespecial 279, 3) := by decide +kernel
theorem dX9_checkSquare_21 : decode cX9_checkSquare 21 = .ok (.athrow, 1) := by decide +kernel
theorem dX9_checkSquare_22 : decode cX9_checkSquare 22 = .ok (.return_, 1) := by decide +kernel
theorem dX9_checkBerg_0 : decode cX9_checkBerg 0 = .ok (.iload_n 1, 1) := by decide +kernel
theorem dX9_checkBerg_1 : decode cX9_checkBerg 1 = .ok (.ifCond .lt 14, 3) := by decide +kernel
theorem dX9_checkBerg_4 : decode cX9_checkBerg 4 = .ok (.iload_n 1, 1) := by decide +kernel
theorem dX9_checkBerg_5 : decode cX9_checkBerg 5 = .ok (.aload_n 0, 1) := by decide +kernel
theorem dX9_checkBerg_6 : decode cX9_checkBerg 6 = .ok (.getfield 19, 3) := by decide +kernel
theorem dX9_checkBerg_9 : decode cX9_checkBerg 9 = .ok (.invokevirtual 126, 3) := by decide +kernel
theorem dX9_checkBerg_12 : decode cX9_checkBerg 12 = .ok (.if_icmp .lt 14, 3) := by decide +kernel
theorem dX9_checkBerg_15 : decode cX9_checkBerg 15 = .ok (.new 275, 3) := by decide +kernel
theorem dX9_checkBerg_18 : decode cX9_checkBerg 18 = .ok (.dup, 1) := by decide +kernel
theorem dX9_checkBerg_19 : decode cX9_checkBerg 19 = .ok (.ldc_w 280, 3) := by decide +kernel
theorem dX9_checkBerg_22 : decode cX9_checkBerg 22 = .ok (.invokespecial 279, 3) := by decide +kernel
theorem dX9_checkBerg_25 : decode cX9_checkBerg 25 = .ok (.athrow, 1) := by decide +kernel
theorem dX9_checkBerg_26 : decode cX9_checkBerg 26 = .ok (.return_, 1) := by decide +kernel
theorem dX9_checkWarning_0 : decode cX9_checkWarning 0 = .ok (.iload_n 1, 1) := by decide +kernel
theorem dX9_checkWarning_1 : decode cX9_checkWarning 1 = .ok (.ifCond .lt 14, 3) := by decide +kernel
theorem dX9_checkWarning_4 : decode cX9_checkWarning 4 = .ok (.iload_n 1, 1) := by decide +kernel
theorem dX9_checkWarning_5 : decode cX9_checkWarning 5 = .ok (.aload_n 0, 1) := by decide +kernel
theorem dX9_checkWarning_6 : decode cX9_checkWarning 6 = .ok (.getfield 23, 3) := by decide +kernel
theorem dX9_checkWarning_9 : decode cX9_checkWarning 9 = .ok (.invokevirtual 126, 3) := by decide +kernel
theorem dX9_checkWarning_12 : decode cX9_checkWarning 12 = .ok (.if_icmp .lt 14, 3) := by decide +kernel
theorem dX9_checkWarning_15 : decode cX9_checkWarning 15 = .ok (.new 275, 3) := by decide +kernel
theorem dX9_checkWarning_18 : decode cX9_checkWarning 18 = .ok (.dup, 1) := by decide +kernel
theorem dX9_checkWarning_19 : decode cX9_checkWarning 19 = .ok (.ldc_w 282, 3) := by decide +kernel
theorem dX9_checkWarning_22 : decode cX9_checkWarning 22 = .ok (.invokespecial 279, 3) := by decide +kernel
theorem dX9_checkWarning_25 : decode cX9_checkWarning 25 = .ok (.athrow, 1) := by decide +kernel
theorem dX9_checkWarning_26 : decode cX9_checkWarning 26 = .ok (.return_, 1) := by decide +kernel
theorem dX9_isCurrent_0 : decode cX9_isCurrent 0 = .ok (.iload_n 0, 1) := by decide +kernel
theorem dX9_isCurrent_1 : decode cX9_isCurrent 1 = .ok (.bipush (-2), 2) := by decide +kernel
theorem dX9_isCurrent_3 : decode cX9_isCurrent 3 = .ok (.if_icmp .lt 12, 3) := by decide +kernel
theorem dX9_isCurrent_6 : decode cX9_isCurrent 6 = .ok (.iload_n 0, 1) := by decide +kernel
theorem dX9_isCurrent_7 : decode cX9_isCurrent 7 = .ok (.iconst 2, 1) := by decide +kernel
theorem dX9_isCurrent_8 : decode cX9_isCurrent 8 = .ok (.if_icmp .gt 7, 3) := by decide +kernel
theorem dX9_isCurrent_11 : decode cX9_isCurrent 11 = .ok (.iconst 1, 1) := by decide +kernel
theorem dX9_isCurrent_12 : decode cX9_isCurrent 12 = .ok (.goto 4, 3) := by decide +kernel
theorem dX9_isCurrent_15 : decode cX9_isCurrent 15 = .ok (.iconst 0, 1) := by decide +kernel
theorem dX9_isCurrent_16 : decode cX9_isCurrent 16 = .ok (.ireturn, 1) := by decide +kernel
theorem dX9_someBergMayBe_0 : decode cX9_someBergMayBe 0 = .ok (.iconst 0, 1) := by decide +kernel
theorem dX9_someBergMayBe_1 : decode cX9_someBergMayBe 1 = .ok (.istore_n 2, 1) := by decide +kernel
theorem dX9_someBergMayBe_2 : decode cX9_someBergMayBe 2 = .ok (.iload_n 2, 1) := by decide +kernel
theorem dX9_someBergMayBe_3 : decode cX9_someBergMayBe 3 = .ok (.aload_n 0, 1) := by decide +kernel
theorem dX9_someBergMayBe_4 : decode cX9_someBergMayBe 4 = .ok (.getfield 19, 3) := by decide +kernel
theorem dX9_someBergMayBe_7 : decode cX9_someBergMayBe 7 = .ok (.invokevirtual 126, 3) := by decide +kernel
theorem dX9_someBergMayBe_10 : decode cX9_someBergMayBe 10 = .ok (.if_icmp .ge 30, 3) := by decide +kernel
theorem dX9_someBergMayBe_13 : decode cX9_someBergMayBe 13 = .ok (.aload_n 0, 1) := by decide +kernel
theorem dX9_someBergMayBe_14 : decode cX9_someBergMayBe 14 = .ok (.getfield 19, 3) := by decide +kernel
theorem dX9_someBergMayBe_17 : decode cX9_someBergMayBe 17 = .ok (.iload_n 2, 1) := by decide +kernel
theorem dX9_someBergMayBe_18 : decode cX9_someBergMayBe 18 = .ok (.invokevirtual 142, 3) := by decide +kernel
theorem dX9_someBergMayBe_21 : decode cX9_someBergMayBe 21 = .ok (.checkcast 135, 3) := by decide +kernel
theorem dX9_someBergMayBe_24 : decode cX9_someBergMayBe 24 = .ok (.getfield 164, 3) := by decide +kernel
theorem dX9_someBergMayBe_27 : decode cX9_someBergMayBe 27 = .ok (.iload_n 1, 1) := by decide +kernel
theorem dX9_someBergMayBe_28 : decode cX9_someBergMayBe 28 = .ok (.iaload, 1) := by decide +kernel
theorem dX9_someBergMayBe_29 : decode cX9_someBergMayBe 29 = .ok (.ifCond .le 5, 3) := by decide +kernel
theorem dX9_someBergMayBe_32 : decode cX9_someBergMayBe 32 = .ok (.iconst 1, 1) := by decide +kernel
theorem dX9_someBergMayBe_33 : decode cX9_someBergMayBe 33 = .ok (.ireturn, 1) := by decide +kernel
theorem dX9_someBergMayBe_34 : decode cX9_someBergMayBe 34 = .ok (.iinc 2 1, 3) := by decide +kernel
theorem dX9_someBergMayBe_37 : decode cX9_someBergMayBe 37 = .ok (.goto (-35), 3) := by decide +kernel
theorem dX9_someBergMayBe_40 : decode cX9_someBergMayBe 40 = .ok (.iconst 0, 1) := by decide +kernel
theorem dX9_someBergMayBe_41 : decode cX9_someBergMayBe 41 = .ok (.ireturn, 1) := by decide +kernel
theorem dX9_bergToJoin_0 : decode cX9_bergToJoin 0 = .ok (.iconst (-1), 1) := by decide +kernel
theorem dX9_bergToJoin_1 : decode cX9_bergToJoin 1 = .ok (.istore_n 3, 1) := by decide +kernel
theorem dX9_bergToJoin_2 : decode cX9_bergToJoin 2 = .ok (.iconst 0, 1) := by decide +kernel
theorem dX9_bergToJoin_3 : decode cX9_bergToJoin 3 = .ok (.istore 4, 2) := by decide +kernel
theorem dX9_bergToJoin_5 : decode cX9_bergToJoin 5 = .ok (.iconst 0, 1) := by decide +kernel
theorem dX9_bergToJoin_6 : decode cX9_bergToJoin 6 = .ok (.istore 5, 2) := by decide +kernel
theorem dX9_bergToJoin_8 : decode cX9_bergToJoin 8 = .ok (.iload 5, 2) := by decide +kernel
theorem dX9_bergToJoin_10 : decode cX9_bergToJoin 10 = .ok (.aload_n 0, 1) := by decide +kernel
theorem dX9_bergToJoin_11 : decode cX9_bergToJoin 11 = .ok (.getfield 19, 3) := by decide +kernel
theorem dX9_bergToJoin_14 : decode cX9_bergToJoin 14 = .ok (.invokevirtual 126, 3) := by decide +kernel
theorem dX9_bergToJoin_17 : decode cX9_bergToJoin 17 = .ok (.if_icmp .ge 64, 3) := by decide +kernel
theorem dX9_bergToJoin_20 : decode cX9_bergToJoin 20 = .ok (.aload_n 0, 1) := by decide +kernel
theorem dX9_bergToJoin_21 : decode cX9_bergToJoin 21 = .ok (.getfield 19, 3) := by decide +kernel
theorem dX9_bergToJoin_24 : decode cX9_bergToJoin 24 = .ok (.iload 5, 2) := by decide +kernel
theorem dX9_bergToJoin_26 : decode cX9_bergToJoin 26 = .ok (.invokevirtual 142, 3) := by decide +kernel
theorem dX9_bergToJoin_29 : decode cX9_bergToJoin 29 = .ok (.checkcast 135, 3) := by decide +kernel
theorem dX9_bergToJoin_32 : decode cX9_bergToJoin 32 = .ok (.astore 6, 2) := by decide +kernel
theorem dX9_bergToJoin_34 : decode cX9_bergToJoin 34 = .ok (.aload 6, 2) := by decide +kernel
theorem dX9_bergToJoin_36 : decode cX9_bergToJoin 36 = .ok (.getfield 172, 3) := by decide +kernel
theorem dX9_bergToJoin_39 : decode cX9_bergToJoin 39 = .ok (.ifCond .ne 36, 3) := by decide +kernel
theorem dX9_bergToJoin_42 : decode cX9_bergToJoin 42 = .ok (.aload 6, 2) := by decide +kernel
theorem dX9_bergToJoin_44 : decode cX9_bergToJoin 44 = .ok (.getfield 167, 3) := by decide +kernel
theorem dX9_bergToJoin_47 : decode cX9_bergToJoin 47 = .ok (.iload_n 2, 1) := by decide +kernel
theorem dX9_bergToJoin_48 : decode cX9_bergToJoin 48 = .ok (.if_icmp .lt 27, 3) := by decide +kernel
theorem dX9_bergToJoin_51 : decode cX9_bergToJoin 51 = .ok (.aload 6, 2) := by decide +kernel
theorem dX9_bergToJoin_53 : decode cX9_bergToJoin 53 = .ok (.getfield 164, 3) := by decide +kernel
theorem dX9_bergToJoin_56 : decode cX9_bergToJoin 56 = .ok (.iload_n 1, 1) := by decide +kernel
theorem dX9_bergToJoin_57 : decode cX9_bergToJoin 57 = .ok (.iaload, 1) := by decide +kernel
theorem dX9_bergToJoin_58 : decode cX9_bergToJoin 58 = .ok (.iload 4, 2) := by decide +kernel
theorem dX9_bergToJoin_60 : decode cX9_bergToJoin 60 = .ok (.if_icmp .le 15, 3) := by decide +kernel
theorem dX9_bergToJoin_63 : decode cX9_bergToJoin 63 = .ok (.iload 5, 2) := by decide +kernel
theorem dX9_bergToJoin_65 : decode cX9_bergToJoin 65 = .ok (.istore_n 3, 1) := by decide +kernel
theorem dX9_bergToJoin_66 : decode cX9_bergToJoin 66 = .ok (.aload 6, 2) := by decide +kernel
theorem dX9_bergToJoin_68 : decode cX9_bergToJoin 68 = .ok (.getfield 164, 3) := by decide +kernel
theorem dX9_bergToJoin_71 : decode cX9_bergToJoin 71 = .ok (.iload_n 1, 1) := by decide +kernel
theorem dX9_bergToJoin_72 : decode cX9_bergToJoin 72 = .ok (.iaload, 1) := by decide +kernel
theorem dX9_bergToJoin_73 : decode cX9_bergToJoin 73 = .ok (.istore 4, 2) := by decide +kernel
theorem dX9_bergToJoin_75 : decode cX9_bergToJoin 75 = .ok (.iinc 5 1, 3) := by decide +kernel
theorem dX9_bergToJoin_78 : decode cX9_bergToJoin 78 = .ok (.goto (-70), 3) := by decide +kernel
theorem dX9_bergToJoin_81 : decode cX9_bergToJoin 81 = .ok (.iload_n 3, 1) := by decide +kernel
theorem dX9_bergToJoin_82 : decode cX9_bergToJoin 82 = .ok (.ireturn, 1) := by decide +kernel
theorem dX9_gatherParts_0 : decode cX9_gatherParts 0 = .ok (.aload_n 0, 1) := by decide +kernel
theorem dX9_gatherParts_1 : decode cX9_gatherParts 1 = .ok (.getfield 59, 3) := by decide +kernel
theorem dX9_gatherParts_4 : decode cX9_gatherParts 4 = .ok (.iconst 0, 1) := by decide +kernel
theorem dX9_gatherParts_5 : decode cX9_gatherParts 5 = .ok (.invokestatic 284, 3) := by decide +kernel
theorem dX9_gatherParts_8 : decode cX9_gatherParts 8 = .ok (.iconst 0, 1) := by decide +kernel
theorem dX9_gatherParts_9 : decode cX9_gatherParts 9 = .ok (.istore_n 1, 1) := by decide +kernel
theorem dX9_gatherParts_10 : decode cX9_gatherParts 10 = .ok (.iload_n 1, 1) := by decide +kernel
theorem dX9_gatherParts_11 : decode cX9_gatherParts 11 = .ok (.aload_n 0, 1) := by decide +kernel
theorem dX9_gatherParts_12 : decode cX9_gatherParts 12 = .ok (.getfield 19, 3) := by decide +kernel
theorem dX9_gatherParts_15 : decode cX9_gatherParts 15 = .ok (.invokevirtual 126, 3) := by decide +kernel
theorem dX9_gatherParts_18 : decode cX9_gatherParts 18 = .ok (.if_icmp .ge 51, 3) := by decide +kernel
theorem dX9_gatherParts_21 : decode cX9_gatherParts 21 = .ok (.aload_n 0, 1) := by decide +kernel
theorem dX9_gatherParts_22 : decode cX9_gatherParts 22 = .ok (.getfield 19, 3) := by decide +kernel
theorem dX9_gatherParts_25 : decode cX9_gatherParts 25 = .ok (.iload_n 1, 1) := by decide +kernel
theorem dX9_gatherParts_26 : decode cX9_gatherParts 26 = .ok (.invokevirtual 142, 3) := by decide +kernel
theorem dX9_gatherParts_29 : decode cX9_gatherParts 29 = .ok (.checkcast 135, 3) := by decide +kernel
theorem dX9_gatherParts_32 : decode cX9_gatherParts 32 = .ok (.getfield 164, 3) := by decide +kernel
theorem dX9_gatherParts_35 : decode cX9_gatherParts 35 = .ok (.astore_n 2, 1) := by decide +kernel
theorem dX9_gatherParts_36 : decode cX9_gatherParts 36 = .ok (.iconst 0, 1) := by decide +kernel
theorem dX9_gatherParts_37 : decode cX9_gatherParts 37 = .ok (.istore_n 3, 1) := by decide +kernel
theorem dX9_gatherParts_38 : decode cX9_gatherParts 38 = .ok (.iload_n 3, 1) := by decide +kernel
theorem dX9_gatherParts_39 : decode cX9_gatherParts 39 = .ok (.sipush 280, 3) := by decide +kernel
theorem dX9_gatherParts_42 : decode cX9_gatherParts 42 = .ok (.if_icmp .ge 21, 3) := by decide +kernel
theorem dX9_gatherParts_45 : decode cX9_gatherParts 45 = .ok (.aload_n 0, 1) := by decide +kernel
theorem dX9_gatherParts_46 : decode cX9_gatherParts 46 = .ok (.getfield 59, 3) := by decide +kernel
theorem dX9_gatherParts_49 : decode cX9_gatherParts 49 = .ok (.iload_n 3, 1) := by decide +kernel
theorem dX9_gatherParts_50 : decode cX9_gatherParts 50 = .ok (.dup2, 1) := by decide +kernel
theorem dX9_gatherParts_51 : decode cX9_gatherParts 51 = .ok (.iaload, 1) := by decide +kernel
theorem dX9_gatherParts_52 : decode cX9_gatherParts 52 = .ok (.aload_n 2, 1) := by decide +kernel
theorem dX9_gatherParts_53 : decode cX9_gatherParts 53 = .ok (.iload_n 3, 1) := by decide +kernel
theorem dX9_gatherParts_54 : decode cX9_gatherParts 54 = .ok (.iaload, 1) := by decide +kernel
theorem dX9_gatherParts_55 : decode cX9_gatherParts 55 = .ok (.iadd, 1) := by decide +kernel
theorem dX9_gatherParts_56 : decode cX9_gatherParts 56 = .ok (.iastore, 1) := by decide +kernel
theorem dX9_gatherParts_57 : decode cX9_gatherParts 57 = .ok (.iinc 3 1, 3) := by decide +kernel
theorem dX9_gatherParts_60 : decode cX9_gatherParts 60 = .ok (.goto (-22), 3) := by decide +kernel
theorem dX9_gatherParts_63 : decode cX9_gatherParts 63 = .ok (.iinc 1 1, 3) := by decide +kernel
theorem dX9_gatherParts_66 : decode cX9_gatherParts 66 = .ok (.goto (-56), 3) := by decide +kernel
theorem dX9_gatherParts_69 : decode cX9_gatherParts 69 = .ok (.return_, 1) := by decide +kernel
theorem dX9_squaresAboveZero_0 : decode cX9_squaresAboveZero 0 = .ok (.iconst 0, 1) := by decide +kernel
theorem dX9_squaresAboveZero_1 : decode cX9_squaresAboveZero 1 = .ok (.istore_n 1, 1) := by decide +kernel
theorem dX9_squaresAboveZero_2 : decode cX9_squaresAboveZero 2 = .ok (.iconst 0, 1) := by decide +kernel
theorem dX9_squaresAboveZero_3 : decode cX9_squaresAboveZero 3 = .ok (.istore_n 2, 1) := by decide +kernel
theorem dX9_squaresAboveZero_4 : decode cX9_squaresAboveZero 4 = .ok (.iload_n 2, 1) := by decide +kernel
theorem dX9_squaresAboveZero_5 : decode cX9_squaresAboveZero 5 = .ok (.aload_n 0, 1) := by decide +kernel
theorem dX9_squaresAboveZero_6 : decode cX9_squaresAboveZero 6 = .ok (.arraylength, 1) := by decide +kernel
theorem dX9_squaresAboveZero_7 : decode cX9_squaresAboveZero 7 = .ok (.if_icmp .ge 18, 3) := by decide +kernel
theorem dX9_squaresAboveZero_10 : decode cX9_squaresAboveZero 10 = .ok (.aload_n 0, 1) := by decide +kernel
theorem dX9_squaresAboveZero_11 : decode cX9_squaresAboveZero 11 = .ok (.iload_n 2, 1) := by decide +kernel
theorem dX9_squaresAboveZero_12 : decode cX9_squaresAboveZero 12 = .ok (.iaload, 1) := by decide +kernel
theorem dX9_squaresAboveZero_13 : decode cX9_squaresAboveZero 13 = .ok (.ifCond .le 6, 3) := by decide +kernel
theorem dX9_squaresAboveZero_16 : decode cX9_squaresAboveZero 16 = .ok (.iinc 1 1, 3) := by decide +kernel
theorem dX9_squaresAboveZero_19 : decode cX9_squaresAboveZero 19 = .ok (.iinc 2 1, 3) := by decide +kernel
theorem dX9_squaresAboveZero_22 : decode cX9_squaresAboveZero 22 = .ok (.goto (-18), 3) := by decide +kernel
theorem dX9_squaresAboveZero_25 : decode cX9_squaresAboveZero 25 = .ok (.iload_n 1, 1) := by decide +kernel
theorem dX9_squaresAboveZero_26 : decode cX9_squaresAboveZero 26 = .ok (.ireturn, 1) := by decide +kernel
theorem dX9_bergsLeft_0 : decode cX9_bergsLeft 0 = .ok (.iconst 0, 1) := by decide +kernel
theorem dX9_bergsLeft_1 : decode cX9_bergsLeft 1 = .ok (.istore_n 1, 1) := by decide +kernel
theorem dX9_bergsLeft_2 : decode cX9_bergsLeft 2 = .ok (.iconst 0, 1) := by decide +kernel
theorem dX9_bergsLeft_3 : decode cX9_bergsLeft 3 = .ok (.istore_n 2, 1) := by decide +kernel
theorem dX9_bergsLeft_4 : decode cX9_bergsLeft 4 = .ok (.iload_n 2, 1) := by decide +kernel
theorem dX9_bergsLeft_5 : decode cX9_bergsLeft 5 = .ok (.aload_n 0, 1) := by decide +kernel
theorem dX9_bergsLeft_6 : decode cX9_bergsLeft 6 = .ok (.getfield 19, 3) := by decide +kernel
theorem dX9_bergsLeft_9 : decode cX9_bergsLeft 9 = .ok (.invokevirtual 126, 3) := by decide +kernel
theorem dX9_bergsLeft_12 : decode cX9_bergsLeft 12 = .ok (.if_icmp .ge 29, 3) := by decide +kernel
theorem dX9_bergsLeft_15 : decode cX9_bergsLeft 15 = .ok (.aload_n 0, 1) := by decide +kernel
theorem dX9_bergsLeft_16 : decode cX9_bergsLeft 16 = .ok (.getfield 19, 3) := by decide +kernel
theorem dX9_bergsLeft_19 : decode cX9_bergsLeft 19 = .ok (.iload_n 2, 1) := by decide +kernel
theorem dX9_bergsLeft_20 : decode cX9_bergsLeft 20 = .ok (.invokevirtual 142, 3) := by decide +kernel
theorem dX9_bergsLeft_23 : decode cX9_bergsLeft 23 = .ok (.checkcast 135, 3) := by decide +kernel
theorem dX9_bergsLeft_26 : decode cX9_bergsLeft 26 = .ok (.getfield 172, 3) := by decide +kernel
theorem dX9_bergsLeft_29 : decode cX9_bergsLeft 29 = .ok (.ifCond .ne 6, 3) := by decide +kernel
theorem dX9_bergsLeft_32 : decode cX9_bergsLeft 32 = .ok (.iinc 1 1, 3) := by decide +kernel
theorem dX9_bergsLeft_35 : decode cX9_bergsLeft 35 = .ok (.iinc 2 1, 3) := by decide +kernel
theorem dX9_bergsLeft_38 : decode cX9_bergsLeft 38 = .ok (.goto (-34), 3) := by decide +kernel
theorem dX9_bergsLeft_41 : decode cX9_bergsLeft 41 = .ok (.iload_n 1, 1) := by decide +kernel
theorem dX9_bergsLeft_42 : decode cX9_bergsLeft 42 = .ok (.ireturn, 1) := by decide +kernel
theorem dX9_warningsHolding_0 : decode cX9_warningsHolding 0 = .ok (.iconst 0, 1) := by decide +kernel
theorem dX9_warningsHolding_1 : decode cX9_warningsHolding 1 = .ok (.istore_n 1, 1) := by decide +kernel
theorem dX9_warningsHolding_2 : decode cX9_warningsHolding 2 = .ok (.iconst 0, 1) := by decide +kernel
theorem dX9_warningsHolding_3 : decode cX9_warningsHolding 3 = .ok (.istore_n 2, 1) := by decide +kernel
theorem dX9_warningsHolding_4 : decode cX9_warningsHolding 4 = .ok (.iload_n 2, 1) := by decide +kernel
theorem dX9_warningsHolding_5 : decode cX9_warningsHolding 5 = .ok (.aload_n 0, 1) := by decide +kernel
theorem dX9_warningsHolding_6 : decode cX9_warningsHolding 6 = .ok (.getfield 23, 3) := by decide +kernel
theorem dX9_warningsHolding_9 : decode cX9_warningsHolding 9 = .ok (.invokevirtual 126, 3) := by decide +kernel
theorem dX9_warningsHolding_12 : decode cX9_warningsHolding 12 = .ok (.if_icmp .ge 33, 3) := by decide +kernel
theorem dX9_warningsHolding_15 : decode cX9_warningsHolding 15 = .ok (.aload_n 0, 1) := by decide +kernel
theorem dX9_warningsHolding_16 : decode cX9_warningsHolding 16 = .ok (.getfield 23, 3) := by decide +kernel
theorem dX9_warningsHolding_19 : decode cX9_warningsHolding 19 = .ok (.iload_n 2, 1) := by decide +kernel
theorem dX9_warningsHolding_20 : decode cX9_warningsHolding 20 = .ok (.invokevirtual 142, 3) := by decide +kernel
theorem dX9_warningsHolding_23 : decode cX9_warningsHolding 23 = .ok (.checkcast 226, 3) := by decide +kernel
theorem dX9_warningsHolding_26 : decode cX9_warningsHolding 26 = .ok (.aload_n 0, 1) := by decide +kernel
theorem dX9_warningsHolding_27 : decode cX9_warningsHolding 27 = .ok (.getfield 66, 3) := by decide +kernel
theorem dX9_warningsHolding_30 : decode cX9_warningsHolding 30 = .ok (.invokevirtual 234, 3) := by decide +kernel
theorem dX9_warningsHolding_33 : decode cX9_warningsHolding 33 = .ok (.ifCond .eq 6, 3) := by decide +kernel
theorem dX9_warningsHolding_36 : decode cX9_warningsHolding 36 = .ok (.iinc 1 1, 3) := by decide +kernel
theorem dX9_warningsHolding_39 : decode cX9_warningsHolding 39 = .ok (.iinc 2 1, 3) := by decide +kernel
theorem dX9_warningsHolding_42 : decode cX9_warningsHolding 42 = .ok (.goto (-38), 3) := by decide +kernel
theorem dX9_warningsHolding_45 : decode cX9_warningsHolding 45 = .ok (.iload_n 1, 1) := by decide +kernel
theorem dX9_warningsHolding_46 : decode cX9_warningsHolding 46 = .ok (.ireturn, 1) := by decide +kernel
theorem dX9_addWarning_0 : decode cX9_addWarning 0 = .ok (.aload_n 0, 1) := by decide +kernel
theorem dX9_addWarning_1 : decode cX9_addWarning 1 = .ok (.getfield 23, 3) := by decide +kernel
theorem dX9_addWarning_4 : decode cX9_addWarning 4 = .ok (.new 226, 3) := by decide +kernel
theorem dX9_addWarning_7 : decode cX9_addWarning 7 = .ok (.dup, 1) := by decide +kernel
theorem dX9_addWarning_8 : decode cX9_addWarning 8 = .ok (.aload_n 1, 1) := by decide +kernel
theorem dX9_addWarning_9 : decode cX9_addWarning 9 = .ok (.aload_n 0, 1) := by decide +kernel
theorem dX9_addWarning_10 : decode cX9_addWarning 10 = .ok (.getfield 66, 3) := by decide +kernel
theorem dX9_addWarning_13 : decode cX9_addWarning 13 = .ok (.invokespecial 290, 3) := by decide +kernel
theorem dX9_addWarning_16 : decode cX9_addWarning 16 = .ok (.invokevirtual 138, 3) := by decide +kernel
theorem dX9_addWarning_19 : decode cX9_addWarning 19 = .ok (.pop, 1) := by decide +kernel
theorem dX9_addWarning_20 : decode cX9_addWarning 20 = .ok (.aload_n 0, 1) := by decide +kernel
theorem dX9_addWarning_21 : decode cX9_addWarning 21 = .ok (.getfield 23, 3) := by decide +kernel
theorem dX9_addWarning_24 : decode cX9_addWarning 24 = .ok (.invokevirtual 126, 3) := by decide +kernel
theorem dX9_addWarning_27 : decode cX9_addWarning 27 = .ok (.iconst 1, 1) := by decide +kernel
theorem dX9_addWarning_28 : decode cX9_addWarning 28 = .ok (.isub, 1) := by decide +kernel
theorem dX9_addWarning_29 : decode cX9_addWarning 29 = .ok (.ireturn, 1) := by decide +kernel
theorem dX9_squareAt_0 : decode cX9_squareAt 0 = .ok (.iload_n 0, 1) := by decide +kernel
theorem dX9_squareAt_1 : decode cX9_squareAt 1 = .ok (.ifCond .lt 19, 3) := by decide +kernel
theorem dX9_squareAt_4 : decode cX9_squareAt 4 = .ok (.iload_n 0, 1) := by decide +kernel
theorem dX9_squareAt_5 : decode cX9_squareAt 5 = .ok (.bipush 20, 2) := by decide +kernel
theorem dX9_squareAt_7 : decode cX9_squareAt 7 = .ok (.if_icmp .ge 13, 3) := by decide +kernel
theorem dX9_squareAt_10 : decode cX9_squareAt 10 = .ok (.iload_n 1, 1) := by decide +kernel
theorem dX9_squareAt_11 : decode cX9_squareAt 11 = .ok (.ifCond .lt 9, 3) := by decide +kernel
theorem dX9_squareAt_14 : decode cX9_squareAt 14 = .ok (.iload_n 1, 1) := by decide +kernel
theorem dX9_squareAt_15 : decode cX9_squareAt 15 = .ok (.bipush 14, 2) := by decide +kernel
theorem dX9_squareAt_17 : decode cX9_squareAt 17 = .ok (.if_icmp .lt 7, 3) := by decide +kernel
theorem dX9_squareAt_20 : decode cX9_squareAt 20 = .ok (.iconst (-1), 1) := by decide +kernel
theorem dX9_squareAt_21 : decode cX9_squareAt 21 = .ok (.goto 9, 3) := by decide +kernel
theorem dX9_squareAt_24 : decode cX9_squareAt 24 = .ok (.iload_n 1, 1) := by decide +kernel
theorem dX9_squareAt_25 : decode cX9_squareAt 25 = .ok (.bipush 20, 2) := by decide +kernel
theorem dX9_squareAt_27 : decode cX9_squareAt 27 = .ok (.imul, 1) := by decide +kernel
theorem dX9_squareAt_28 : decode cX9_squareAt 28 = .ok (.iload_n 0, 1) := by decide +kernel
theorem dX9_squareAt_29 : decode cX9_squareAt 29 = .ok (.iadd, 1) := by decide +kernel
theorem dX9_squareAt_30 : decode cX9_squareAt 30 = .ok (.ireturn, 1) := by decide +kernel
theorem dJ9_abs_0f7a4_0 : decode cJ9_abs_0f7a4 0 = .ok (.iload_n 0, 1) := by decide +kernel
theorem dJ9_abs_0f7a4_1 : decode cJ9_abs_0f7a4 1 = .ok (.ifCond .ge 8, 3) := by decide +kernel
theorem dJ9_abs_0f7a4_4 : decode cJ9_abs_0f7a4 4 = .ok (.iload_n 0, 1) := by decide +kernel
theorem dJ9_abs_0f7a4_5 : decode cJ9_abs_0f7a4 5 = .ok (.ineg, 1) := by decide +kernel
theorem dJ9_abs_0f7a4_6 : decode cJ9_abs_0f7a4 6 = .ok (.goto 4, 3) := by decide +kernel
theorem dJ9_abs_0f7a4_9 : decode cJ9_abs_0f7a4 9 = .ok (.iload_n 0, 1) := by decide +kernel
theorem dJ9_abs_0f7a4_10 : decode cJ9_abs_0f7a4 10 = .ok (.ireturn, 1) := by decide +kernel
theorem dJ9_max_7cf53_0 : decode cJ9_max_7cf53 0 = .ok (.iload_n 0, 1) := by decide +kernel
theorem dJ9_max_7cf53_1 : decode cJ9_max_7cf53 1 = .ok (.iload_n 1, 1) := by decide +kernel
theorem dJ9_max_7cf53_2 : decode cJ9_max_7cf53 2 = .ok (.if_icmp .lt 7, 3) := by decide +kernel
theorem dJ9_max_7cf53_5 : decode cJ9_max_7cf53 5 = .ok (.iload_n 0, 1) := by decide +kernel
theorem dJ9_max_7cf53_6 : decode cJ9_max_7cf53 6 = .ok (.goto 4, 3) := by decide +kernel
theorem dJ9_max_7cf53_9 : decode cJ9_max_7cf53 9 = .ok (.iload_n 1, 1) := by decide +kernel
theorem dJ9_max_7cf53_10 : decode cJ9_max_7cf53 10 = .ok (.ireturn, 1) := by decide +kernel
theorem dJ9_min_7cf53_0 : decode cJ9_min_7cf53 0 = .ok (.iload_n 0, 1) := by decide +kernel
theorem dJ9_min_7cf53_1 : decode cJ9_min_7cf53 1 = .ok (.iload_n 1, 1) := by decide +kernel
theorem dJ9_min_7cf53_2 : decode cJ9_min_7cf53 2 = .ok (.if_icmp .gt 7, 3) := by decide +kernel
theorem dJ9_min_7cf53_5 : decode cJ9_min_7cf53 5 = .ok (.iload_n 0, 1) := by decide +kernel
theorem dJ9_min_7cf53_6 : decode cJ9_min_7cf53 6 = .ok (.goto 4, 3) := by decide +kernel
theorem dJ9_min_7cf53_9 : decode cJ9_min_7cf53 9 = .ok (.iload_n 1, 1) := by decide +kernel
theorem dJ9_min_7cf53_10 : decode cJ9_min_7cf53 10 = .ok (.ireturn, 1) := by decide +kernel
theorem dJ0_length_8abf5_0 : decode cJ0_length_8abf5 0 = .ok (.aload_n 0, 1) := by decide +kernel
theorem dJ0_length_8abf5_1 : decode cJ0_length_8abf5 1 = .ok (.getfield 9, 3) := by decide +kernel
theorem dJ0_length_8abf5_4 : decode cJ0_length_8abf5 4 = .ok (.arraylength, 1) := by decide +kernel
theorem dJ0_length_8abf5_5 : decode cJ0_length_8abf5 5 = .ok (.aload_n 0, 1) := by decide +kernel
theorem dJ0_length_8abf5_6 : decode cJ0_length_8abf5 6 = .ok (.invokevirtual 335, 3) := by decide +kernel
theorem dJ0_length_8abf5_9 : decode cJ0_length_8abf5 9 = .ok (.ishr, 1) := by decide +kernel
theorem dJ0_length_8abf5_10 : decode cJ0_length_8abf5 10 = .ok (.ireturn, 1) := by decide +kernel
theorem dJ0_charAt_5068e_0 : decode cJ0_charAt_5068e 0 = .ok (.aload_n 0, 1) := by decide +kernel
theorem dJ0_charAt_5068e_1 : decode cJ0_charAt_5068e 1 = .ok (.invokevirtual 492, 3) := by decide +kernel
theorem dJ0_charAt_5068e_4 : decode cJ0_charAt_5068e 4 = .ok (.ifCond .eq 12, 3) := by decide +kernel
theorem dJ0_charAt_5068e_7 : decode cJ0_charAt_5068e 7 = .ok (.aload_n 0, 1) := by decide +kernel
theorem dJ0_charAt_5068e_8 : decode cJ0_charAt_5068e 8 = .ok (.getfield 9, 3) := by decide +kernel
theorem dJ0_charAt_5068e_11 : decode cJ0_charAt_5068e 11 = .ok (.iload_n 1, 1) := by decide +kernel
theorem dJ0_charAt_5068e_12 : decode cJ0_charAt_5068e 12 = .ok (.invokestatic 495, 3) := by decide +kernel
theorem dJ0_charAt_5068e_15 : decode cJ0_charAt_5068e 15 = .ok (.ireturn, 1) := by decide +kernel
theorem dJ0_charAt_5068e_16 : decode cJ0_charAt_5068e 16 = .ok (.aload_n 0, 1) := by decide +kernel
theorem dJ0_charAt_5068e_17 : decode cJ0_charAt_5068e 17 = .ok (.getfield 9, 3) := by decide +kernel
theorem dJ0_charAt_5068e_20 : decode cJ0_charAt_5068e 20 = .ok (.iload_n 1, 1) := by decide +kernel
theorem dJ0_charAt_5068e_21 : decode cJ0_charAt_5068e 21 = .ok (.invokestatic 498, 3) := by decide +kernel
theorem dJ0_charAt_5068e_24 : decode cJ0_charAt_5068e 24 = .ok (.ireturn, 1) := by decide +kernel
theorem dJ0_coder_7d493_0 : decode cJ0_coder_7d493 0 = .ok (.getstatic 38, 3) := by decide +kernel
theorem dJ0_coder_7d493_3 : decode cJ0_coder_7d493 3 = .ok (.ifCond .eq 10, 3) := by decide +kernel
theorem dJ0_coder_7d493_6 : decode cJ0_coder_7d493 6 = .ok (.aload_n 0, 1) := by decide +kernel
theorem dJ0_coder_7d493_7 : decode cJ0_coder_7d493 7 = .ok (.getfield 15, 3) := by decide +kernel
theorem dJ0_coder_7d493_10 : decode cJ0_coder_7d493 10 = .ok (.goto 4, 3) := by decide +kernel
theorem dJ0_coder_7d493_13 : decode cJ0_coder_7d493 13 = .ok (.iconst 1, 1) := by decide +kernel
theorem dJ0_coder_7d493_14 : decode cJ0_coder_7d493 14 = .ok (.ireturn, 1) := by decide +kernel
theorem dJ0_isLatin1_aae02_0 : decode cJ0_isLatin1_aae02 0 = .ok (.getstatic 38, 3) := by decide +kernel
theorem dJ0_isLatin1_aae02_3 : decode cJ0_isLatin1_aae02 3 = .ok (.ifCond .eq 14, 3) := by decide +kernel
theorem dJ0_isLatin1_aae02_6 : decode cJ0_isLatin1_aae02 6 = .ok (.aload_n 0, 1) := by decide +kernel
theorem dJ0_isLatin1_aae02_7 : decode cJ0_isLatin1_aae02 7 = .ok (.getfield 15, 3) := by decide +kernel
theorem dJ0_isLatin1_aae02_10 : decode cJ0_isLatin1_aae02 10 = .ok (.ifCond .ne 7, 3) := by decide +kernel
theorem dJ0_isLatin1_aae02_13 : decode cJ0_isLatin1_aae02 13 = .ok (.iconst 1, 1) := by decide +kernel
theorem dJ0_isLatin1_aae02_14 : decode cJ0_isLatin1_aae02 14 = .ok (.goto 4, 3) := by decide +kernel
theorem dJ0_isLatin1_aae02_17 : decode cJ0_isLatin1_aae02 17 = .ok (.iconst 0, 1) := by decide +kernel
theorem dJ0_isLatin1_aae02_18 : decode cJ0_isLatin1_aae02 18 = .ok (.ireturn, 1) := by decide +kernel
theorem dJ0_checkIndex_df160_0 : decode cJ0_checkIndex_df160 0 = .ok (.iload_n 0, 1) := by decide +kernel
theorem dJ0_checkIndex_df160_1 : decode cJ0_checkIndex_df160 1 = .ok (.iload_n 1, 1) := by decide +kernel
theorem dJ0_checkIndex_df160_2 : decode cJ0_checkIndex_df160 2 = .ok (.getstatic 1053, 3) := by decide +kernel
theorem dJ0_checkIndex_df160_5 : decode cJ0_checkIndex_df160 5 = .ok (.invokestatic 1059, 3) := by decide +kernel
theorem dJ0_checkIndex_df160_8 : decode cJ0_checkIndex_df160 8 = .ok (.pop, 1) := by decide +kernel
theorem dJ0_checkIndex_df160_9 : decode cJ0_checkIndex_df160 9 = .ok (.return_, 1) := by decide +kernel
theorem dJ1_charAt_3b067_0 : decode cJ1_charAt_3b067 0 = .ok (.iload_n 1, 1) := by decide +kernel
theorem dJ1_charAt_3b067_1 : decode cJ1_charAt_3b067 1 = .ok (.aload_n 0, 1) := by decide +kernel
theorem dJ1_charAt_3b067_2 : decode cJ1_charAt_3b067 2 = .ok (.arraylength, 1) := by decide +kernel
theorem dJ1_charAt_3b067_3 : decode cJ1_charAt_3b067 3 = .ok (.invokestatic 9, 3) := by decide +kernel
theorem dJ1_charAt_3b067_6 : decode cJ1_charAt_3b067 6 = .ok (.aload_n 0, 1) := by decide +kernel
theorem dJ1_charAt_3b067_7 : decode cJ1_charAt_3b067 7 = .ok (.iload_n 1, 1) := by decide +kernel
theorem dJ1_charAt_3b067_8 : decode cJ1_charAt_3b067 8 = .ok (.baload, 1) := by decide +kernel
theorem dJ1_charAt_3b067_9 : decode cJ1_charAt_3b067 9 = .ok (.sipush 255, 3) := by decide +kernel
theorem dJ1_charAt_3b067_12 : decode cJ1_charAt_3b067 12 = .ok (.iand, 1) := by decide +kernel
theorem dJ1_charAt_3b067_13 : decode cJ1_charAt_3b067 13 = .ok (.i2c, 1) := by decide +kernel
theorem dJ1_charAt_3b067_14 : decode cJ1_charAt_3b067 14 = .ok (.ireturn, 1) := by decide +kernel
theorem dJ2_getChar_3b067_0 : decode cJ2_getChar_3b067 0 = .ok (.getstatic 44, 3) := by decide +kernel
theorem dJ2_getChar_3b067_3 : decode cJ2_getChar_3b067 3 = .ok (.ifCond .ne 25, 3) := by decide +kernel
theorem dJ2_getChar_3b067_6 : decode cJ2_getChar_3b067 6 = .ok (.iload_n 1, 1) := by decide +kernel
theorem dJ2_getChar_3b067_7 : decode cJ2_getChar_3b067 7 = .ok (.ifCond .lt 11, 3) := by decide +kernel
theorem dJ2_getChar_3b067_10 : decode cJ2_getChar_3b067 10 = .ok (.iload_n 1, 1) := by decide +kernel
theorem dJ2_getChar_3b067_11 : decode cJ2_getChar_3b067 11 = .ok (.aload_n 0, 1) := by decide +kernel
theorem dJ2_getChar_3b067_12 : decode cJ2_getChar_3b067 12 = .ok (.invokestatic 48, 3) := by decide +kernel
theorem dJ2_getChar_3b067_15 : decode cJ2_getChar_3b067 15 = .ok (.if_icmp .lt 13, 3) := by decide +kernel
theorem dJ2_getChar_3b067_18 : decode cJ2_getChar_3b067 18 = .ok (.new 52, 3) := by decide +kernel
theorem dJ2_getChar_3b067_21 : decode cJ2_getChar_3b067 21 = .ok (.dup, 1) := by decide +kernel
theorem dJ2_getChar_3b067_22 : decode cJ2_getChar_3b067 22 = .ok (.ldc 54, 2) := by decide +kernel
theorem dJ2_getChar_3b067_24 : decode cJ2_getChar_3b067 24 = .ok (.invokespecial 56, 3) := by decide +kernel
theorem dJ2_getChar_3b067_27 : decode cJ2_getChar_3b067 27 = .ok (.athrow, 1) := by decide +kernel
theorem dJ2_getChar_3b067_28 : decode cJ2_getChar_3b067 28 = .ok (.iload_n 1, 1) := by decide +kernel
theorem dJ2_getChar_3b067_29 : decode cJ2_getChar_3b067 29 = .ok (.iconst 1, 1) := by decide +kernel
theorem dJ2_getChar_3b067_30 : decode cJ2_getChar_3b067 30 = .ok (.ishl, 1) := by decide +kernel
theorem dJ2_getChar_3b067_31 : decode cJ2_getChar_3b067 31 = .ok (.istore_n 1, 1) := by decide +kernel
theorem dJ2_getChar_3b067_32 : decode cJ2_getChar_3b067 32 = .ok (.aload_n 0, 1) := by decide +kernel
theorem dJ2_getChar_3b067_33 : decode cJ2_getChar_3b067 33 = .ok (.iload_n 1, 1) := by decide +kernel
theorem dJ2_getChar_3b067_34 : decode cJ2_getChar_3b067 34 = .ok (.iinc 1 1, 3) := by decide +kernel
theorem dJ2_getChar_3b067_37 : decode cJ2_getChar_3b067 37 = .ok (.baload, 1) := by decide +kernel
theorem dJ2_getChar_3b067_38 : decode cJ2_getChar_3b067 38 = .ok (.sipush 255, 3) := by decide +kernel
theorem dJ2_getChar_3b067_41 : decode cJ2_getChar_3b067 41 = .ok (.iand, 1) := by decide +kernel
theorem dJ2_getChar_3b067_42 : decode cJ2_getChar_3b067 42 = .ok (.getstatic 59, 3) := by decide +kernel
theorem dJ2_getChar_3b067_45 : decode cJ2_getChar_3b067 45 = .ok (.ishl, 1) := by decide +kernel
theorem dJ2_getChar_3b067_46 : decode cJ2_getChar_3b067 46 = .ok (.aload_n 0, 1) := by decide +kernel
theorem dJ2_getChar_3b067_47 : decode cJ2_getChar_3b067 47 = .ok (.iload_n 1, 1) := by decide +kernel
theorem dJ2_getChar_3b067_48 : decode cJ2_getChar_3b067 48 = .ok (.baload, 1) := by decide +kernel
theorem dJ2_getChar_3b067_49 : decode cJ2_getChar_3b067 49 = .ok (.sipush 255, 3) := by decide +kernel
theorem dJ2_getChar_3b067_52 : decode cJ2_getChar_3b067 52 = .ok (.iand, 1) := by decide +kernel
theorem dJ2_getChar_3b067_53 : decode cJ2_getChar_3b067 53 = .ok (.getstatic 63, 3) := by decide +kernel
theorem dJ2_getChar_3b067_56 : decode cJ2_getChar_3b067 56 = .ok (.ishl, 1) := by decide +kernel
theorem dJ2_getChar_3b067_57 : decode cJ2_getChar_3b067 57 = .ok (.ior, 1) := by decide +kernel
theorem dJ2_getChar_3b067_58 : decode cJ2_getChar_3b067 58 = .ok (.i2c, 1) := by decide +kernel
theorem dJ2_getChar_3b067_59 : decode cJ2_getChar_3b067 59 = .ok (.ireturn, 1) := by decide +kernel
theorem dJ2_length_9d52b_0 : decode cJ2_length_9d52b 0 = .ok (.aload_n 0, 1) := by decide +kernel
theorem dJ2_length_9d52b_1 : decode cJ2_length_9d52b 1 = .ok (.arraylength, 1) := by decide +kernel
theorem dJ2_length_9d52b_2 : decode cJ2_length_9d52b 2 = .ok (.iconst 1, 1) := by decide +kernel
theorem dJ2_length_9d52b_3 : decode cJ2_length_9d52b 3 = .ok (.ishr, 1) := by decide +kernel
theorem dJ2_length_9d52b_4 : decode cJ2_length_9d52b 4 = .ok (.ireturn, 1) := by decide +kernel
theorem dJ2_charAt_3b067_0 : decode cJ2_charAt_3b067 0 = .ok (.iload_n 1, 1) := by decide +kernel
theorem dJ2_charAt_3b067_1 : decode cJ2_charAt_3b067 1 = .ok (.aload_n 0, 1) := by decide +kernel
theorem dJ2_charAt_3b067_2 : decode cJ2_charAt_3b067 2 = .ok (.invokestatic 67, 3) := by decide +kernel
theorem dJ2_charAt_3b067_5 : decode cJ2_charAt_3b067 5 = .ok (.aload_n 0, 1) := by decide +kernel
theorem dJ2_charAt_3b067_6 : decode cJ2_charAt_3b067 6 = .ok (.iload_n 1, 1) := by decide +kernel
theorem dJ2_charAt_3b067_7 : decode cJ2_charAt_3b067 7 = .ok (.invokestatic 71, 3) := by decide +kernel
theorem dJ2_charAt_3b067_10 : decode cJ2_charAt_3b067 10 = .ok (.ireturn, 1) := by decide +kernel
theorem dJ2_checkIndex_2214a_0 : decode cJ2_checkIndex_2214a 0 = .ok (.iload_n 0, 1) := by decide +kernel
theorem dJ2_checkIndex_2214a_1 : decode cJ2_checkIndex_2214a 1 = .ok (.aload_n 1, 1) := by decide +kernel
theorem dJ2_checkIndex_2214a_2 : decode cJ2_checkIndex_2214a 2 = .ok (.invokestatic 48, 3) := by decide +kernel
theorem dJ2_checkIndex_2214a_5 : decode cJ2_checkIndex_2214a 5 = .ok (.invokestatic 414, 3) := by decide +kernel
theorem dJ2_checkIndex_2214a_8 : decode cJ2_checkIndex_2214a 8 = .ok (.return_, 1) := by decide +kernel
theorem dJxa1e45_init_da8c8_0 : decode cJxa1e45_init_da8c8 0 = .ok (.aload_n 0, 1) := by decide +kernel
theorem dJxa1e45_init_da8c8_1 : decode cJxa1e45_init_da8c8 1 = .ok (.invokespecial 1, 3) := by decide +kernel
theorem dJxa1e45_init_da8c8_4 : decode cJxa1e45_init_da8c8 4 = .ok (.return_, 1) := by decide +kernel
theorem dJxc12de_init_da8c8_0 : decode cJxc12de_init_da8c8 0 = .ok (.aload_n 0, 1) := by decide +kernel
theorem dJxc12de_init_da8c8_1 : decode cJxc12de_init_da8c8 1 = .ok (.invokespecial 1, 3) := by decide +kernel
theorem dJxc12de_init_da8c8_4 : decode cJxc12de_init_da8c8 4 = .ok (.aload_n 0, 1) := by decide +kernel
theorem dJxc12de_init_da8c8_5 : decode cJxc12de_init_da8c8 5 = .ok (.iconst 0, 1) := by decide +kernel
theorem dJxc12de_init_da8c8_6 : decode cJxc12de_init_da8c8 6 = .ok (.putfield 7, 3) := by decide +kernel
theorem dJxc12de_init_da8c8_9 : decode cJxc12de_init_da8c8 9 = .ok (.return_, 1) := by decide +kernel
theorem dJx4a65c_init_da8c8_0 : decode cJx4a65c_init_da8c8 0 = .ok (.aload_n 0, 1) := by decide +kernel
theorem dJx4a65c_init_da8c8_1 : decode cJx4a65c_init_da8c8 1 = .ok (.invokespecial 1, 3) := by decide +kernel
theorem dJx4a65c_init_da8c8_4 : decode cJx4a65c_init_da8c8 4 = .ok (.aload_n 0, 1) := by decide +kernel
theorem dJx4a65c_init_da8c8_5 : decode cJx4a65c_init_da8c8 5 = .ok (.getstatic 39, 3) := by decide +kernel
theorem dJx4a65c_init_da8c8_8 : decode cJx4a65c_init_da8c8 8 = .ok (.putfield 9, 3) := by decide +kernel
theorem dJx4a65c_init_da8c8_11 : decode cJx4a65c_init_da8c8 11 = .ok (.return_, 1) := by decide +kernel
theorem dJx4a65c_grow_92f84_0 : decode cJx4a65c_grow_92f84 0 = .ok (.aload_n 0, 1) := by decide +kernel
theorem dJx4a65c_grow_92f84_1 : decode cJx4a65c_grow_92f84 1 = .ok (.getfield 9, 3) := by decide +kernel
theorem dJx4a65c_grow_92f84_4 : decode cJx4a65c_grow_92f84 4 = .ok (.arraylength, 1) := by decide +kernel
theorem dJx4a65c_grow_92f84_5 : decode cJx4a65c_grow_92f84 5 = .ok (.istore_n 2, 1) := by decide +kernel
theorem dJx4a65c_grow_92f84_6 : decode cJx4a65c_grow_92f84 6 = .ok (.iload_n 2, 1) := by decide +kernel
theorem dJx4a65c_grow_92f84_7 : decode cJx4a65c_grow_92f84 7 = .ok (.ifCond .gt 13, 3) := by decide +kernel
theorem dJx4a65c_grow_92f84_10 : decode cJx4a65c_grow_92f84 10 = .ok (.aload_n 0, 1) := by decide +kernel
theorem dJx4a65c_grow_92f84_11 : decode cJx4a65c_grow_92f84 11 = .ok (.getfield 9, 3) := by decide +kernel
theorem dJx4a65c_grow_92f84_14 : decode cJx4a65c_grow_92f84 14 = .ok (.getstatic 39, 3) := by decide +kernel
theorem dJx4a65c_grow_92f84_17 : decode cJx4a65c_grow_92f84 17 = .ok (.if_acmp .eq 28, 3) := by decide +kernel
theorem dJx4a65c_grow_92f84_20 : decode cJx4a65c_grow_92f84 20 = .ok (.iload_n 2, 1) := by decide +kernel
theorem dJx4a65c_grow_92f84_21 : decode cJx4a65c_grow_92f84 21 = .ok (.iload_n 1, 1) := by decide +kernel
theorem dJx4a65c_grow_92f84_22 : decode cJx4a65c_grow_92f84 22 = .ok (.iload_n 2, 1) := by decide +kernel
theorem dJx4a65c_grow_92f84_23 : decode cJx4a65c_grow_92f84 23 = .ok (.isub, 1) := by decide +kernel
theorem dJx4a65c_grow_92f84_24 : decode cJx4a65c_grow_92f84 24 = .ok (.iload_n 2, 1) := by decide +kernel
theorem dJx4a65c_grow_92f84_25 : decode cJx4a65c_grow_92f84 25 = .ok (.iconst 1, 1) := by decide +kernel
theorem dJx4a65c_grow_92f84_26 : decode cJx4a65c_grow_92f84 26 = .ok (.ishr, 1) := by decide +kernel
theorem dJx4a65c_grow_92f84_27 : decode cJx4a65c_grow_92f84 27 = .ok (.invokestatic 73, 3) := by decide +kernel
theorem dJx4a65c_grow_92f84_30 : decode cJx4a65c_grow_92f84 30 = .ok (.istore_n 3, 1) := by decide +kernel
theorem dJx4a65c_grow_92f84_31 : decode cJx4a65c_grow_92f84 31 = .ok (.aload_n 0, 1) := by decide +kernel
theorem dJx4a65c_grow_92f84_32 : decode cJx4a65c_grow_92f84 32 = .ok (.aload_n 0, 1) := by decide +kernel
theorem dJx4a65c_grow_92f84_33 : decode cJx4a65c_grow_92f84 33 = .ok (.getfield 9, 3) := by decide +kernel
theorem dJx4a65c_grow_92f84_36 : decode cJx4a65c_grow_92f84 36 = .ok (.iload_n 3, 1) := by decide +kernel
theorem dJx4a65c_grow_92f84_37 : decode cJx4a65c_grow_92f84 37 = .ok (.invokestatic 66, 3) := by decide +kernel
theorem dJx4a65c_grow_92f84_40 : decode cJx4a65c_grow_92f84 40 = .ok (.dup_x1, 1) := by decide +kernel
theorem dJx4a65c_grow_92f84_41 : decode cJx4a65c_grow_92f84 41 = .ok (.putfield 9, 3) := by decide +kernel
theorem dJx4a65c_grow_92f84_44 : decode cJx4a65c_grow_92f84 44 = .ok (.areturn, 1) := by decide +kernel
theorem dJx4a65c_grow_92f84_45 : decode cJx4a65c_grow_92f84 45 = .ok (.aload_n 0, 1) := by decide +kernel
theorem dJx4a65c_grow_92f84_46 : decode cJx4a65c_grow_92f84 46 = .ok (.bipush 10, 2) := by decide +kernel
theorem dJx4a65c_grow_92f84_48 : decode cJx4a65c_grow_92f84 48 = .ok (.iload_n 1, 1) := by decide +kernel
theorem dJx4a65c_grow_92f84_49 : decode cJx4a65c_grow_92f84 49 = .ok (.invokestatic 79, 3) := by decide +kernel
theorem dJx4a65c_grow_92f84_52 : decode cJx4a65c_grow_92f84 52 = .ok (.anewarray 7, 3) := by decide +kernel
theorem dJx4a65c_grow_92f84_55 : decode cJx4a65c_grow_92f84 55 = .ok (.dup_x1, 1) := by decide +kernel
theorem dJx4a65c_grow_92f84_56 : decode cJx4a65c_grow_92f84 56 = .ok (.putfield 9, 3) := by decide +kernel
theorem dJx4a65c_grow_92f84_59 : decode cJx4a65c_grow_92f84 59 = .ok (.areturn, 1) := by decide +kernel
theorem dJx4a65c_grow_d5877_0 : decode cJx4a65c_grow_d5877 0 = .ok (.aload_n 0, 1) := by decide +kernel
theorem dJx4a65c_grow_d5877_1 : decode cJx4a65c_grow_d5877 1 = .ok (.aload_n 0, 1) := by decide +kernel
theorem dJx4a65c_grow_d5877_2 : decode cJx4a65c_grow_d5877 2 = .ok (.getfield 48, 3) := by decide +kernel
theorem dJx4a65c_grow_d5877_5 : decode cJx4a65c_grow_d5877 5 = .ok (.iconst 1, 1) := by decide +kernel
theorem dJx4a65c_grow_d5877_6 : decode cJx4a65c_grow_d5877 6 = .ok (.iadd, 1) := by decide +kernel
theorem dJx4a65c_grow_d5877_7 : decode cJx4a65c_grow_d5877 7 = .ok (.invokevirtual 69, 3) := by decide +kernel
theorem dJx4a65c_grow_d5877_10 : decode cJx4a65c_grow_d5877 10 = .ok (.areturn, 1) := by decide +kernel
theorem dJx4a65c_size_8abf5_0 : decode cJx4a65c_size_8abf5 0 = .ok (.aload_n 0, 1) := by decide +kernel
theorem dJx4a65c_size_8abf5_1 : decode cJx4a65c_size_8abf5 1 = .ok (.getfield 48, 3) := by decide +kernel
theorem dJx4a65c_size_8abf5_4 : decode cJx4a65c_size_8abf5 4 = .ok (.ireturn, 1) := by decide +kernel
theorem dJx4a65c_elementData_915e3_0 : decode cJx4a65c_elementData_915e3 0 = .ok (.aload_n 0, 1) := by decide +kernel
theorem dJx4a65c_elementData_915e3_1 : decode cJx4a65c_elementData_915e3 1 = .ok (.getfield 9, 3) := by decide +kernel
theorem dJx4a65c_elementData_915e3_4 : decode cJx4a65c_elementData_915e3 4 = .ok (.iload_n 1, 1) := by decide +kernel
theorem dJx4a65c_elementData_915e3_5 : decode cJx4a65c_elementData_915e3 5 = .ok (.aaload, 1) := by decide +kernel
theorem dJx4a65c_elementData_915e3_6 : decode cJx4a65c_elementData_915e3 6 = .ok (.areturn, 1) := by decide +kernel
theorem dJx4a65c_get_915e3_0 : decode cJx4a65c_get_915e3 0 = .ok (.iload_n 1, 1) := by decide +kernel
theorem dJx4a65c_get_915e3_1 : decode cJx4a65c_get_915e3 1 = .ok (.aload_n 0, 1) := by decide +kernel
theorem dJx4a65c_get_915e3_2 : decode cJx4a65c_get_915e3 2 = .ok (.getfield 48, 3) := by decide +kernel
theorem dJx4a65c_get_915e3_5 : decode cJx4a65c_get_915e3 5 = .ok (.invokestatic 118, 3) := by decide +kernel
theorem dJx4a65c_get_915e3_8 : decode cJx4a65c_get_915e3 8 = .ok (.pop, 1) := by decide +kernel
theorem dJx4a65c_get_915e3_9 : decode cJx4a65c_get_915e3 9 = .ok (.aload_n 0, 1) := by decide +kernel
theorem dJx4a65c_get_915e3_10 : decode cJx4a65c_get_915e3 10 = .ok (.iload_n 1, 1) := by decide +kernel
theorem dJx4a65c_get_915e3_11 : decode cJx4a65c_get_915e3 11 = .ok (.invokevirtual 123, 3) := by decide +kernel
theorem dJx4a65c_get_915e3_14 : decode cJx4a65c_get_915e3 14 = .ok (.areturn, 1) := by decide +kernel
theorem dJx4a65c_add_72be8_0 : decode cJx4a65c_add_72be8 0 = .ok (.iload_n 3, 1) := by decide +kernel
theorem dJx4a65c_add_72be8_1 : decode cJx4a65c_add_72be8 1 = .ok (.aload_n 2, 1) := by decide +kernel
theorem dJx4a65c_add_72be8_2 : decode cJx4a65c_add_72be8 2 = .ok (.arraylength, 1) := by decide +kernel
theorem dJx4a65c_add_72be8_3 : decode cJx4a65c_add_72be8 3 = .ok (.if_icmp .ne 8, 3) := by decide +kernel
theorem dJx4a65c_add_72be8_6 : decode cJx4a65c_add_72be8 6 = .ok (.aload_n 0, 1) := by decide +kernel
theorem dJx4a65c_add_72be8_7 : decode cJx4a65c_add_72be8 7 = .ok (.invokevirtual 129, 3) := by decide +kernel
theorem dJx4a65c_add_72be8_10 : decode cJx4a65c_add_72be8 10 = .ok (.astore_n 2, 1) := by decide +kernel
theorem dJx4a65c_add_72be8_11 : decode cJx4a65c_add_72be8 11 = .ok (.aload_n 2, 1) := by decide +kernel
theorem dJx4a65c_add_72be8_12 : decode cJx4a65c_add_72be8 12 = .ok (.iload_n 3, 1) := by decide +kernel
theorem dJx4a65c_add_72be8_13 : decode cJx4a65c_add_72be8 13 = .ok (.aload_n 1, 1) := by decide +kernel
theorem dJx4a65c_add_72be8_14 : decode cJx4a65c_add_72be8 14 = .ok (.aastore, 1) := by decide +kernel
theorem dJx4a65c_add_72be8_15 : decode cJx4a65c_add_72be8 15 = .ok (.aload_n 0, 1) := by decide +kernel
theorem dJx4a65c_add_72be8_16 : decode cJx4a65c_add_72be8 16 = .ok (.iload_n 3, 1) := by decide +kernel
theorem dJx4a65c_add_72be8_17 : decode cJx4a65c_add_72be8 17 = .ok (.iconst 1, 1) := by decide +kernel
theorem dJx4a65c_add_72be8_18 : decode cJx4a65c_add_72be8 18 = .ok (.iadd, 1) := by decide +kernel
theorem dJx4a65c_add_72be8_19 : decode cJx4a65c_add_72be8 19 = .ok (.putfield 48, 3) := by decide +kernel
theorem dJx4a65c_add_72be8_22 : decode cJx4a65c_add_72be8 22 = .ok (.return_, 1) := by decide +kernel
theorem dJx4a65c_add_9ea2d_0 : decode cJx4a65c_add_9ea2d 0 = .ok (.aload_n 0, 1) := by decide +kernel
theorem dJx4a65c_add_9ea2d_1 : decode cJx4a65c_add_9ea2d 1 = .ok (.dup, 1) := by decide +kernel
theorem dJx4a65c_add_9ea2d_2 : decode cJx4a65c_add_9ea2d 2 = .ok (.getfield 63, 3) := by decide +kernel
theorem dJx4a65c_add_9ea2d_5 : decode cJx4a65c_add_9ea2d 5 = .ok (.iconst 1, 1) := by decide +kernel
theorem dJx4a65c_add_9ea2d_6 : decode cJx4a65c_add_9ea2d 6 = .ok (.iadd, 1) := by decide +kernel
theorem dJx4a65c_add_9ea2d_7 : decode cJx4a65c_add_9ea2d 7 = .ok (.putfield 63, 3) := by decide +kernel
theorem dJx4a65c_add_9ea2d_10 : decode cJx4a65c_add_9ea2d 10 = .ok (.aload_n 0, 1) := by decide +kernel
theorem dJx4a65c_add_9ea2d_11 : decode cJx4a65c_add_9ea2d 11 = .ok (.aload_n 1, 1) := by decide +kernel
theorem dJx4a65c_add_9ea2d_12 : decode cJx4a65c_add_9ea2d 12 = .ok (.aload_n 0, 1) := by decide +kernel
theorem dJx4a65c_add_9ea2d_13 : decode cJx4a65c_add_9ea2d 13 = .ok (.getfield 9, 3) := by decide +kernel
theorem dJx4a65c_add_9ea2d_16 : decode cJx4a65c_add_9ea2d 16 = .ok (.aload_n 0, 1) := by decide +kernel
theorem dJx4a65c_add_9ea2d_17 : decode cJx4a65c_add_9ea2d 17 = .ok (.getfield 48, 3) := by decide +kernel
theorem dJx4a65c_add_9ea2d_20 : decode cJx4a65c_add_9ea2d 20 = .ok (.invokevirtual 131, 3) := by decide +kernel
theorem dJx4a65c_add_9ea2d_23 : decode cJx4a65c_add_9ea2d 23 = .ok (.iconst 1, 1) := by decide +kernel
theorem dJx4a65c_add_9ea2d_24 : decode cJx4a65c_add_9ea2d 24 = .ok (.ireturn, 1) := by decide +kernel
theorem dJ7_fill_53178_0 : decode cJ7_fill_53178 0 = .ok (.iconst 0, 1) := by decide +kernel
theorem dJ7_fill_53178_1 : decode cJ7_fill_53178 1 = .ok (.istore_n 2, 1) := by decide +kernel
theorem dJ7_fill_53178_2 : decode cJ7_fill_53178 2 = .ok (.aload_n 0, 1) := by decide +kernel
theorem dJ7_fill_53178_3 : decode cJ7_fill_53178 3 = .ok (.arraylength, 1) := by decide +kernel
theorem dJ7_fill_53178_4 : decode cJ7_fill_53178 4 = .ok (.istore_n 3, 1) := by decide +kernel
theorem dJ7_fill_53178_5 : decode cJ7_fill_53178 5 = .ok (.iload_n 2, 1) := by decide +kernel
theorem dJ7_fill_53178_6 : decode cJ7_fill_53178 6 = .ok (.iload_n 3, 1) := by decide +kernel
theorem dJ7_fill_53178_7 : decode cJ7_fill_53178 7 = .ok (.if_icmp .ge 13, 3) := by decide +kernel
theorem dJ7_fill_53178_10 : decode cJ7_fill_53178 10 = .ok (.aload_n 0, 1) := by decide +kernel
theorem dJ7_fill_53178_11 : decode cJ7_fill_53178 11 = .ok (.iload_n 2, 1) := by decide +kernel
theorem dJ7_fill_53178_12 : decode cJ7_fill_53178 12 = .ok (.iload_n 1, 1) := by decide +kernel
theorem dJ7_fill_53178_13 : decode cJ7_fill_53178 13 = .ok (.iastore, 1) := by decide +kernel
theorem dJ7_fill_53178_14 : decode cJ7_fill_53178 14 = .ok (.iinc 2 1, 3) := by decide +kernel
theorem dJ7_fill_53178_17 : decode cJ7_fill_53178 17 = .ok (.goto (-12), 3) := by decide +kernel
theorem dJ7_fill_53178_20 : decode cJ7_fill_53178 20 = .ok (.return_, 1) := by decide +kernel
theorem dJ7_copyOf_1904c_0 : decode cJ7_copyOf_1904c 0 = .ok (.aload_n 0, 1) := by decide +kernel
theorem dJ7_copyOf_1904c_1 : decode cJ7_copyOf_1904c 1 = .ok (.iload_n 1, 1) := by decide +kernel
theorem dJ7_copyOf_1904c_2 : decode cJ7_copyOf_1904c 2 = .ok (.aload_n 0, 1) := by decide +kernel
theorem dJ7_copyOf_1904c_3 : decode cJ7_copyOf_1904c 3 = .ok (.invokevirtual 86, 3) := by decide +kernel
theorem dJ7_copyOf_1904c_6 : decode cJ7_copyOf_1904c 6 = .ok (.invokestatic 300, 3) := by decide +kernel
theorem dJ7_copyOf_1904c_9 : decode cJ7_copyOf_1904c 9 = .ok (.areturn, 1) := by decide +kernel
theorem dJ7_copyOf_6403c_0 : decode cJ7_copyOf_6403c 0 = .ok (.aload_n 2, 1) := by decide +kernel
theorem dJ7_copyOf_6403c_1 : decode cJ7_copyOf_6403c 1 = .ok (.ldc 110, 2) := by decide +kernel
theorem dJ7_copyOf_6403c_3 : decode cJ7_copyOf_6403c 3 = .ok (.if_acmp .ne 10, 3) := by decide +kernel
theorem dJ7_copyOf_6403c_6 : decode cJ7_copyOf_6403c 6 = .ok (.iload_n 1, 1) := by decide +kernel
theorem dJ7_copyOf_6403c_7 : decode cJ7_copyOf_6403c 7 = .ok (.anewarray 2, 3) := by decide +kernel
theorem dJ7_copyOf_6403c_10 : decode cJ7_copyOf_6403c 10 = .ok (.goto 14, 3) := by decide +kernel
theorem dJ7_copyOf_6403c_13 : decode cJ7_copyOf_6403c 13 = .ok (.aload_n 2, 1) := by decide +kernel
theorem dJ7_copyOf_6403c_14 : decode cJ7_copyOf_6403c 14 = .ok (.invokevirtual 90, 3) := by decide +kernel
theorem dJ7_copyOf_6403c_17 : decode cJ7_copyOf_6403c 17 = .ok (.iload_n 1, 1) := by decide +kernel
theorem dJ7_copyOf_6403c_18 : decode cJ7_copyOf_6403c 18 = .ok (.invokestatic 95, 3) := by decide +kernel
theorem dJ7_copyOf_6403c_21 : decode cJ7_copyOf_6403c 21 = .ok (.checkcast 110, 3) := by decide +kernel
theorem dJ7_copyOf_6403c_24 : decode cJ7_copyOf_6403c 24 = .ok (.astore_n 3, 1) := by decide +kernel
theorem dJ7_copyOf_6403c_25 : decode cJ7_copyOf_6403c 25 = .ok (.aload_n 0, 1) := by decide +kernel
theorem dJ7_copyOf_6403c_26 : decode cJ7_copyOf_6403c 26 = .ok (.iconst 0, 1) := by decide +kernel
theorem dJ7_copyOf_6403c_27 : decode cJ7_copyOf_6403c 27 = .ok (.aload_n 3, 1) := by decide +kernel
theorem dJ7_copyOf_6403c_28 : decode cJ7_copyOf_6403c 28 = .ok (.iconst 0, 1) := by decide +kernel
theorem dJ7_copyOf_6403c_29 : decode cJ7_copyOf_6403c 29 = .ok (.aload_n 0, 1) := by decide +kernel
theorem dJ7_copyOf_6403c_30 : decode cJ7_copyOf_6403c 30 = .ok (.arraylength, 1) := by decide +kernel
theorem dJ7_copyOf_6403c_31 : decode cJ7_copyOf_6403c 31 = .ok (.iload_n 1, 1) := by decide +kernel
theorem dJ7_copyOf_6403c_32 : decode cJ7_copyOf_6403c 32 = .ok (.invokestatic 304, 3) := by decide +kernel
theorem dJ7_copyOf_6403c_35 : decode cJ7_copyOf_6403c 35 = .ok (.invokestatic 150, 3) := by decide +kernel
theorem dJ7_copyOf_6403c_38 : decode cJ7_copyOf_6403c 38 = .ok (.aload_n 3, 1) := by decide +kernel
theorem dJ7_copyOf_6403c_39 : decode cJ7_copyOf_6403c 39 = .ok (.areturn, 1) := by decide +kernel
theorem dJ7_copyOf_59c91_0 : decode cJ7_copyOf_59c91 0 = .ok (.iload_n 1, 1) := by decide +kernel
theorem dJ7_copyOf_59c91_1 : decode cJ7_copyOf_59c91 1 = .ok (.aload_n 0, 1) := by decide +kernel
theorem dJ7_copyOf_59c91_2 : decode cJ7_copyOf_59c91 2 = .ok (.arraylength, 1) := by decide +kernel
theorem dJ7_copyOf_59c91_3 : decode cJ7_copyOf_59c91 3 = .ok (.if_icmp .ne 11, 3) := by decide +kernel
theorem dJ7_copyOf_59c91_6 : decode cJ7_copyOf_59c91 6 = .ok (.aload_n 0, 1) := by decide +kernel
theorem dJ7_copyOf_59c91_7 : decode cJ7_copyOf_59c91 7 = .ok (.invokevirtual 316, 3) := by decide +kernel
theorem dJ7_copyOf_59c91_10 : decode cJ7_copyOf_59c91 10 = .ok (.checkcast 317, 3) := by decide +kernel
theorem dJ7_copyOf_59c91_13 : decode cJ7_copyOf_59c91 13 = .ok (.areturn, 1) := by decide +kernel
theorem dJ7_copyOf_59c91_14 : decode cJ7_copyOf_59c91 14 = .ok (.iload_n 1, 1) := by decide +kernel
theorem dJ7_copyOf_59c91_15 : decode cJ7_copyOf_59c91 15 = .ok (.newarray .int, 2) := by decide +kernel
theorem dJ7_copyOf_59c91_17 : decode cJ7_copyOf_59c91 17 = .ok (.astore_n 2, 1) := by decide +kernel
theorem dJ7_copyOf_59c91_18 : decode cJ7_copyOf_59c91 18 = .ok (.aload_n 0, 1) := by decide +kernel
theorem dJ7_copyOf_59c91_19 : decode cJ7_copyOf_59c91 19 = .ok (.iconst 0, 1) := by decide +kernel
theorem dJ7_copyOf_59c91_20 : decode cJ7_copyOf_59c91 20 = .ok (.aload_n 2, 1) := by decide +kernel
theorem dJ7_copyOf_59c91_21 : decode cJ7_copyOf_59c91 21 = .ok (.iconst 0, 1) := by decide +kernel
theorem dJ7_copyOf_59c91_22 : decode cJ7_copyOf_59c91 22 = .ok (.aload_n 0, 1) := by decide +kernel
theorem dJ7_copyOf_59c91_23 : decode cJ7_copyOf_59c91 23 = .ok (.arraylength, 1) := by decide +kernel
theorem dJ7_copyOf_59c91_24 : decode cJ7_copyOf_59c91 24 = .ok (.iload_n 1, 1) := by decide +kernel
theorem dJ7_copyOf_59c91_25 : decode cJ7_copyOf_59c91 25 = .ok (.invokestatic 304, 3) := by decide +kernel
theorem dJ7_copyOf_59c91_28 : decode cJ7_copyOf_59c91 28 = .ok (.invokestatic 150, 3) := by decide +kernel
theorem dJ7_copyOf_59c91_31 : decode cJ7_copyOf_59c91 31 = .ok (.aload_n 2, 1) := by decide +kernel
theorem dJ7_copyOf_59c91_32 : decode cJ7_copyOf_59c91 32 = .ok (.areturn, 1) := by decide +kernel
theorem dJ15_checkIndex_7cf53_0 : decode cJ15_checkIndex_7cf53 0 = .ok (.iload_n 0, 1) := by decide +kernel
theorem dJ15_checkIndex_7cf53_1 : decode cJ15_checkIndex_7cf53 1 = .ok (.iload_n 1, 1) := by decide +kernel
theorem dJ15_checkIndex_7cf53_2 : decode cJ15_checkIndex_7cf53 2 = .ok (.aconst_null, 1) := by decide +kernel
theorem dJ15_checkIndex_7cf53_3 : decode cJ15_checkIndex_7cf53 3 = .ok (.invokestatic 105, 3) := by decide +kernel
theorem dJ15_checkIndex_7cf53_6 : decode cJ15_checkIndex_7cf53 6 = .ok (.ireturn, 1) := by decide +kernel
theorem dJ8_newLength_cabcc_0 : decode cJ8_newLength_cabcc 0 = .ok (.iload_n 0, 1) := by decide +kernel
theorem dJ8_newLength_cabcc_1 : decode cJ8_newLength_cabcc 1 = .ok (.iload_n 1, 1) := by decide +kernel
theorem dJ8_newLength_cabcc_2 : decode cJ8_newLength_cabcc 2 = .ok (.iload_n 2, 1) := by decide +kernel
theorem dJ8_newLength_cabcc_3 : decode cJ8_newLength_cabcc 3 = .ok (.invokestatic 194, 3) := by decide +kernel
theorem dJ8_newLength_cabcc_6 : decode cJ8_newLength_cabcc 6 = .ok (.iadd, 1) := by decide +kernel
theorem dJ8_newLength_cabcc_7 : decode cJ8_newLength_cabcc 7 = .ok (.istore_n 3, 1) := by decide +kernel
theorem dJ8_newLength_cabcc_8 : decode cJ8_newLength_cabcc 8 = .ok (.iconst 0, 1) := by decide +kernel
theorem dJ8_newLength_cabcc_9 : decode cJ8_newLength_cabcc 9 = .ok (.iload_n 3, 1) := by decide +kernel
theorem dJ8_newLength_cabcc_10 : decode cJ8_newLength_cabcc 10 = .ok (.if_icmp .ge 11, 3) := by decide +kernel
theorem dJ8_newLength_cabcc_13 : decode cJ8_newLength_cabcc 13 = .ok (.iload_n 3, 1) := by decide +kernel
theorem dJ8_newLength_cabcc_14 : decode cJ8_newLength_cabcc 14 = .ok (.ldc 200, 2) := by decide +kernel
theorem dJ8_newLength_cabcc_16 : decode cJ8_newLength_cabcc 16 = .ok (.if_icmp .gt 5, 3) := by decide +kernel
theorem dJ8_newLength_cabcc_19 : decode cJ8_newLength_cabcc 19 = .ok (.iload_n 3, 1) := by decide +kernel
theorem dJ8_newLength_cabcc_20 : decode cJ8_newLength_cabcc 20 = .ok (.ireturn, 1) := by decide +kernel
theorem dJ8_newLength_cabcc_21 : decode cJ8_newLength_cabcc 21 = .ok (.iload_n 0, 1) := by decide +kernel
theorem dJ8_newLength_cabcc_22 : decode cJ8_newLength_cabcc 22 = .ok (.iload_n 1, 1) := by decide +kernel
theorem dJ8_newLength_cabcc_23 : decode cJ8_newLength_cabcc 23 = .ok (.invokestatic 201, 3) := by decide +kernel
theorem dJ8_newLength_cabcc_26 : decode cJ8_newLength_cabcc 26 = .ok (.ireturn, 1) := by decide +kernel
theorem dJ8_hugeLength_7cf53_0 : decode cJ8_hugeLength_7cf53 0 = .ok (.iload_n 0, 1) := by decide +kernel
theorem dJ8_hugeLength_7cf53_1 : decode cJ8_hugeLength_7cf53 1 = .ok (.iload_n 1, 1) := by decide +kernel
theorem dJ8_hugeLength_7cf53_2 : decode cJ8_hugeLength_7cf53 2 = .ok (.iadd, 1) := by decide +kernel
theorem dJ8_hugeLength_7cf53_3 : decode cJ8_hugeLength_7cf53 3 = .ok (.istore_n 2, 1) := by decide +kernel
theorem dJ8_hugeLength_7cf53_4 : decode cJ8_hugeLength_7cf53 4 = .ok (.iload_n 2, 1) := by decide +kernel
theorem dJ8_hugeLength_7cf53_5 : decode cJ8_hugeLength_7cf53 5 = .ok (.ifCond .ge 44, 3) := by decide +kernel
theorem dJ8_hugeLength_7cf53_8 : decode cJ8_hugeLength_7cf53 8 = .ok (.new 204, 3) := by decide +kernel
theorem dJ8_hugeLength_7cf53_11 : decode cJ8_hugeLength_7cf53 11 = .ok (.dup, 1) := by decide +kernel
theorem dJ8_hugeLength_7cf53_12 : decode cJ8_hugeLength_7cf53 12 = .ok (.new 89, 3) := by decide +kernel
theorem dJ8_hugeLength_7cf53_15 : decode cJ8_hugeLength_7cf53 15 = .ok (.dup, 1) := by decide +kernel
theorem dJ8_hugeLength_7cf53_16 : decode cJ8_hugeLength_7cf53 16 = .ok (.invokespecial 91, 3) := by decide +kernel
theorem dJ8_hugeLength_7cf53_19 : decode cJ8_hugeLength_7cf53 19 = .ok (.ldc 206, 2) := by decide +kernel
theorem dJ8_hugeLength_7cf53_21 : decode cJ8_hugeLength_7cf53 21 = .ok (.invokevirtual 94, 3) := by decide +kernel
theorem dJ8_hugeLength_7cf53_24 : decode cJ8_hugeLength_7cf53 24 = .ok (.iload_n 0, 1) := by decide +kernel
theorem dJ8_hugeLength_7cf53_25 : decode cJ8_hugeLength_7cf53 25 = .ok (.invokevirtual 98, 3) := by decide +kernel
theorem dJ8_hugeLength_7cf53_28 : decode cJ8_hugeLength_7cf53 28 = .ok (.ldc 208, 2) := by decide +kernel
theorem dJ8_hugeLength_7cf53_30 : decode cJ8_hugeLength_7cf53 30 = .ok (.invokevirtual 94, 3) := by decide +kernel
theorem dJ8_hugeLength_7cf53_33 : decode cJ8_hugeLength_7cf53 33 = .ok (.iload_n 1, 1) := by decide +kernel
theorem dJ8_hugeLength_7cf53_34 : decode cJ8_hugeLength_7cf53 34 = .ok (.invokevirtual 98, 3) := by decide +kernel
theorem dJ8_hugeLength_7cf53_37 : decode cJ8_hugeLength_7cf53 37 = .ok (.ldc 210, 2) := by decide +kernel
theorem dJ8_hugeLength_7cf53_39 : decode cJ8_hugeLength_7cf53 39 = .ok (.invokevirtual 94, 3) := by decide +kernel
theorem dJ8_hugeLength_7cf53_42 : decode cJ8_hugeLength_7cf53 42 = .ok (.invokevirtual 101, 3) := by decide +kernel
theorem dJ8_hugeLength_7cf53_45 : decode cJ8_hugeLength_7cf53 45 = .ok (.invokespecial 212, 3) := by decide +kernel
theorem dJ8_hugeLength_7cf53_48 : decode cJ8_hugeLength_7cf53 48 = .ok (.athrow, 1) := by decide +kernel
theorem dJ8_hugeLength_7cf53_49 : decode cJ8_hugeLength_7cf53 49 = .ok (.iload_n 2, 1) := by decide +kernel
theorem dJ8_hugeLength_7cf53_50 : decode cJ8_hugeLength_7cf53 50 = .ok (.ldc 200, 2) := by decide +kernel
theorem dJ8_hugeLength_7cf53_52 : decode cJ8_hugeLength_7cf53 52 = .ok (.if_icmp .gt 6, 3) := by decide +kernel
theorem dJ8_hugeLength_7cf53_55 : decode cJ8_hugeLength_7cf53 55 = .ok (.ldc 200, 2) := by decide +kernel
theorem dJ8_hugeLength_7cf53_57 : decode cJ8_hugeLength_7cf53 57 = .ok (.ireturn, 1) := by decide +kernel
theorem dJ8_hugeLength_7cf53_58 : decode cJ8_hugeLength_7cf53 58 = .ok (.iload_n 2, 1) := by decide +kernel
theorem dJ8_hugeLength_7cf53_59 : decode cJ8_hugeLength_7cf53 59 = .ok (.ireturn, 1) := by decide +kernel
theorem dJ3_checkIndex_8e157_0 : decode cJ3_checkIndex_8e157 0 = .ok (.iload_n 0, 1) := by decide +kernel
theorem dJ3_checkIndex_8e157_1 : decode cJ3_checkIndex_8e157 1 = .ok (.ifCond .lt 8, 3) := by decide +kernel
theorem dJ3_checkIndex_8e157_4 : decode cJ3_checkIndex_8e157 4 = .ok (.iload_n 0, 1) := by decide +kernel
theorem dJ3_checkIndex_8e157_5 : decode cJ3_checkIndex_8e157 5 = .ok (.iload_n 1, 1) := by decide +kernel
theorem dJ3_checkIndex_8e157_6 : decode cJ3_checkIndex_8e157 6 = .ok (.if_icmp .lt 10, 3) := by decide +kernel
theorem dJ3_checkIndex_8e157_9 : decode cJ3_checkIndex_8e157 9 = .ok (.aload_n 2, 1) := by decide +kernel
theorem dJ3_checkIndex_8e157_10 : decode cJ3_checkIndex_8e157 10 = .ok (.iload_n 0, 1) := by decide +kernel
theorem dJ3_checkIndex_8e157_11 : decode cJ3_checkIndex_8e157 11 = .ok (.iload_n 1, 1) := by decide +kernel
theorem dJ3_checkIndex_8e157_12 : decode cJ3_checkIndex_8e157 12 = .ok (.invokestatic 95, 3) := by decide +kernel
theorem dJ3_checkIndex_8e157_15 : decode cJ3_checkIndex_8e157 15 = .ok (.athrow, 1) := by decide +kernel
theorem dJ3_checkIndex_8e157_16 : decode cJ3_checkIndex_8e157 16 = .ok (.iload_n 0, 1) := by decide +kernel
theorem dJ3_checkIndex_8e157_17 : decode cJ3_checkIndex_8e157 17 = .ok (.ireturn, 1) := by decide +kernel
