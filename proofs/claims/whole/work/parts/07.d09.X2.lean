theorem dX2_addSums_44 : decode cX2_addSums 44 = .ok (.iload_n 3, 1) := by decide +kernel
theorem dX2_addSums_45 : decode cX2_addSums 45 = .ok (.iaload, 1) := by decide +kernel
theorem dX2_addSums_46 : decode cX2_addSums 46 = .ok (.iload 6, 2) := by decide +kernel
theorem dX2_addSums_48 : decode cX2_addSums 48 = .ok (.iadd, 1) := by decide +kernel
theorem dX2_addSums_49 : decode cX2_addSums 49 = .ok (.if_icmp .gt 66, 3) := by decide +kernel
theorem dX2_addSums_52 : decode cX2_addSums 52 = .ok (.aload_n 0, 1) := by decide +kernel
theorem dX2_addSums_53 : decode cX2_addSums 53 = .ok (.iconst 2, 1) := by decide +kernel
theorem dX2_addSums_54 : decode cX2_addSums 54 = .ok (.iload 7, 2) := by decide +kernel
theorem dX2_addSums_56 : decode cX2_addSums 56 = .ok (.imul, 1) := by decide +kernel
theorem dX2_addSums_57 : decode cX2_addSums 57 = .ok (.iload 8, 2) := by decide +kernel
theorem dX2_addSums_59 : decode cX2_addSums 59 = .ok (.isub, 1) := by decide +kernel
theorem dX2_addSums_60 : decode cX2_addSums 60 = .ok (.iload 4, 2) := by decide +kernel
theorem dX2_addSums_62 : decode cX2_addSums 62 = .ok (.invokevirtual 116, 3) := by decide +kernel
theorem dX2_addSums_65 : decode cX2_addSums 65 = .ok (.aload_n 0, 1) := by decide +kernel
theorem dX2_addSums_66 : decode cX2_addSums 66 = .ok (.iconst 2, 1) := by decide +kernel
theorem dX2_addSums_67 : decode cX2_addSums 67 = .ok (.iload 8, 2) := by decide +kernel
theorem dX2_addSums_69 : decode cX2_addSums 69 = .ok (.imul, 1) := by decide +kernel
theorem dX2_addSums_70 : decode cX2_addSums 70 = .ok (.iload 7, 2) := by decide +kernel
theorem dX2_addSums_72 : decode cX2_addSums 72 = .ok (.isub, 1) := by decide +kernel
theorem dX2_addSums_73 : decode cX2_addSums 73 = .ok (.iload 4, 2) := by decide +kernel
theorem dX2_addSums_75 : decode cX2_addSums 75 = .ok (.invokevirtual 116, 3) := by decide +kernel
theorem dX2_addSums_78 : decode cX2_addSums 78 = .ok (.iload 7, 2) := by decide +kernel
theorem dX2_addSums_80 : decode cX2_addSums 80 = .ok (.iload 8, 2) := by decide +kernel
theorem dX2_addSums_82 : decode cX2_addSums 82 = .ok (.iadd, 1) := by decide +kernel
theorem dX2_addSums_83 : decode cX2_addSums 83 = .ok (.iconst 2, 1) := by decide +kernel
theorem dX2_addSums_84 : decode cX2_addSums 84 = .ok (.irem, 1) := by decide +kernel
theorem dX2_addSums_85 : decode cX2_addSums 85 = .ok (.ifCond .ne 16, 3) := by decide +kernel
theorem dX2_addSums_88 : decode cX2_addSums 88 = .ok (.aload_n 0, 1) := by decide +kernel
theorem dX2_addSums_89 : decode cX2_addSums 89 = .ok (.iload 7, 2) := by decide +kernel
theorem dX2_addSums_91 : decode cX2_addSums 91 = .ok (.iload 8, 2) := by decide +kernel
theorem dX2_addSums_93 : decode cX2_addSums 93 = .ok (.iadd, 1) := by decide +kernel
theorem dX2_addSums_94 : decode cX2_addSums 94 = .ok (.iconst 2, 1) := by decide +kernel
theorem dX2_addSums_95 : decode cX2_addSums 95 = .ok (.idiv, 1) := by decide +kernel
theorem dX2_addSums_96 : decode cX2_addSums 96 = .ok (.iload 4, 2) := by decide +kernel
theorem dX2_addSums_98 : decode cX2_addSums 98 = .ok (.invokevirtual 116, 3) := by decide +kernel
theorem dX2_addSums_101 : decode cX2_addSums 101 = .ok (.iload 8, 2) := by decide +kernel
theorem dX2_addSums_103 : decode cX2_addSums 103 = .ok (.iconst 1, 1) := by decide +kernel
theorem dX2_addSums_104 : decode cX2_addSums 104 = .ok (.iload 6, 2) := by decide +kernel
theorem dX2_addSums_106 : decode cX2_addSums 106 = .ok (.invokestatic 57, 3) := by decide +kernel
theorem dX2_addSums_109 : decode cX2_addSums 109 = .ok (.iadd, 1) := by decide +kernel
theorem dX2_addSums_110 : decode cX2_addSums 110 = .ok (.istore 8, 2) := by decide +kernel
theorem dX2_addSums_112 : decode cX2_addSums 112 = .ok (.goto (-71), 3) := by decide +kernel
theorem dX2_addSums_115 : decode cX2_addSums 115 = .ok (.iload 7, 2) := by decide +kernel
theorem dX2_addSums_117 : decode cX2_addSums 117 = .ok (.iconst 1, 1) := by decide +kernel
theorem dX2_addSums_118 : decode cX2_addSums 118 = .ok (.iload 5, 2) := by decide +kernel
theorem dX2_addSums_120 : decode cX2_addSums 120 = .ok (.invokestatic 57, 3) := by decide +kernel
theorem dX2_addSums_123 : decode cX2_addSums 123 = .ok (.iadd, 1) := by decide +kernel
theorem dX2_addSums_124 : decode cX2_addSums 124 = .ok (.istore 7, 2) := by decide +kernel
theorem dX2_addSums_126 : decode cX2_addSums 126 = .ok (.goto (-101), 3) := by decide +kernel
theorem dX2_addSums_129 : decode cX2_addSums 129 = .ok (.return_, 1) := by decide +kernel
theorem dX2_addSumAt_0 : decode cX2_addSumAt 0 = .ok (.iload_n 1, 1) := by decide +kernel
theorem dX2_addSumAt_1 : decode cX2_addSumAt 1 = .ok (.iconst 0, 1) := by decide +kernel
theorem dX2_addSumAt_2 : decode cX2_addSumAt 2 = .ok (.bipush 29, 2) := by decide +kernel
theorem dX2_addSumAt_4 : decode cX2_addSumAt 4 = .ok (.invokestatic 120, 3) := by decide +kernel
theorem dX2_addSumAt_7 : decode cX2_addSumAt 7 = .ok (.ifCond .eq 13, 3) := by decide +kernel
theorem dX2_addSumAt_10 : decode cX2_addSumAt 10 = .ok (.aload_n 0, 1) := by decide +kernel
theorem dX2_addSumAt_11 : decode cX2_addSumAt 11 = .ok (.getfield 9, 3) := by decide +kernel
theorem dX2_addSumAt_14 : decode cX2_addSumAt 14 = .ok (.iload_n 1, 1) := by decide +kernel
theorem dX2_addSumAt_15 : decode cX2_addSumAt 15 = .ok (.dup2, 1) := by decide +kernel
theorem dX2_addSumAt_16 : decode cX2_addSumAt 16 = .ok (.iaload, 1) := by decide +kernel
theorem dX2_addSumAt_17 : decode cX2_addSumAt 17 = .ok (.iconst 5, 1) := by decide +kernel
theorem dX2_addSumAt_18 : decode cX2_addSumAt 18 = .ok (.iadd, 1) := by decide +kernel
theorem dX2_addSumAt_19 : decode cX2_addSumAt 19 = .ok (.iastore, 1) := by decide +kernel
theorem dX2_addSumAt_20 : decode cX2_addSumAt 20 = .ok (.iload_n 2, 1) := by decide +kernel
theorem dX2_addSumAt_21 : decode cX2_addSumAt 21 = .ok (.ifCond .le 27, 3) := by decide +kernel
theorem dX2_addSumAt_24 : decode cX2_addSumAt 24 = .ok (.iload_n 1, 1) := by decide +kernel
theorem dX2_addSumAt_25 : decode cX2_addSumAt 25 = .ok (.iload_n 2, 1) := by decide +kernel
theorem dX2_addSumAt_26 : decode cX2_addSumAt 26 = .ok (.isub, 1) := by decide +kernel
theorem dX2_addSumAt_27 : decode cX2_addSumAt 27 = .ok (.iconst 0, 1) := by decide +kernel
theorem dX2_addSumAt_28 : decode cX2_addSumAt 28 = .ok (.bipush 29, 2) := by decide +kernel
theorem dX2_addSumAt_30 : decode cX2_addSumAt 30 = .ok (.invokestatic 120, 3) := by decide +kernel
theorem dX2_addSumAt_33 : decode cX2_addSumAt 33 = .ok (.ifCond .eq 15, 3) := by decide +kernel
theorem dX2_addSumAt_36 : decode cX2_addSumAt 36 = .ok (.aload_n 0, 1) := by decide +kernel
theorem dX2_addSumAt_37 : decode cX2_addSumAt 37 = .ok (.getfield 9, 3) := by decide +kernel
theorem dX2_addSumAt_40 : decode cX2_addSumAt 40 = .ok (.iload_n 1, 1) := by decide +kernel
theorem dX2_addSumAt_41 : decode cX2_addSumAt 41 = .ok (.iload_n 2, 1) := by decide +kernel
theorem dX2_addSumAt_42 : decode cX2_addSumAt 42 = .ok (.isub, 1) := by decide +kernel
theorem dX2_addSumAt_43 : decode cX2_addSumAt 43 = .ok (.dup2, 1) := by decide +kernel
theorem dX2_addSumAt_44 : decode cX2_addSumAt 44 = .ok (.iaload, 1) := by decide +kernel
theorem dX2_addSumAt_45 : decode cX2_addSumAt 45 = .ok (.iconst 5, 1) := by decide +kernel
theorem dX2_addSumAt_46 : decode cX2_addSumAt 46 = .ok (.iadd, 1) := by decide +kernel
theorem dX2_addSumAt_47 : decode cX2_addSumAt 47 = .ok (.iastore, 1) := by decide +kernel
theorem dX2_addSumAt_48 : decode cX2_addSumAt 48 = .ok (.return_, 1) := by decide +kernel
