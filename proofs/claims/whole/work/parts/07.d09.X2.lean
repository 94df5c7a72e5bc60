theorem dX2_addSums_93 : decode cX2_addSums 93 = .ok (.iadd, 1) := by decide +kernel
theorem dX2_addSums_94 : decode cX2_addSums 94 = .ok (.iconst 2, 1) := by decide +kernel
theorem dX2_addSums_95 : decode cX2_addSums 95 = .ok (.idiv, 1) := by decide +kernel
theorem dX2_addSums_96 : decode cX2_addSums 96 = .ok (.iload 4, 2) := by decide +kernel
theorem dX2_addSums_98 : decode cX2_addSums 98 = .ok (.invokevirtual 112, 3) := by decide +kernel
theorem dX2_addSums_101 : decode cX2_addSums 101 = .ok (.iload 8, 2) := by decide +kernel
theorem dX2_addSums_103 : decode cX2_addSums 103 = .ok (.iconst 1, 1) := by decide +kernel
theorem dX2_addSums_104 : decode cX2_addSums 104 = .ok (.iload 6, 2) := by decide +kernel
theorem dX2_addSums_106 : decode cX2_addSums 106 = .ok (.invokestatic 57, 3) := by decide +kernel
theorem dX2_addSums_109 : decode cX2_addSums 109 = .ok (.iadd, 1) := by decide +kernel
theorem dX2_addSums_110 : decode cX2_addSums 110 = .ok (.istore 8, 2) := by decide +kernel
theorem dX2_addSums_112 : decode cX2_addSums 112 = .ok (.goto (-71), 3) := by decide +kernel
theorem dX2_addSums_115 : decode cX2_addSums 115 = .ok (.iload 7, 2) := by decide +kernel
theorem dX2_addSums_117 : decode cX2_addSums 117 = .ok (.iconst 1, 1) := by decide +kernel
theorem dX2_addSums_118 : decode cX2_addSums 118 = .ok (.iload 5, 2) := by decide +kernel
theorem dX2_addSums_120 : decode cX2_addSums 120 = .ok (.invokestatic 57, 3) := by decide +kernel
theorem dX2_addSums_123 : decode cX2_addSums 123 = .ok (.iadd, 1) := by decide +kernel
theorem dX2_addSums_124 : decode cX2_addSums 124 = .ok (.istore 7, 2) := by decide +kernel
theorem dX2_addSums_126 : decode cX2_addSums 126 = .ok (.goto (-101), 3) := by decide +kernel
theorem dX2_addSums_129 : decode cX2_addSums 129 = .ok (.return_, 1) := by decide +kernel
theorem dX2_addSumAt_0 : decode cX2_addSumAt 0 = .ok (.iload_n 1, 1) := by decide +kernel
theorem dX2_addSumAt_1 : decode cX2_addSumAt 1 = .ok (.iconst 0, 1) := by decide +kernel
theorem dX2_addSumAt_2 : decode cX2_addSumAt 2 = .ok (.bipush 29, 2) := by decide +kernel
theorem dX2_addSumAt_4 : decode cX2_addSumAt 4 = .ok (.invokestatic 116, 3) := by decide +kernel
theorem dX2_addSumAt_7 : decode cX2_addSumAt 7 = .ok (.ifCond .eq 13, 3) := by decide +kernel
theorem dX2_addSumAt_10 : decode cX2_addSumAt 10 = .ok (.aload_n 0, 1) := by decide +kernel
theorem dX2_addSumAt_11 : decode cX2_addSumAt 11 = .ok (.getfield 9, 3) := by decide +kernel
theorem dX2_addSumAt_14 : decode cX2_addSumAt 14 = .ok (.iload_n 1, 1) := by decide +kernel
theorem dX2_addSumAt_15 : decode cX2_addSumAt 15 = .ok (.dup2, 1) := by decide +kernel
theorem dX2_addSumAt_16 : decode cX2_addSumAt 16 = .ok (.iaload, 1) := by decide +kernel
theorem dX2_addSumAt_17 : decode cX2_addSumAt 17 = .ok (.iconst 5, 1) := by decide +kernel
theorem dX2_addSumAt_18 : decode cX2_addSumAt 18 = .ok (.iadd, 1) := by decide +kernel
theorem dX2_addSumAt_19 : decode cX2_addSumAt 19 = .ok (.iastore, 1) := by decide +kernel
theorem dX2_addSumAt_20 : decode cX2_addSumAt 20 = .ok (.iload_n 2, 1) := by decide +kernel
theorem dX2_addSumAt_21 : decode cX2_addSumAt 21 = .ok (.ifCond .le 27, 3) := by decide +kernel
theorem dX2_addSumAt_24 : decode cX2_addSumAt 24 = .ok (.iload_n 1, 1) := by decide +kernel
theorem dX2_addSumAt_25 : decode cX2_addSumAt 25 = .ok (.iload_n 2, 1) := by decide +kernel
theorem dX2_addSumAt_26 : decode cX2_addSumAt 26 = .ok (.isub, 1) := by decide +kernel
theorem dX2_addSumAt_27 : decode cX2_addSumAt 27 = .ok (.iconst 0, 1) := by decide +kernel
theorem dX2_addSumAt_28 : decode cX2_addSumAt 28 = .ok (.bipush 29, 2) := by decide +kernel
theorem dX2_addSumAt_30 : decode cX2_addSumAt 30 = .ok (.invokestatic 116, 3) := by decide +kernel
theorem dX2_addSumAt_33 : decode cX2_addSumAt 33 = .ok (.ifCond .eq 15, 3) := by decide +kernel
theorem dX2_addSumAt_36 : decode cX2_addSumAt 36 = .ok (.aload_n 0, 1) := by decide +kernel
theorem dX2_addSumAt_37 : decode cX2_addSumAt 37 = .ok (.getfield 9, 3) := by decide +kernel
theorem dX2_addSumAt_40 : decode cX2_addSumAt 40 = .ok (.iload_n 1, 1) := by decide +kernel
theorem dX2_addSumAt_41 : decode cX2_addSumAt 41 = .ok (.iload_n 2, 1) := by decide +kernel
theorem dX2_addSumAt_42 : decode cX2_addSumAt 42 = .ok (.isub, 1) := by decide +kernel
theorem dX2_addSumAt_43 : decode cX2_addSumAt 43 = .ok (.dup2, 1) := by decide +kernel
theorem dX2_addSumAt_44 : decode cX2_addSumAt 44 = .ok (.iaload, 1) := by decide +kernel
theorem dX2_addSumAt_45 : decode cX2_addSumAt 45 = .ok (.iconst 5, 1) := by decide +kernel
theorem dX2_addSumAt_46 : decode cX2_addSumAt 46 = .ok (.iadd, 1) := by decide +kernel
theorem dX2_addSumAt_47 : decode cX2_addSumAt 47 = .ok (.iastore, 1) := by decide +kernel
theorem dX2_addSumAt_48 : decode cX2_addSumAt 48 = .ok (.return_, 1) := by decide +kernel
