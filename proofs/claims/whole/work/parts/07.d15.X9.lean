theorem dX9_make_40 : decode cX9_make 40 = .ok (.invokevirtual 281, 3) := by decide +kernel
theorem dX9_make_43 : decode cX9_make 43 = .ok (.iconst 0, 1) := by decide +kernel
theorem dX9_make_44 : decode cX9_make 44 = .ok (.ireturn, 1) := by decide +kernel
theorem dX9_copy_0 : decode cX9_copy 0 = .ok (.iload_n 1, 1) := by decide +kernel
theorem dX9_copy_1 : decode cX9_copy 1 = .ok (.invokestatic 264, 3) := by decide +kernel
theorem dX9_copy_4 : decode cX9_copy 4 = .ok (.ifCond .eq 10, 3) := by decide +kernel
theorem dX9_copy_7 : decode cX9_copy 7 = .ok (.iload_n 3, 1) := by decide +kernel
theorem dX9_copy_8 : decode cX9_copy 8 = .ok (.invokestatic 264, 3) := by decide +kernel
theorem dX9_copy_11 : decode cX9_copy 11 = .ok (.ifCond .ne 5, 3) := by decide +kernel
theorem dX9_copy_14 : decode cX9_copy 14 = .ok (.iconst (-1), 1) := by decide +kernel
theorem dX9_copy_15 : decode cX9_copy 15 = .ok (.ireturn, 1) := by decide +kernel
theorem dX9_copy_16 : decode cX9_copy 16 = .ok (.aload_n 0, 1) := by decide +kernel
theorem dX9_copy_17 : decode cX9_copy 17 = .ok (.getfield 50, 3) := by decide +kernel
theorem dX9_copy_20 : decode cX9_copy 20 = .ok (.iload_n 1, 1) := by decide +kernel
theorem dX9_copy_21 : decode cX9_copy 21 = .ok (.aaload, 1) := by decide +kernel
theorem dX9_copy_22 : decode cX9_copy 22 = .ok (.astore 6, 2) := by decide +kernel
theorem dX9_copy_24 : decode cX9_copy 24 = .ok (.aload_n 0, 1) := by decide +kernel
theorem dX9_copy_25 : decode cX9_copy 25 = .ok (.getfield 50, 3) := by decide +kernel
theorem dX9_copy_28 : decode cX9_copy 28 = .ok (.iload_n 3, 1) := by decide +kernel
theorem dX9_copy_29 : decode cX9_copy 29 = .ok (.aaload, 1) := by decide +kernel
theorem dX9_copy_30 : decode cX9_copy 30 = .ok (.astore 7, 2) := by decide +kernel
theorem dX9_copy_32 : decode cX9_copy 32 = .ok (.aload 6, 2) := by decide +kernel
theorem dX9_copy_34 : decode cX9_copy 34 = .ok (.getfield 308, 3) := by decide +kernel
theorem dX9_copy_37 : decode cX9_copy 37 = .ok (.ifCond .eq 11, 3) := by decide +kernel
theorem dX9_copy_40 : decode cX9_copy 40 = .ok (.aload 7, 2) := by decide +kernel
theorem dX9_copy_42 : decode cX9_copy 42 = .ok (.getfield 308, 3) := by decide +kernel
theorem dX9_copy_45 : decode cX9_copy 45 = .ok (.ifCond .ne 6, 3) := by decide +kernel
theorem dX9_copy_48 : decode cX9_copy 48 = .ok (.bipush (-11), 2) := by decide +kernel
theorem dX9_copy_50 : decode cX9_copy 50 = .ok (.ireturn, 1) := by decide +kernel
theorem dX9_copy_51 : decode cX9_copy 51 = .ok (.aload 6, 2) := by decide +kernel
theorem dX9_copy_53 : decode cX9_copy 53 = .ok (.invokevirtual 292, 3) := by decide +kernel
theorem dX9_copy_56 : decode cX9_copy 56 = .ok (.ifCond .eq 16, 3) := by decide +kernel
theorem dX9_copy_59 : decode cX9_copy 59 = .ok (.aload 6, 2) := by decide +kernel
theorem dX9_copy_61 : decode cX9_copy 61 = .ok (.getfield 308, 3) := by decide +kernel
theorem dX9_copy_64 : decode cX9_copy 64 = .ok (.aload 7, 2) := by decide +kernel
theorem dX9_copy_66 : decode cX9_copy 66 = .ok (.getfield 308, 3) := by decide +kernel
theorem dX9_copy_69 : decode cX9_copy 69 = .ok (.if_icmp .eq 6, 3) := by decide +kernel
theorem dX9_copy_72 : decode cX9_copy 72 = .ok (.bipush (-12), 2) := by decide +kernel
theorem dX9_copy_74 : decode cX9_copy 74 = .ok (.ireturn, 1) := by decide +kernel
theorem dX9_copy_75 : decode cX9_copy 75 = .ok (.aload 6, 2) := by decide +kernel
theorem dX9_copy_77 : decode cX9_copy 77 = .ok (.iload_n 2, 1) := by decide +kernel
theorem dX9_copy_78 : decode cX9_copy 78 = .ok (.iload 5, 2) := by decide +kernel
theorem dX9_copy_80 : decode cX9_copy 80 = .ok (.invokevirtual 311, 3) := by decide +kernel
theorem dX9_copy_83 : decode cX9_copy 83 = .ok (.ifCond .eq 15, 3) := by decide +kernel
theorem dX9_copy_86 : decode cX9_copy 86 = .ok (.aload 7, 2) := by decide +kernel
theorem dX9_copy_88 : decode cX9_copy 88 = .ok (.iload 4, 2) := by decide +kernel
theorem dX9_copy_90 : decode cX9_copy 90 = .ok (.iload 5, 2) := by decide +kernel
theorem dX9_copy_92 : decode cX9_copy 92 = .ok (.invokevirtual 311, 3) := by decide +kernel
theorem dX9_copy_95 : decode cX9_copy 95 = .ok (.ifCond .ne 6, 3) := by decide +kernel
theorem dX9_copy_98 : decode cX9_copy 98 = .ok (.bipush (-13), 2) := by decide +kernel
theorem dX9_copy_100 : decode cX9_copy 100 = .ok (.ireturn, 1) := by decide +kernel
theorem dX9_copy_101 : decode cX9_copy 101 = .ok (.aload 6, 2) := by decide +kernel
theorem dX9_copy_103 : decode cX9_copy 103 = .ok (.iload_n 2, 1) := by decide +kernel
theorem dX9_copy_104 : decode cX9_copy 104 = .ok (.aload 7, 2) := by decide +kernel
theorem dX9_copy_106 : decode cX9_copy 106 = .ok (.iload 4, 2) := by decide +kernel
theorem dX9_copy_108 : decode cX9_copy 108 = .ok (.iload 5, 2) := by decide +kernel
theorem dX9_copy_110 : decode cX9_copy 110 = .ok (.invokevirtual 315, 3) := by decide +kernel
theorem dX9_copy_113 : decode cX9_copy 113 = .ok (.iload 5, 2) := by decide +kernel
theorem dX9_copy_115 : decode cX9_copy 115 = .ok (.ireturn, 1) := by decide +kernel
theorem dX9_weight_0 : decode cX9_weight 0 = .ok (.aload_n 0, 1) := by decide +kernel
theorem dX9_weight_1 : decode cX9_weight 1 = .ok (.iload_n 1, 1) := by decide +kernel
theorem dX9_weight_2 : decode cX9_weight 2 = .ok (.invokevirtual 319, 3) := by decide +kernel
theorem dX9_weight_5 : decode cX9_weight 5 = .ok (.istore_n 2, 1) := by decide +kernel
theorem dX9_weight_6 : decode cX9_weight 6 = .ok (.iload_n 2, 1) := by decide +kernel
theorem dX9_weight_7 : decode cX9_weight 7 = .ok (.ifCond .ge 7, 3) := by decide +kernel
theorem dX9_weight_10 : decode cX9_weight 10 = .ok (.iload_n 2, 1) := by decide +kernel
theorem dX9_weight_11 : decode cX9_weight 11 = .ok (.goto 15, 3) := by decide +kernel
theorem dX9_weight_14 : decode cX9_weight 14 = .ok (.aload_n 0, 1) := by decide +kernel
theorem dX9_weight_15 : decode cX9_weight 15 = .ok (.getfield 50, 3) := by decide +kernel
theorem dX9_weight_18 : decode cX9_weight 18 = .ok (.iload_n 1, 1) := by decide +kernel
theorem dX9_weight_19 : decode cX9_weight 19 = .ok (.aaload, 1) := by decide +kernel
theorem dX9_weight_20 : decode cX9_weight 20 = .ok (.getfield 322, 3) := by decide +kernel
theorem dX9_weight_23 : decode cX9_weight 23 = .ok (.invokevirtual 326, 3) := by decide +kernel
theorem dX9_weight_26 : decode cX9_weight 26 = .ok (.ireturn, 1) := by decide +kernel
theorem dX9_refusalOfMast_0 : decode cX9_refusalOfMast 0 = .ok (.iload_n 1, 1) := by decide +kernel
theorem dX9_refusalOfMast_1 : decode cX9_refusalOfMast 1 = .ok (.invokestatic 264, 3) := by decide +kernel
theorem dX9_refusalOfMast_4 : decode cX9_refusalOfMast 4 = .ok (.ifCond .ne 5, 3) := by decide +kernel
theorem dX9_refusalOfMast_7 : decode cX9_refusalOfMast 7 = .ok (.iconst (-1), 1) := by decide +kernel
theorem dX9_refusalOfMast_8 : decode cX9_refusalOfMast 8 = .ok (.ireturn, 1) := by decide +kernel
theorem dX9_refusalOfMast_9 : decode cX9_refusalOfMast 9 = .ok (.aload_n 0, 1) := by decide +kernel
theorem dX9_refusalOfMast_10 : decode cX9_refusalOfMast 10 = .ok (.getfield 50, 3) := by decide +kernel
theorem dX9_refusalOfMast_13 : decode cX9_refusalOfMast 13 = .ok (.iload_n 1, 1) := by decide +kernel
theorem dX9_refusalOfMast_14 : decode cX9_refusalOfMast 14 = .ok (.aaload, 1) := by decide +kernel
theorem dX9_refusalOfMast_15 : decode cX9_refusalOfMast 15 = .ok (.getfield 308, 3) := by decide +kernel
theorem dX9_refusalOfMast_18 : decode cX9_refusalOfMast 18 = .ok (.ifCond .ne 6, 3) := by decide +kernel
theorem dX9_refusalOfMast_21 : decode cX9_refusalOfMast 21 = .ok (.bipush (-11), 2) := by decide +kernel
theorem dX9_refusalOfMast_23 : decode cX9_refusalOfMast 23 = .ok (.ireturn, 1) := by decide +kernel
theorem dX9_refusalOfMast_24 : decode cX9_refusalOfMast 24 = .ok (.aload_n 0, 1) := by decide +kernel
theorem dX9_refusalOfMast_25 : decode cX9_refusalOfMast 25 = .ok (.getfield 50, 3) := by decide +kernel
theorem dX9_refusalOfMast_28 : decode cX9_refusalOfMast 28 = .ok (.iload_n 1, 1) := by decide +kernel
theorem dX9_refusalOfMast_29 : decode cX9_refusalOfMast 29 = .ok (.aaload, 1) := by decide +kernel
theorem dX9_refusalOfMast_30 : decode cX9_refusalOfMast 30 = .ok (.getfield 308, 3) := by decide +kernel
theorem dX9_refusalOfMast_33 : decode cX9_refusalOfMast 33 = .ok (.iconst 1, 1) := by decide +kernel
theorem dX9_refusalOfMast_34 : decode cX9_refusalOfMast 34 = .ok (.if_icmp .ne 7, 3) := by decide +kernel
theorem dX9_refusalOfMast_37 : decode cX9_refusalOfMast 37 = .ok (.iconst 0, 1) := by decide +kernel
theorem dX9_refusalOfMast_38 : decode cX9_refusalOfMast 38 = .ok (.goto 5, 3) := by decide +kernel
theorem dX9_refusalOfMast_41 : decode cX9_refusalOfMast 41 = .ok (.bipush (-12), 2) := by decide +kernel
theorem dX9_refusalOfMast_43 : decode cX9_refusalOfMast 43 = .ok (.ireturn, 1) := by decide +kernel
