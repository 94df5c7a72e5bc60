theorem dX2_served_0 : decode cX2_served 0 = .ok (.iconst 0, 1) := by decide +kernel
theorem dX2_served_1 : decode cX2_served 1 = .ok (.istore_n 2, 1) := by decide +kernel
theorem dX2_served_2 : decode cX2_served 2 = .ok (.iconst 0, 1) := by decide +kernel
theorem dX2_served_3 : decode cX2_served 3 = .ok (.istore_n 3, 1) := by decide +kernel
theorem dX2_served_4 : decode cX2_served 4 = .ok (.iload_n 3, 1) := by decide +kernel
theorem dX2_served_5 : decode cX2_served 5 = .ok (.aload_n 0, 1) := by decide +kernel
theorem dX2_served_6 : decode cX2_served 6 = .ok (.getfield 15, 3) := by decide +kernel
theorem dX2_served_9 : decode cX2_served 9 = .ok (.getfield 19, 3) := by decide +kernel
theorem dX2_served_12 : decode cX2_served 12 = .ok (.if_icmp .ge 23, 3) := by decide +kernel
theorem dX2_served_15 : decode cX2_served 15 = .ok (.iload_n 2, 1) := by decide +kernel
theorem dX2_served_16 : decode cX2_served 16 = .ok (.aload_n 1, 1) := by decide +kernel
theorem dX2_served_17 : decode cX2_served 17 = .ok (.iload_n 3, 1) := by decide +kernel
theorem dX2_served_18 : decode cX2_served 18 = .ok (.iaload, 1) := by decide +kernel
theorem dX2_served_19 : decode cX2_served 19 = .ok (.ifCond .lt 7, 3) := by decide +kernel
theorem dX2_served_22 : decode cX2_served 22 = .ok (.iconst 1, 1) := by decide +kernel
theorem dX2_served_23 : decode cX2_served 23 = .ok (.goto 4, 3) := by decide +kernel
theorem dX2_served_26 : decode cX2_served 26 = .ok (.iconst 0, 1) := by decide +kernel
theorem dX2_served_27 : decode cX2_served 27 = .ok (.iadd, 1) := by decide +kernel
theorem dX2_served_28 : decode cX2_served 28 = .ok (.istore_n 2, 1) := by decide +kernel
theorem dX2_served_29 : decode cX2_served 29 = .ok (.iinc 3 1, 3) := by decide +kernel
theorem dX2_served_32 : decode cX2_served 32 = .ok (.goto (-28), 3) := by decide +kernel
theorem dX2_served_35 : decode cX2_served 35 = .ok (.iload_n 2, 1) := by decide +kernel
theorem dX2_served_36 : decode cX2_served 36 = .ok (.ireturn, 1) := by decide +kernel
theorem dX2_totalHarm_0 : decode cX2_totalHarm 0 = .ok (.aload_n 0, 1) := by decide +kernel
theorem dX2_totalHarm_1 : decode cX2_totalHarm 1 = .ok (.aload_n 1, 1) := by decide +kernel
theorem dX2_totalHarm_2 : decode cX2_totalHarm 2 = .ok (.invokevirtual 25, 3) := by decide +kernel
theorem dX2_totalHarm_5 : decode cX2_totalHarm 5 = .ok (.iconst 5, 1) := by decide +kernel
theorem dX2_totalHarm_6 : decode cX2_totalHarm 6 = .ok (.aload_n 0, 1) := by decide +kernel
theorem dX2_totalHarm_7 : decode cX2_totalHarm 7 = .ok (.aload_n 1, 1) := by decide +kernel
theorem dX2_totalHarm_8 : decode cX2_totalHarm 8 = .ok (.invokevirtual 29, 3) := by decide +kernel
theorem dX2_totalHarm_11 : decode cX2_totalHarm 11 = .ok (.imul, 1) := by decide +kernel
theorem dX2_totalHarm_12 : decode cX2_totalHarm 12 = .ok (.iadd, 1) := by decide +kernel
theorem dX2_totalHarm_13 : decode cX2_totalHarm 13 = .ok (.bipush 10, 2) := by decide +kernel
theorem dX2_totalHarm_15 : decode cX2_totalHarm 15 = .ok (.aload_n 0, 1) := by decide +kernel
theorem dX2_totalHarm_16 : decode cX2_totalHarm 16 = .ok (.aload_n 1, 1) := by decide +kernel
theorem dX2_totalHarm_17 : decode cX2_totalHarm 17 = .ok (.invokevirtual 32, 3) := by decide +kernel
theorem dX2_totalHarm_20 : decode cX2_totalHarm 20 = .ok (.invokestatic 35, 3) := by decide +kernel
theorem dX2_totalHarm_23 : decode cX2_totalHarm 23 = .ok (.imul, 1) := by decide +kernel
theorem dX2_totalHarm_24 : decode cX2_totalHarm 24 = .ok (.iadd, 1) := by decide +kernel
theorem dX2_totalHarm_25 : decode cX2_totalHarm 25 = .ok (.ireturn, 1) := by decide +kernel
theorem dX2_lackOf_0 : decode cX2_lackOf 0 = .ok (.aload_n 1, 1) := by decide +kernel
theorem dX2_lackOf_1 : decode cX2_lackOf 1 = .ok (.iload_n 2, 1) := by decide +kernel
theorem dX2_lackOf_2 : decode cX2_lackOf 2 = .ok (.iaload, 1) := by decide +kernel
theorem dX2_lackOf_3 : decode cX2_lackOf 3 = .ok (.ifCond .lt 9, 3) := by decide +kernel
theorem dX2_lackOf_6 : decode cX2_lackOf 6 = .ok (.aload_n 1, 1) := by decide +kernel
theorem dX2_lackOf_7 : decode cX2_lackOf 7 = .ok (.iload_n 3, 1) := by decide +kernel
theorem dX2_lackOf_8 : decode cX2_lackOf 8 = .ok (.iaload, 1) := by decide +kernel
theorem dX2_lackOf_9 : decode cX2_lackOf 9 = .ok (.ifCond .ge 7, 3) := by decide +kernel
theorem dX2_lackOf_12 : decode cX2_lackOf 12 = .ok (.iconst 0, 1) := by decide +kernel
theorem dX2_lackOf_13 : decode cX2_lackOf 13 = .ok (.goto 15, 3) := by decide +kernel
theorem dX2_lackOf_16 : decode cX2_lackOf 16 = .ok (.aload_n 0, 1) := by decide +kernel
theorem dX2_lackOf_17 : decode cX2_lackOf 17 = .ok (.iload_n 2, 1) := by decide +kernel
theorem dX2_lackOf_18 : decode cX2_lackOf 18 = .ok (.aload_n 1, 1) := by decide +kernel
theorem dX2_lackOf_19 : decode cX2_lackOf 19 = .ok (.iload_n 2, 1) := by decide +kernel
theorem dX2_lackOf_20 : decode cX2_lackOf 20 = .ok (.iaload, 1) := by decide +kernel
theorem dX2_lackOf_21 : decode cX2_lackOf 21 = .ok (.iload_n 3, 1) := by decide +kernel
theorem dX2_lackOf_22 : decode cX2_lackOf 22 = .ok (.aload_n 1, 1) := by decide +kernel
theorem dX2_lackOf_23 : decode cX2_lackOf 23 = .ok (.iload_n 3, 1) := by decide +kernel
theorem dX2_lackOf_24 : decode cX2_lackOf 24 = .ok (.iaload, 1) := by decide +kernel
theorem dX2_lackOf_25 : decode cX2_lackOf 25 = .ok (.invokevirtual 41, 3) := by decide +kernel
theorem dX2_lackOf_28 : decode cX2_lackOf 28 = .ok (.ireturn, 1) := by decide +kernel
theorem dX2_lackAt_0 : decode cX2_lackAt 0 = .ok (.aload_n 0, 1) := by decide +kernel
theorem dX2_lackAt_1 : decode cX2_lackAt 1 = .ok (.getfield 15, 3) := by decide +kernel
theorem dX2_lackAt_4 : decode cX2_lackAt 4 = .ok (.iload_n 1, 1) := by decide +kernel
theorem dX2_lackAt_5 : decode cX2_lackAt 5 = .ok (.iload_n 3, 1) := by decide +kernel
theorem dX2_lackAt_6 : decode cX2_lackAt 6 = .ok (.invokevirtual 45, 3) := by decide +kernel
theorem dX2_lackAt_9 : decode cX2_lackAt 9 = .ok (.istore 5, 2) := by decide +kernel
theorem dX2_lackAt_11 : decode cX2_lackAt 11 = .ok (.iload 5, 2) := by decide +kernel
theorem dX2_lackAt_13 : decode cX2_lackAt 13 = .ok (.ifCond .ne 5, 3) := by decide +kernel
theorem dX2_lackAt_16 : decode cX2_lackAt 16 = .ok (.iconst 0, 1) := by decide +kernel
theorem dX2_lackAt_17 : decode cX2_lackAt 17 = .ok (.ireturn, 1) := by decide +kernel
theorem dX2_lackAt_18 : decode cX2_lackAt 18 = .ok (.iconst 0, 1) := by decide +kernel
theorem dX2_lackAt_19 : decode cX2_lackAt 19 = .ok (.istore 6, 2) := by decide +kernel
theorem dX2_lackAt_21 : decode cX2_lackAt 21 = .ok (.aload_n 0, 1) := by decide +kernel
theorem dX2_lackAt_22 : decode cX2_lackAt 22 = .ok (.getfield 15, 3) := by decide +kernel
theorem dX2_lackAt_25 : decode cX2_lackAt 25 = .ok (.iload_n 1, 1) := by decide +kernel
theorem dX2_lackAt_26 : decode cX2_lackAt 26 = .ok (.invokevirtual 49, 3) := by decide +kernel
theorem dX2_lackAt_29 : decode cX2_lackAt 29 = .ok (.istore 7, 2) := by decide +kernel
theorem dX2_lackAt_31 : decode cX2_lackAt 31 = .ok (.aload_n 0, 1) := by decide +kernel
theorem dX2_lackAt_32 : decode cX2_lackAt 32 = .ok (.getfield 15, 3) := by decide +kernel
theorem dX2_lackAt_35 : decode cX2_lackAt 35 = .ok (.iload_n 3, 1) := by decide +kernel
theorem dX2_lackAt_36 : decode cX2_lackAt 36 = .ok (.invokevirtual 49, 3) := by decide +kernel
theorem dX2_lackAt_39 : decode cX2_lackAt 39 = .ok (.istore 8, 2) := by decide +kernel
theorem dX2_lackAt_41 : decode cX2_lackAt 41 = .ok (.iload_n 2, 1) := by decide +kernel
theorem dX2_lackAt_42 : decode cX2_lackAt 42 = .ok (.istore 9, 2) := by decide +kernel
theorem dX2_lackAt_44 : decode cX2_lackAt 44 = .ok (.iload 9, 2) := by decide +kernel
theorem dX2_lackAt_46 : decode cX2_lackAt 46 = .ok (.iload_n 2, 1) := by decide +kernel
theorem dX2_lackAt_47 : decode cX2_lackAt 47 = .ok (.iload 7, 2) := by decide +kernel
theorem dX2_lackAt_49 : decode cX2_lackAt 49 = .ok (.iadd, 1) := by decide +kernel
theorem dX2_lackAt_50 : decode cX2_lackAt 50 = .ok (.if_icmp .gt 63, 3) := by decide +kernel
theorem dX2_lackAt_53 : decode cX2_lackAt 53 = .ok (.iload 4, 2) := by decide +kernel
theorem dX2_lackAt_55 : decode cX2_lackAt 55 = .ok (.istore 10, 2) := by decide +kernel
theorem dX2_lackAt_57 : decode cX2_lackAt 57 = .ok (.iload 10, 2) := by decide +kernel
theorem dX2_lackAt_59 : decode cX2_lackAt 59 = .ok (.iload 4, 2) := by decide +kernel
theorem dX2_lackAt_61 : decode cX2_lackAt 61 = .ok (.iload 8, 2) := by decide +kernel
theorem dX2_lackAt_63 : decode cX2_lackAt 63 = .ok (.iadd, 1) := by decide +kernel
theorem dX2_lackAt_64 : decode cX2_lackAt 64 = .ok (.if_icmp .gt 35, 3) := by decide +kernel
theorem dX2_lackAt_67 : decode cX2_lackAt 67 = .ok (.iload 6, 2) := by decide +kernel
theorem dX2_lackAt_69 : decode cX2_lackAt 69 = .ok (.iload 5, 2) := by decide +kernel
theorem dX2_lackAt_71 : decode cX2_lackAt 71 = .ok (.iload 9, 2) := by decide +kernel
theorem dX2_lackAt_73 : decode cX2_lackAt 73 = .ok (.iload 10, 2) := by decide +kernel
theorem dX2_lackAt_75 : decode cX2_lackAt 75 = .ok (.isub, 1) := by decide +kernel
theorem dX2_lackAt_76 : decode cX2_lackAt 76 = .ok (.invokestatic 52, 3) := by decide +kernel
theorem dX2_lackAt_79 : decode cX2_lackAt 79 = .ok (.isub, 1) := by decide +kernel
theorem dX2_lackAt_80 : decode cX2_lackAt 80 = .ok (.invokestatic 57, 3) := by decide +kernel
theorem dX2_lackAt_83 : decode cX2_lackAt 83 = .ok (.istore 6, 2) := by decide +kernel
theorem dX2_lackAt_85 : decode cX2_lackAt 85 = .ok (.iload 10, 2) := by decide +kernel
theorem dX2_lackAt_87 : decode cX2_lackAt 87 = .ok (.iconst 1, 1) := by decide +kernel
theorem dX2_lackAt_88 : decode cX2_lackAt 88 = .ok (.iload 8, 2) := by decide +kernel
theorem dX2_lackAt_90 : decode cX2_lackAt 90 = .ok (.invokestatic 57, 3) := by decide +kernel
theorem dX2_lackAt_93 : decode cX2_lackAt 93 = .ok (.iadd, 1) := by decide +kernel
theorem dX2_lackAt_94 : decode cX2_lackAt 94 = .ok (.istore 10, 2) := by decide +kernel
theorem dX2_lackAt_96 : decode cX2_lackAt 96 = .ok (.goto (-39), 3) := by decide +kernel
theorem dX2_lackAt_99 : decode cX2_lackAt 99 = .ok (.iload 9, 2) := by decide +kernel
theorem dX2_lackAt_101 : decode cX2_lackAt 101 = .ok (.iconst 1, 1) := by decide +kernel
theorem dX2_lackAt_102 : decode cX2_lackAt 102 = .ok (.iload 7, 2) := by decide +kernel
theorem dX2_lackAt_104 : decode cX2_lackAt 104 = .ok (.invokestatic 57, 3) := by decide +kernel
theorem dX2_lackAt_107 : decode cX2_lackAt 107 = .ok (.iadd, 1) := by decide +kernel
theorem dX2_lackAt_108 : decode cX2_lackAt 108 = .ok (.istore 9, 2) := by decide +kernel
theorem dX2_lackAt_110 : decode cX2_lackAt 110 = .ok (.goto (-66), 3) := by decide +kernel
theorem dX2_lackAt_113 : decode cX2_lackAt 113 = .ok (.iload 6, 2) := by decide +kernel
theorem dX2_lackAt_115 : decode cX2_lackAt 115 = .ok (.ireturn, 1) := by decide +kernel
theorem dX2_lackingTwos_0 : decode cX2_lackingTwos 0 = .ok (.iconst 0, 1) := by decide +kernel
theorem dX2_lackingTwos_1 : decode cX2_lackingTwos 1 = .ok (.istore_n 2, 1) := by decide +kernel
theorem dX2_lackingTwos_2 : decode cX2_lackingTwos 2 = .ok (.iconst 0, 1) := by decide +kernel
theorem dX2_lackingTwos_3 : decode cX2_lackingTwos 3 = .ok (.istore_n 3, 1) := by decide +kernel
theorem dX2_lackingTwos_4 : decode cX2_lackingTwos 4 = .ok (.iload_n 3, 1) := by decide +kernel
theorem dX2_lackingTwos_5 : decode cX2_lackingTwos 5 = .ok (.aload_n 0, 1) := by decide +kernel
theorem dX2_lackingTwos_6 : decode cX2_lackingTwos 6 = .ok (.getfield 15, 3) := by decide +kernel
theorem dX2_lackingTwos_9 : decode cX2_lackingTwos 9 = .ok (.getfield 19, 3) := by decide +kernel
theorem dX2_lackingTwos_12 : decode cX2_lackingTwos 12 = .ok (.if_icmp .ge 51, 3) := by decide +kernel
theorem dX2_lackingTwos_15 : decode cX2_lackingTwos 15 = .ok (.iload_n 3, 1) := by decide +kernel
theorem dX2_lackingTwos_16 : decode cX2_lackingTwos 16 = .ok (.iconst 1, 1) := by decide +kernel
theorem dX2_lackingTwos_17 : decode cX2_lackingTwos 17 = .ok (.iadd, 1) := by decide +kernel
theorem dX2_lackingTwos_18 : decode cX2_lackingTwos 18 = .ok (.istore 4, 2) := by decide +kernel
theorem dX2_lackingTwos_20 : decode cX2_lackingTwos 20 = .ok (.iload 4, 2) := by decide +kernel
theorem dX2_lackingTwos_22 : decode cX2_lackingTwos 22 = .ok (.aload_n 0, 1) := by decide +kernel
theorem dX2_lackingTwos_23 : decode cX2_lackingTwos 23 = .ok (.getfield 15, 3) := by decide +kernel
theorem dX2_lackingTwos_26 : decode cX2_lackingTwos 26 = .ok (.getfield 19, 3) := by decide +kernel
theorem dX2_lackingTwos_29 : decode cX2_lackingTwos 29 = .ok (.if_icmp .ge 28, 3) := by decide +kernel
theorem dX2_lackingTwos_32 : decode cX2_lackingTwos 32 = .ok (.iload_n 2, 1) := by decide +kernel
theorem dX2_lackingTwos_33 : decode cX2_lackingTwos 33 = .ok (.aload_n 0, 1) := by decide +kernel
theorem dX2_lackingTwos_34 : decode cX2_lackingTwos 34 = .ok (.aload_n 1, 1) := by decide +kernel
theorem dX2_lackingTwos_35 : decode cX2_lackingTwos 35 = .ok (.iload_n 3, 1) := by decide +kernel
theorem dX2_lackingTwos_36 : decode cX2_lackingTwos 36 = .ok (.iload 4, 2) := by decide +kernel
theorem dX2_lackingTwos_38 : decode cX2_lackingTwos 38 = .ok (.invokevirtual 60, 3) := by decide +kernel
theorem dX2_lackingTwos_41 : decode cX2_lackingTwos 41 = .ok (.ifCond .le 7, 3) := by decide +kernel
theorem dX2_lackingTwos_44 : decode cX2_lackingTwos 44 = .ok (.iconst 1, 1) := by decide +kernel
theorem dX2_lackingTwos_45 : decode cX2_lackingTwos 45 = .ok (.goto 4, 3) := by decide +kernel
theorem dX2_lackingTwos_48 : decode cX2_lackingTwos 48 = .ok (.iconst 0, 1) := by decide +kernel
theorem dX2_lackingTwos_49 : decode cX2_lackingTwos 49 = .ok (.iadd, 1) := by decide +kernel
theorem dX2_lackingTwos_50 : decode cX2_lackingTwos 50 = .ok (.istore_n 2, 1) := by decide +kernel
theorem dX2_lackingTwos_51 : decode cX2_lackingTwos 51 = .ok (.iinc 4 1, 3) := by decide +kernel
theorem dX2_lackingTwos_54 : decode cX2_lackingTwos 54 = .ok (.goto (-34), 3) := by decide +kernel
theorem dX2_lackingTwos_57 : decode cX2_lackingTwos 57 = .ok (.iinc 3 1, 3) := by decide +kernel
theorem dX2_lackingTwos_60 : decode cX2_lackingTwos 60 = .ok (.goto (-56), 3) := by decide +kernel
theorem dX2_lackingTwos_63 : decode cX2_lackingTwos 63 = .ok (.iload_n 2, 1) := by decide +kernel
theorem dX2_lackingTwos_64 : decode cX2_lackingTwos 64 = .ok (.ireturn, 1) := by decide +kernel
theorem dX2_lacks_0 : decode cX2_lacks 0 = .ok (.iconst 0, 1) := by decide +kernel
theorem dX2_lacks_1 : decode cX2_lacks 1 = .ok (.istore_n 2, 1) := by decide +kernel
theorem dX2_lacks_2 : decode cX2_lacks 2 = .ok (.iconst 0, 1) := by decide +kernel
theorem dX2_lacks_3 : decode cX2_lacks 3 = .ok (.istore_n 3, 1) := by decide +kernel
theorem dX2_lacks_4 : decode cX2_lacks 4 = .ok (.iload_n 3, 1) := by decide +kernel
theorem dX2_lacks_5 : decode cX2_lacks 5 = .ok (.aload_n 0, 1) := by decide +kernel
theorem dX2_lacks_6 : decode cX2_lacks 6 = .ok (.getfield 15, 3) := by decide +kernel
theorem dX2_lacks_9 : decode cX2_lacks 9 = .ok (.getfield 19, 3) := by decide +kernel
theorem dX2_lacks_12 : decode cX2_lacks 12 = .ok (.if_icmp .ge 43, 3) := by decide +kernel
theorem dX2_lacks_15 : decode cX2_lacks 15 = .ok (.iload_n 3, 1) := by decide +kernel
theorem dX2_lacks_16 : decode cX2_lacks 16 = .ok (.iconst 1, 1) := by decide +kernel
theorem dX2_lacks_17 : decode cX2_lacks 17 = .ok (.iadd, 1) := by decide +kernel
theorem dX2_lacks_18 : decode cX2_lacks 18 = .ok (.istore 4, 2) := by decide +kernel
theorem dX2_lacks_20 : decode cX2_lacks 20 = .ok (.iload 4, 2) := by decide +kernel
theorem dX2_lacks_22 : decode cX2_lacks 22 = .ok (.aload_n 0, 1) := by decide +kernel
theorem dX2_lacks_23 : decode cX2_lacks 23 = .ok (.getfield 15, 3) := by decide +kernel
theorem dX2_lacks_26 : decode cX2_lacks 26 = .ok (.getfield 19, 3) := by decide +kernel
theorem dX2_lacks_29 : decode cX2_lacks 29 = .ok (.if_icmp .ge 20, 3) := by decide +kernel
theorem dX2_lacks_32 : decode cX2_lacks 32 = .ok (.iload_n 2, 1) := by decide +kernel
theorem dX2_lacks_33 : decode cX2_lacks 33 = .ok (.aload_n 0, 1) := by decide +kernel
theorem dX2_lacks_34 : decode cX2_lacks 34 = .ok (.aload_n 1, 1) := by decide +kernel
theorem dX2_lacks_35 : decode cX2_lacks 35 = .ok (.iload_n 3, 1) := by decide +kernel
theorem dX2_lacks_36 : decode cX2_lacks 36 = .ok (.iload 4, 2) := by decide +kernel
theorem dX2_lacks_38 : decode cX2_lacks 38 = .ok (.invokevirtual 60, 3) := by decide +kernel
theorem dX2_lacks_41 : decode cX2_lacks 41 = .ok (.iadd, 1) := by decide +kernel
theorem dX2_lacks_42 : decode cX2_lacks 42 = .ok (.istore_n 2, 1) := by decide +kernel
theorem dX2_lacks_43 : decode cX2_lacks 43 = .ok (.iinc 4 1, 3) := by decide +kernel
theorem dX2_lacks_46 : decode cX2_lacks 46 = .ok (.goto (-26), 3) := by decide +kernel
theorem dX2_lacks_49 : decode cX2_lacks 49 = .ok (.iinc 3 1, 3) := by decide +kernel
theorem dX2_lacks_52 : decode cX2_lacks 52 = .ok (.goto (-48), 3) := by decide +kernel
theorem dX2_lacks_55 : decode cX2_lacks 55 = .ok (.iload_n 2, 1) := by decide +kernel
theorem dX2_lacks_56 : decode cX2_lacks 56 = .ok (.ireturn, 1) := by decide +kernel
theorem dX2_sums_0 : decode cX2_sums 0 = .ok (.iconst 0, 1) := by decide +kernel
theorem dX2_sums_1 : decode cX2_sums 1 = .ok (.istore_n 2, 1) := by decide +kernel
theorem dX2_sums_2 : decode cX2_sums 2 = .ok (.iconst 0, 1) := by decide +kernel
theorem dX2_sums_3 : decode cX2_sums 3 = .ok (.istore_n 3, 1) := by decide +kernel
theorem dX2_sums_4 : decode cX2_sums 4 = .ok (.iload_n 3, 1) := by decide +kernel
theorem dX2_sums_5 : decode cX2_sums 5 = .ok (.aload_n 0, 1) := by decide +kernel
theorem dX2_sums_6 : decode cX2_sums 6 = .ok (.getfield 15, 3) := by decide +kernel
theorem dX2_sums_9 : decode cX2_sums 9 = .ok (.getfield 19, 3) := by decide +kernel
theorem dX2_sums_12 : decode cX2_sums 12 = .ok (.if_icmp .ge 107, 3) := by decide +kernel
theorem dX2_sums_15 : decode cX2_sums 15 = .ok (.iload_n 3, 1) := by decide +kernel
theorem dX2_sums_16 : decode cX2_sums 16 = .ok (.iconst 1, 1) := by decide +kernel
theorem dX2_sums_17 : decode cX2_sums 17 = .ok (.iadd, 1) := by decide +kernel
theorem dX2_sums_18 : decode cX2_sums 18 = .ok (.istore 4, 2) := by decide +kernel
theorem dX2_sums_20 : decode cX2_sums 20 = .ok (.iload 4, 2) := by decide +kernel
theorem dX2_sums_22 : decode cX2_sums 22 = .ok (.aload_n 0, 1) := by decide +kernel
theorem dX2_sums_23 : decode cX2_sums 23 = .ok (.getfield 15, 3) := by decide +kernel
theorem dX2_sums_26 : decode cX2_sums 26 = .ok (.getfield 19, 3) := by decide +kernel
theorem dX2_sums_29 : decode cX2_sums 29 = .ok (.if_icmp .ge 84, 3) := by decide +kernel
theorem dX2_sums_32 : decode cX2_sums 32 = .ok (.aload_n 0, 1) := by decide +kernel
theorem dX2_sums_33 : decode cX2_sums 33 = .ok (.getfield 15, 3) := by decide +kernel
theorem dX2_sums_36 : decode cX2_sums 36 = .ok (.iload_n 3, 1) := by decide +kernel
theorem dX2_sums_37 : decode cX2_sums 37 = .ok (.iload 4, 2) := by decide +kernel
theorem dX2_sums_39 : decode cX2_sums 39 = .ok (.invokevirtual 64, 3) := by decide +kernel
theorem dX2_sums_42 : decode cX2_sums 42 = .ok (.ifCond .eq 13, 3) := by decide +kernel
theorem dX2_sums_45 : decode cX2_sums 45 = .ok (.aload_n 0, 1) := by decide +kernel
theorem dX2_sums_46 : decode cX2_sums 46 = .ok (.getfield 15, 3) := by decide +kernel
theorem dX2_sums_49 : decode cX2_sums 49 = .ok (.getfield 19, 3) := by decide +kernel
theorem dX2_sums_52 : decode cX2_sums 52 = .ok (.goto 4, 3) := by decide +kernel
theorem dX2_sums_55 : decode cX2_sums 55 = .ok (.iconst 0, 1) := by decide +kernel
theorem dX2_sums_56 : decode cX2_sums 56 = .ok (.istore 5, 2) := by decide +kernel
theorem dX2_sums_58 : decode cX2_sums 58 = .ok (.iload 4, 2) := by decide +kernel
theorem dX2_sums_60 : decode cX2_sums 60 = .ok (.iconst 1, 1) := by decide +kernel
theorem dX2_sums_61 : decode cX2_sums 61 = .ok (.iadd, 1) := by decide +kernel
theorem dX2_sums_62 : decode cX2_sums 62 = .ok (.istore 6, 2) := by decide +kernel
theorem dX2_sums_64 : decode cX2_sums 64 = .ok (.iload 6, 2) := by decide +kernel
theorem dX2_sums_66 : decode cX2_sums 66 = .ok (.iload 5, 2) := by decide +kernel
theorem dX2_sums_68 : decode cX2_sums 68 = .ok (.if_icmp .ge 39, 3) := by decide +kernel
theorem dX2_sums_71 : decode cX2_sums 71 = .ok (.iload_n 2, 1) := by decide +kernel
theorem dX2_sums_72 : decode cX2_sums 72 = .ok (.aload_n 0, 1) := by decide +kernel
theorem dX2_sums_73 : decode cX2_sums 73 = .ok (.aload_n 1, 1) := by decide +kernel
theorem dX2_sums_74 : decode cX2_sums 74 = .ok (.iload_n 3, 1) := by decide +kernel
theorem dX2_sums_75 : decode cX2_sums 75 = .ok (.iload 4, 2) := by decide +kernel
theorem dX2_sums_77 : decode cX2_sums 77 = .ok (.iload 6, 2) := by decide +kernel
theorem dX2_sums_79 : decode cX2_sums 79 = .ok (.invokevirtual 68, 3) := by decide +kernel
theorem dX2_sums_82 : decode cX2_sums 82 = .ok (.ifCond .eq 16, 3) := by decide +kernel
theorem dX2_sums_85 : decode cX2_sums 85 = .ok (.aload_n 0, 1) := by decide +kernel
theorem dX2_sums_86 : decode cX2_sums 86 = .ok (.aload_n 1, 1) := by decide +kernel
theorem dX2_sums_87 : decode cX2_sums 87 = .ok (.iload_n 3, 1) := by decide +kernel
theorem dX2_sums_88 : decode cX2_sums 88 = .ok (.iload 4, 2) := by decide +kernel
theorem dX2_sums_90 : decode cX2_sums 90 = .ok (.iload 6, 2) := by decide +kernel
theorem dX2_sums_92 : decode cX2_sums 92 = .ok (.invokevirtual 72, 3) := by decide +kernel
theorem dX2_sums_95 : decode cX2_sums 95 = .ok (.goto 4, 3) := by decide +kernel
theorem dX2_sums_98 : decode cX2_sums 98 = .ok (.iconst 0, 1) := by decide +kernel
theorem dX2_sums_99 : decode cX2_sums 99 = .ok (.iadd, 1) := by decide +kernel
theorem dX2_sums_100 : decode cX2_sums 100 = .ok (.istore_n 2, 1) := by decide +kernel
theorem dX2_sums_101 : decode cX2_sums 101 = .ok (.iinc 6 1, 3) := by decide +kernel
theorem dX2_sums_104 : decode cX2_sums 104 = .ok (.goto (-40), 3) := by decide +kernel
theorem dX2_sums_107 : decode cX2_sums 107 = .ok (.iinc 4 1, 3) := by decide +kernel
theorem dX2_sums_110 : decode cX2_sums 110 = .ok (.goto (-90), 3) := by decide +kernel
theorem dX2_sums_113 : decode cX2_sums 113 = .ok (.iinc 3 1, 3) := by decide +kernel
theorem dX2_sums_116 : decode cX2_sums 116 = .ok (.goto (-112), 3) := by decide +kernel
theorem dX2_sums_119 : decode cX2_sums 119 = .ok (.iload_n 2, 1) := by decide +kernel
theorem dX2_sums_120 : decode cX2_sums 120 = .ok (.ireturn, 1) := by decide +kernel
theorem dX2_sumTogether_0 : decode cX2_sumTogether 0 = .ok (.aload_n 1, 1) := by decide +kernel
theorem dX2_sumTogether_1 : decode cX2_sumTogether 1 = .ok (.iload_n 2, 1) := by decide +kernel
theorem dX2_sumTogether_2 : decode cX2_sumTogether 2 = .ok (.iaload, 1) := by decide +kernel
theorem dX2_sumTogether_3 : decode cX2_sumTogether 3 = .ok (.ifCond .lt 58, 3) := by decide +kernel
theorem dX2_sumTogether_6 : decode cX2_sumTogether 6 = .ok (.aload_n 1, 1) := by decide +kernel
theorem dX2_sumTogether_7 : decode cX2_sumTogether 7 = .ok (.iload_n 3, 1) := by decide +kernel
theorem dX2_sumTogether_8 : decode cX2_sumTogether 8 = .ok (.iaload, 1) := by decide +kernel
theorem dX2_sumTogether_9 : decode cX2_sumTogether 9 = .ok (.ifCond .lt 52, 3) := by decide +kernel
theorem dX2_sumTogether_12 : decode cX2_sumTogether 12 = .ok (.aload_n 1, 1) := by decide +kernel
theorem dX2_sumTogether_13 : decode cX2_sumTogether 13 = .ok (.iload 4, 2) := by decide +kernel
theorem dX2_sumTogether_15 : decode cX2_sumTogether 15 = .ok (.iaload, 1) := by decide +kernel
theorem dX2_sumTogether_16 : decode cX2_sumTogether 16 = .ok (.ifCond .lt 45, 3) := by decide +kernel
theorem dX2_sumTogether_19 : decode cX2_sumTogether 19 = .ok (.aload_n 0, 1) := by decide +kernel
theorem dX2_sumTogether_20 : decode cX2_sumTogether 20 = .ok (.getfield 15, 3) := by decide +kernel
theorem dX2_sumTogether_23 : decode cX2_sumTogether 23 = .ok (.aload_n 0, 1) := by decide +kernel
theorem dX2_sumTogether_24 : decode cX2_sumTogether 24 = .ok (.getfield 15, 3) := by decide +kernel
theorem dX2_sumTogether_27 : decode cX2_sumTogether 27 = .ok (.getfield 76, 3) := by decide +kernel
theorem dX2_sumTogether_30 : decode cX2_sumTogether 30 = .ok (.iload_n 2, 1) := by decide +kernel
theorem dX2_sumTogether_31 : decode cX2_sumTogether 31 = .ok (.iaload, 1) := by decide +kernel
theorem dX2_sumTogether_32 : decode cX2_sumTogether 32 = .ok (.aload_n 0, 1) := by decide +kernel
theorem dX2_sumTogether_33 : decode cX2_sumTogether 33 = .ok (.getfield 15, 3) := by decide +kernel
theorem dX2_sumTogether_36 : decode cX2_sumTogether 36 = .ok (.getfield 76, 3) := by decide +kernel
theorem dX2_sumTogether_39 : decode cX2_sumTogether 39 = .ok (.iload_n 3, 1) := by decide +kernel
theorem dX2_sumTogether_40 : decode cX2_sumTogether 40 = .ok (.iaload, 1) := by decide +kernel
theorem dX2_sumTogether_41 : decode cX2_sumTogether 41 = .ok (.aload_n 0, 1) := by decide +kernel
theorem dX2_sumTogether_42 : decode cX2_sumTogether 42 = .ok (.getfield 15, 3) := by decide +kernel
theorem dX2_sumTogether_45 : decode cX2_sumTogether 45 = .ok (.getfield 76, 3) := by decide +kernel
theorem dX2_sumTogether_48 : decode cX2_sumTogether 48 = .ok (.iload 4, 2) := by decide +kernel
theorem dX2_sumTogether_50 : decode cX2_sumTogether 50 = .ok (.iaload, 1) := by decide +kernel
theorem dX2_sumTogether_51 : decode cX2_sumTogether 51 = .ok (.invokevirtual 79, 3) := by decide +kernel
theorem dX2_sumTogether_54 : decode cX2_sumTogether 54 = .ok (.ifCond .eq 7, 3) := by decide +kernel
theorem dX2_sumTogether_57 : decode cX2_sumTogether 57 = .ok (.iconst 1, 1) := by decide +kernel
theorem dX2_sumTogether_58 : decode cX2_sumTogether 58 = .ok (.goto 4, 3) := by decide +kernel
theorem dX2_sumTogether_61 : decode cX2_sumTogether 61 = .ok (.iconst 0, 1) := by decide +kernel
theorem dX2_sumTogether_62 : decode cX2_sumTogether 62 = .ok (.ireturn, 1) := by decide +kernel
theorem dX2_sumsOfThree_0 : decode cX2_sumsOfThree 0 = .ok (.iconst 0, 1) := by decide +kernel
theorem dX2_sumsOfThree_1 : decode cX2_sumsOfThree 1 = .ok (.istore 5, 2) := by decide +kernel
theorem dX2_sumsOfThree_3 : decode cX2_sumsOfThree 3 = .ok (.aload_n 0, 1) := by decide +kernel
theorem dX2_sumsOfThree_4 : decode cX2_sumsOfThree 4 = .ok (.getfield 15, 3) := by decide +kernel
theorem dX2_sumsOfThree_7 : decode cX2_sumsOfThree 7 = .ok (.iload_n 2, 1) := by decide +kernel
theorem dX2_sumsOfThree_8 : decode cX2_sumsOfThree 8 = .ok (.invokevirtual 49, 3) := by decide +kernel
theorem dX2_sumsOfThree_11 : decode cX2_sumsOfThree 11 = .ok (.istore 6, 2) := by decide +kernel
theorem dX2_sumsOfThree_13 : decode cX2_sumsOfThree 13 = .ok (.aload_n 0, 1) := by decide +kernel
theorem dX2_sumsOfThree_14 : decode cX2_sumsOfThree 14 = .ok (.getfield 15, 3) := by decide +kernel
theorem dX2_sumsOfThree_17 : decode cX2_sumsOfThree 17 = .ok (.iload_n 3, 1) := by decide +kernel
theorem dX2_sumsOfThree_18 : decode cX2_sumsOfThree 18 = .ok (.invokevirtual 49, 3) := by decide +kernel
theorem dX2_sumsOfThree_21 : decode cX2_sumsOfThree 21 = .ok (.istore 7, 2) := by decide +kernel
theorem dX2_sumsOfThree_23 : decode cX2_sumsOfThree 23 = .ok (.aload_n 0, 1) := by decide +kernel
theorem dX2_sumsOfThree_24 : decode cX2_sumsOfThree 24 = .ok (.getfield 15, 3) := by decide +kernel
theorem dX2_sumsOfThree_27 : decode cX2_sumsOfThree 27 = .ok (.iload 4, 2) := by decide +kernel
theorem dX2_sumsOfThree_29 : decode cX2_sumsOfThree 29 = .ok (.invokevirtual 49, 3) := by decide +kernel
theorem dX2_sumsOfThree_32 : decode cX2_sumsOfThree 32 = .ok (.istore 8, 2) := by decide +kernel
theorem dX2_sumsOfThree_34 : decode cX2_sumsOfThree 34 = .ok (.aload_n 1, 1) := by decide +kernel
theorem dX2_sumsOfThree_35 : decode cX2_sumsOfThree 35 = .ok (.iload_n 2, 1) := by decide +kernel
theorem dX2_sumsOfThree_36 : decode cX2_sumsOfThree 36 = .ok (.iaload, 1) := by decide +kernel
theorem dX2_sumsOfThree_37 : decode cX2_sumsOfThree 37 = .ok (.istore 9, 2) := by decide +kernel
theorem dX2_sumsOfThree_39 : decode cX2_sumsOfThree 39 = .ok (.iload 9, 2) := by decide +kernel
theorem dX2_sumsOfThree_41 : decode cX2_sumsOfThree 41 = .ok (.aload_n 1, 1) := by decide +kernel
theorem dX2_sumsOfThree_42 : decode cX2_sumsOfThree 42 = .ok (.iload_n 2, 1) := by decide +kernel
theorem dX2_sumsOfThree_43 : decode cX2_sumsOfThree 43 = .ok (.iaload, 1) := by decide +kernel
theorem dX2_sumsOfThree_44 : decode cX2_sumsOfThree 44 = .ok (.iload 6, 2) := by decide +kernel
theorem dX2_sumsOfThree_46 : decode cX2_sumsOfThree 46 = .ok (.iadd, 1) := by decide +kernel
theorem dX2_sumsOfThree_47 : decode cX2_sumsOfThree 47 = .ok (.if_icmp .gt 145, 3) := by decide +kernel
theorem dX2_sumsOfThree_50 : decode cX2_sumsOfThree 50 = .ok (.aload_n 1, 1) := by decide +kernel
theorem dX2_sumsOfThree_51 : decode cX2_sumsOfThree 51 = .ok (.iload_n 3, 1) := by decide +kernel
theorem dX2_sumsOfThree_52 : decode cX2_sumsOfThree 52 = .ok (.iaload, 1) := by decide +kernel
theorem dX2_sumsOfThree_53 : decode cX2_sumsOfThree 53 = .ok (.istore 10, 2) := by decide +kernel
theorem dX2_sumsOfThree_55 : decode cX2_sumsOfThree 55 = .ok (.iload 10, 2) := by decide +kernel
theorem dX2_sumsOfThree_57 : decode cX2_sumsOfThree 57 = .ok (.aload_n 1, 1) := by decide +kernel
theorem dX2_sumsOfThree_58 : decode cX2_sumsOfThree 58 = .ok (.iload_n 3, 1) := by decide +kernel
theorem dX2_sumsOfThree_59 : decode cX2_sumsOfThree 59 = .ok (.iaload, 1) := by decide +kernel
theorem dX2_sumsOfThree_60 : decode cX2_sumsOfThree 60 = .ok (.iload 7, 2) := by decide +kernel
theorem dX2_sumsOfThree_62 : decode cX2_sumsOfThree 62 = .ok (.iadd, 1) := by decide +kernel
theorem dX2_sumsOfThree_63 : decode cX2_sumsOfThree 63 = .ok (.if_icmp .gt 115, 3) := by decide +kernel
theorem dX2_sumsOfThree_66 : decode cX2_sumsOfThree 66 = .ok (.aload_n 1, 1) := by decide +kernel
theorem dX2_sumsOfThree_67 : decode cX2_sumsOfThree 67 = .ok (.iload 4, 2) := by decide +kernel
theorem dX2_sumsOfThree_69 : decode cX2_sumsOfThree 69 = .ok (.iaload, 1) := by decide +kernel
theorem dX2_sumsOfThree_70 : decode cX2_sumsOfThree 70 = .ok (.istore 11, 2) := by decide +kernel
theorem dX2_sumsOfThree_72 : decode cX2_sumsOfThree 72 = .ok (.iload 11, 2) := by decide +kernel
theorem dX2_sumsOfThree_74 : decode cX2_sumsOfThree 74 = .ok (.aload_n 1, 1) := by decide +kernel
theorem dX2_sumsOfThree_75 : decode cX2_sumsOfThree 75 = .ok (.iload 4, 2) := by decide +kernel
theorem dX2_sumsOfThree_77 : decode cX2_sumsOfThree 77 = .ok (.iaload, 1) := by decide +kernel
theorem dX2_sumsOfThree_78 : decode cX2_sumsOfThree 78 = .ok (.iload 8, 2) := by decide +kernel
theorem dX2_sumsOfThree_80 : decode cX2_sumsOfThree 80 = .ok (.iadd, 1) := by decide +kernel
theorem dX2_sumsOfThree_81 : decode cX2_sumsOfThree 81 = .ok (.if_icmp .gt 83, 3) := by decide +kernel
theorem dX2_sumsOfThree_84 : decode cX2_sumsOfThree 84 = .ok (.iload 5, 2) := by decide +kernel
theorem dX2_sumsOfThree_86 : decode cX2_sumsOfThree 86 = .ok (.iload 10, 2) := by decide +kernel
theorem dX2_sumsOfThree_88 : decode cX2_sumsOfThree 88 = .ok (.iload 11, 2) := by decide +kernel
theorem dX2_sumsOfThree_90 : decode cX2_sumsOfThree 90 = .ok (.iadd, 1) := by decide +kernel
theorem dX2_sumsOfThree_91 : decode cX2_sumsOfThree 91 = .ok (.iconst 2, 1) := by decide +kernel
theorem dX2_sumsOfThree_92 : decode cX2_sumsOfThree 92 = .ok (.iload 9, 2) := by decide +kernel
theorem dX2_sumsOfThree_94 : decode cX2_sumsOfThree 94 = .ok (.imul, 1) := by decide +kernel
theorem dX2_sumsOfThree_95 : decode cX2_sumsOfThree 95 = .ok (.if_icmp .ne 7, 3) := by decide +kernel
theorem dX2_sumsOfThree_98 : decode cX2_sumsOfThree 98 = .ok (.iconst 1, 1) := by decide +kernel
theorem dX2_sumsOfThree_99 : decode cX2_sumsOfThree 99 = .ok (.goto 4, 3) := by decide +kernel
theorem dX2_sumsOfThree_102 : decode cX2_sumsOfThree 102 = .ok (.iconst 0, 1) := by decide +kernel
theorem dX2_sumsOfThree_103 : decode cX2_sumsOfThree 103 = .ok (.iadd, 1) := by decide +kernel
theorem dX2_sumsOfThree_104 : decode cX2_sumsOfThree 104 = .ok (.istore 5, 2) := by decide +kernel
theorem dX2_sumsOfThree_106 : decode cX2_sumsOfThree 106 = .ok (.iload 5, 2) := by decide +kernel
theorem dX2_sumsOfThree_108 : decode cX2_sumsOfThree 108 = .ok (.iload 9, 2) := by decide +kernel
theorem dX2_sumsOfThree_110 : decode cX2_sumsOfThree 110 = .ok (.iload 11, 2) := by decide +kernel
theorem dX2_sumsOfThree_112 : decode cX2_sumsOfThree 112 = .ok (.iadd, 1) := by decide +kernel
theorem dX2_sumsOfThree_113 : decode cX2_sumsOfThree 113 = .ok (.iconst 2, 1) := by decide +kernel
theorem dX2_sumsOfThree_114 : decode cX2_sumsOfThree 114 = .ok (.iload 10, 2) := by decide +kernel
theorem dX2_sumsOfThree_116 : decode cX2_sumsOfThree 116 = .ok (.imul, 1) := by decide +kernel
theorem dX2_sumsOfThree_117 : decode cX2_sumsOfThree 117 = .ok (.if_icmp .ne 7, 3) := by decide +kernel
theorem dX2_sumsOfThree_120 : decode cX2_sumsOfThree 120 = .ok (.iconst 1, 1) := by decide +kernel
theorem dX2_sumsOfThree_121 : decode cX2_sumsOfThree 121 = .ok (.goto 4, 3) := by decide +kernel
theorem dX2_sumsOfThree_124 : decode cX2_sumsOfThree 124 = .ok (.iconst 0, 1) := by decide +kernel
theorem dX2_sumsOfThree_125 : decode cX2_sumsOfThree 125 = .ok (.iadd, 1) := by decide +kernel
theorem dX2_sumsOfThree_126 : decode cX2_sumsOfThree 126 = .ok (.istore 5, 2) := by decide +kernel
theorem dX2_sumsOfThree_128 : decode cX2_sumsOfThree 128 = .ok (.iload 5, 2) := by decide +kernel
theorem dX2_sumsOfThree_130 : decode cX2_sumsOfThree 130 = .ok (.iload 9, 2) := by decide +kernel
theorem dX2_sumsOfThree_132 : decode cX2_sumsOfThree 132 = .ok (.iload 10, 2) := by decide +kernel
theorem dX2_sumsOfThree_134 : decode cX2_sumsOfThree 134 = .ok (.iadd, 1) := by decide +kernel
theorem dX2_sumsOfThree_135 : decode cX2_sumsOfThree 135 = .ok (.iconst 2, 1) := by decide +kernel
theorem dX2_sumsOfThree_136 : decode cX2_sumsOfThree 136 = .ok (.iload 11, 2) := by decide +kernel
theorem dX2_sumsOfThree_138 : decode cX2_sumsOfThree 138 = .ok (.imul, 1) := by decide +kernel
theorem dX2_sumsOfThree_139 : decode cX2_sumsOfThree 139 = .ok (.if_icmp .ne 7, 3) := by decide +kernel
theorem dX2_sumsOfThree_142 : decode cX2_sumsOfThree 142 = .ok (.iconst 1, 1) := by decide +kernel
theorem dX2_sumsOfThree_143 : decode cX2_sumsOfThree 143 = .ok (.goto 4, 3) := by decide +kernel
theorem dX2_sumsOfThree_146 : decode cX2_sumsOfThree 146 = .ok (.iconst 0, 1) := by decide +kernel
theorem dX2_sumsOfThree_147 : decode cX2_sumsOfThree 147 = .ok (.iadd, 1) := by decide +kernel
theorem dX2_sumsOfThree_148 : decode cX2_sumsOfThree 148 = .ok (.istore 5, 2) := by decide +kernel
theorem dX2_sumsOfThree_150 : decode cX2_sumsOfThree 150 = .ok (.iload 11, 2) := by decide +kernel
theorem dX2_sumsOfThree_152 : decode cX2_sumsOfThree 152 = .ok (.iconst 1, 1) := by decide +kernel
theorem dX2_sumsOfThree_153 : decode cX2_sumsOfThree 153 = .ok (.iload 8, 2) := by decide +kernel
theorem dX2_sumsOfThree_155 : decode cX2_sumsOfThree 155 = .ok (.invokestatic 57, 3) := by decide +kernel
theorem dX2_sumsOfThree_158 : decode cX2_sumsOfThree 158 = .ok (.iadd, 1) := by decide +kernel
theorem dX2_sumsOfThree_159 : decode cX2_sumsOfThree 159 = .ok (.istore 11, 2) := by decide +kernel
theorem dX2_sumsOfThree_161 : decode cX2_sumsOfThree 161 = .ok (.goto (-89), 3) := by decide +kernel
theorem dX2_sumsOfThree_164 : decode cX2_sumsOfThree 164 = .ok (.iload 10, 2) := by decide +kernel
theorem dX2_sumsOfThree_166 : decode cX2_sumsOfThree 166 = .ok (.iconst 1, 1) := by decide +kernel
theorem dX2_sumsOfThree_167 : decode cX2_sumsOfThree 167 = .ok (.iload 7, 2) := by decide +kernel
theorem dX2_sumsOfThree_169 : decode cX2_sumsOfThree 169 = .ok (.invokestatic 57, 3) := by decide +kernel
theorem dX2_sumsOfThree_172 : decode cX2_sumsOfThree 172 = .ok (.iadd, 1) := by decide +kernel
theorem dX2_sumsOfThree_173 : decode cX2_sumsOfThree 173 = .ok (.istore 10, 2) := by decide +kernel
theorem dX2_sumsOfThree_175 : decode cX2_sumsOfThree 175 = .ok (.goto (-120), 3) := by decide +kernel
theorem dX2_sumsOfThree_178 : decode cX2_sumsOfThree 178 = .ok (.iload 9, 2) := by decide +kernel
theorem dX2_sumsOfThree_180 : decode cX2_sumsOfThree 180 = .ok (.iconst 1, 1) := by decide +kernel
theorem dX2_sumsOfThree_181 : decode cX2_sumsOfThree 181 = .ok (.iload 6, 2) := by decide +kernel
theorem dX2_sumsOfThree_183 : decode cX2_sumsOfThree 183 = .ok (.invokestatic 57, 3) := by decide +kernel
theorem dX2_sumsOfThree_186 : decode cX2_sumsOfThree 186 = .ok (.iadd, 1) := by decide +kernel
theorem dX2_sumsOfThree_187 : decode cX2_sumsOfThree 187 = .ok (.istore 9, 2) := by decide +kernel
theorem dX2_sumsOfThree_189 : decode cX2_sumsOfThree 189 = .ok (.goto (-150), 3) := by decide +kernel
theorem dX2_sumsOfThree_192 : decode cX2_sumsOfThree 192 = .ok (.iload 5, 2) := by decide +kernel
theorem dX2_sumsOfThree_194 : decode cX2_sumsOfThree 194 = .ok (.ireturn, 1) := by decide +kernel
theorem dX2_strayBits_0 : decode cX2_strayBits 0 = .ok (.iconst 0, 1) := by decide +kernel
theorem dX2_strayBits_1 : decode cX2_strayBits 1 = .ok (.istore_n 2, 1) := by decide +kernel
theorem dX2_strayBits_2 : decode cX2_strayBits 2 = .ok (.iconst 0, 1) := by decide +kernel
theorem dX2_strayBits_3 : decode cX2_strayBits 3 = .ok (.istore_n 3, 1) := by decide +kernel
theorem dX2_strayBits_4 : decode cX2_strayBits 4 = .ok (.iload_n 3, 1) := by decide +kernel
theorem dX2_strayBits_5 : decode cX2_strayBits 5 = .ok (.aload_n 0, 1) := by decide +kernel
theorem dX2_strayBits_6 : decode cX2_strayBits 6 = .ok (.getfield 15, 3) := by decide +kernel
theorem dX2_strayBits_9 : decode cX2_strayBits 9 = .ok (.getfield 19, 3) := by decide +kernel
theorem dX2_strayBits_12 : decode cX2_strayBits 12 = .ok (.if_icmp .ge 54, 3) := by decide +kernel
theorem dX2_strayBits_15 : decode cX2_strayBits 15 = .ok (.aload_n 1, 1) := by decide +kernel
theorem dX2_strayBits_16 : decode cX2_strayBits 16 = .ok (.iload_n 3, 1) := by decide +kernel
theorem dX2_strayBits_17 : decode cX2_strayBits 17 = .ok (.iaload, 1) := by decide +kernel
theorem dX2_strayBits_18 : decode cX2_strayBits 18 = .ok (.ifCond .lt 24, 3) := by decide +kernel
theorem dX2_strayBits_21 : decode cX2_strayBits 21 = .ok (.aload_n 0, 1) := by decide +kernel
theorem dX2_strayBits_22 : decode cX2_strayBits 22 = .ok (.getfield 15, 3) := by decide +kernel
theorem dX2_strayBits_25 : decode cX2_strayBits 25 = .ok (.iload_n 3, 1) := by decide +kernel
theorem dX2_strayBits_26 : decode cX2_strayBits 26 = .ok (.invokevirtual 83, 3) := by decide +kernel
theorem dX2_strayBits_29 : decode cX2_strayBits 29 = .ok (.aload_n 1, 1) := by decide +kernel
theorem dX2_strayBits_30 : decode cX2_strayBits 30 = .ok (.iload_n 3, 1) := by decide +kernel
theorem dX2_strayBits_31 : decode cX2_strayBits 31 = .ok (.iaload, 1) := by decide +kernel
theorem dX2_strayBits_32 : decode cX2_strayBits 32 = .ok (.iushr, 1) := by decide +kernel
theorem dX2_strayBits_33 : decode cX2_strayBits 33 = .ok (.iconst 1, 1) := by decide +kernel
theorem dX2_strayBits_34 : decode cX2_strayBits 34 = .ok (.iand, 1) := by decide +kernel
theorem dX2_strayBits_35 : decode cX2_strayBits 35 = .ok (.ifCond .ne 7, 3) := by decide +kernel
theorem dX2_strayBits_38 : decode cX2_strayBits 38 = .ok (.iconst 1, 1) := by decide +kernel
theorem dX2_strayBits_39 : decode cX2_strayBits 39 = .ok (.goto 4, 3) := by decide +kernel
theorem dX2_strayBits_42 : decode cX2_strayBits 42 = .ok (.iconst 0, 1) := by decide +kernel
theorem dX2_strayBits_43 : decode cX2_strayBits 43 = .ok (.istore 4, 2) := by decide +kernel
theorem dX2_strayBits_45 : decode cX2_strayBits 45 = .ok (.iload_n 2, 1) := by decide +kernel
theorem dX2_strayBits_46 : decode cX2_strayBits 46 = .ok (.iload 4, 2) := by decide +kernel
theorem dX2_strayBits_48 : decode cX2_strayBits 48 = .ok (.ifCond .eq 9, 3) := by decide +kernel
theorem dX2_strayBits_51 : decode cX2_strayBits 51 = .ok (.iconst 1, 1) := by decide +kernel
theorem dX2_strayBits_52 : decode cX2_strayBits 52 = .ok (.iload_n 3, 1) := by decide +kernel
theorem dX2_strayBits_53 : decode cX2_strayBits 53 = .ok (.ishl, 1) := by decide +kernel
theorem dX2_strayBits_54 : decode cX2_strayBits 54 = .ok (.goto 4, 3) := by decide +kernel
theorem dX2_strayBits_57 : decode cX2_strayBits 57 = .ok (.iconst 0, 1) := by decide +kernel
theorem dX2_strayBits_58 : decode cX2_strayBits 58 = .ok (.ior, 1) := by decide +kernel
theorem dX2_strayBits_59 : decode cX2_strayBits 59 = .ok (.istore_n 2, 1) := by decide +kernel
theorem dX2_strayBits_60 : decode cX2_strayBits 60 = .ok (.iinc 3 1, 3) := by decide +kernel
theorem dX2_strayBits_63 : decode cX2_strayBits 63 = .ok (.goto (-59), 3) := by decide +kernel
theorem dX2_strayBits_66 : decode cX2_strayBits 66 = .ok (.iload_n 2, 1) := by decide +kernel
theorem dX2_strayBits_67 : decode cX2_strayBits 67 = .ok (.ireturn, 1) := by decide +kernel
theorem dX2_isClean_0 : decode cX2_isClean 0 = .ok (.iconst 0, 1) := by decide +kernel
theorem dX2_isClean_1 : decode cX2_isClean 1 = .ok (.istore_n 2, 1) := by decide +kernel
theorem dX2_isClean_2 : decode cX2_isClean 2 = .ok (.iload_n 2, 1) := by decide +kernel
theorem dX2_isClean_3 : decode cX2_isClean 3 = .ok (.aload_n 0, 1) := by decide +kernel
theorem dX2_isClean_4 : decode cX2_isClean 4 = .ok (.getfield 15, 3) := by decide +kernel
theorem dX2_isClean_7 : decode cX2_isClean 7 = .ok (.getfield 19, 3) := by decide +kernel
theorem dX2_isClean_10 : decode cX2_isClean 10 = .ok (.if_icmp .ge 33, 3) := by decide +kernel
theorem dX2_isClean_13 : decode cX2_isClean 13 = .ok (.aload_n 1, 1) := by decide +kernel
theorem dX2_isClean_14 : decode cX2_isClean 14 = .ok (.iload_n 2, 1) := by decide +kernel
theorem dX2_isClean_15 : decode cX2_isClean 15 = .ok (.iaload, 1) := by decide +kernel
theorem dX2_isClean_16 : decode cX2_isClean 16 = .ok (.ifCond .lt 21, 3) := by decide +kernel
theorem dX2_isClean_19 : decode cX2_isClean 19 = .ok (.aload_n 0, 1) := by decide +kernel
theorem dX2_isClean_20 : decode cX2_isClean 20 = .ok (.aload_n 1, 1) := by decide +kernel
theorem dX2_isClean_21 : decode cX2_isClean 21 = .ok (.iload_n 2, 1) := by decide +kernel
theorem dX2_isClean_22 : decode cX2_isClean 22 = .ok (.iload_n 2, 1) := by decide +kernel
theorem dX2_isClean_23 : decode cX2_isClean 23 = .ok (.invokevirtual 86, 3) := by decide +kernel
theorem dX2_isClean_26 : decode cX2_isClean 26 = .ok (.aload_n 1, 1) := by decide +kernel
theorem dX2_isClean_27 : decode cX2_isClean 27 = .ok (.iload_n 2, 1) := by decide +kernel
theorem dX2_isClean_28 : decode cX2_isClean 28 = .ok (.iaload, 1) := by decide +kernel
theorem dX2_isClean_29 : decode cX2_isClean 29 = .ok (.iushr, 1) := by decide +kernel
theorem dX2_isClean_30 : decode cX2_isClean 30 = .ok (.iconst 1, 1) := by decide +kernel
theorem dX2_isClean_31 : decode cX2_isClean 31 = .ok (.iand, 1) := by decide +kernel
theorem dX2_isClean_32 : decode cX2_isClean 32 = .ok (.ifCond .ne 5, 3) := by decide +kernel
theorem dX2_isClean_35 : decode cX2_isClean 35 = .ok (.iconst 0, 1) := by decide +kernel
theorem dX2_isClean_36 : decode cX2_isClean 36 = .ok (.ireturn, 1) := by decide +kernel
theorem dX2_isClean_37 : decode cX2_isClean 37 = .ok (.iinc 2 1, 3) := by decide +kernel
theorem dX2_isClean_40 : decode cX2_isClean 40 = .ok (.goto (-38), 3) := by decide +kernel
theorem dX2_isClean_43 : decode cX2_isClean 43 = .ok (.iconst 1, 1) := by decide +kernel
theorem dX2_isClean_44 : decode cX2_isClean 44 = .ok (.ireturn, 1) := by decide +kernel
theorem dX2_freeChannels_0 : decode cX2_freeChannels 0 = .ok (.lconst 0, 1) := by decide +kernel
theorem dX2_freeChannels_1 : decode cX2_freeChannels 1 = .ok (.lstore 4, 2) := by decide +kernel
theorem dX2_freeChannels_3 : decode cX2_freeChannels 3 = .ok (.iconst 0, 1) := by decide +kernel
theorem dX2_freeChannels_4 : decode cX2_freeChannels 4 = .ok (.istore 6, 2) := by decide +kernel
theorem dX2_freeChannels_6 : decode cX2_freeChannels 6 = .ok (.iload 6, 2) := by decide +kernel
theorem dX2_freeChannels_8 : decode cX2_freeChannels 8 = .ok (.iload_n 3, 1) := by decide +kernel
theorem dX2_freeChannels_9 : decode cX2_freeChannels 9 = .ok (.if_icmp .ge 119, 3) := by decide +kernel
theorem dX2_freeChannels_12 : decode cX2_freeChannels 12 = .ok (.iload 6, 2) := by decide +kernel
theorem dX2_freeChannels_14 : decode cX2_freeChannels 14 = .ok (.iload_n 2, 1) := by decide +kernel
theorem dX2_freeChannels_15 : decode cX2_freeChannels 15 = .ok (.if_icmp .eq 107, 3) := by decide +kernel
theorem dX2_freeChannels_18 : decode cX2_freeChannels 18 = .ok (.aload_n 1, 1) := by decide +kernel
theorem dX2_freeChannels_19 : decode cX2_freeChannels 19 = .ok (.iload 6, 2) := by decide +kernel
theorem dX2_freeChannels_21 : decode cX2_freeChannels 21 = .ok (.iaload, 1) := by decide +kernel
theorem dX2_freeChannels_22 : decode cX2_freeChannels 22 = .ok (.ifCond .ge 6, 3) := by decide +kernel
theorem dX2_freeChannels_25 : decode cX2_freeChannels 25 = .ok (.goto 97, 3) := by decide +kernel
theorem dX2_freeChannels_28 : decode cX2_freeChannels 28 = .ok (.lload 4, 2) := by decide +kernel
theorem dX2_freeChannels_30 : decode cX2_freeChannels 30 = .ok (.aload_n 0, 1) := by decide +kernel
theorem dX2_freeChannels_31 : decode cX2_freeChannels 31 = .ok (.aload_n 1, 1) := by decide +kernel
theorem dX2_freeChannels_32 : decode cX2_freeChannels 32 = .ok (.iload 6, 2) := by decide +kernel
theorem dX2_freeChannels_34 : decode cX2_freeChannels 34 = .ok (.aload_n 0, 1) := by decide +kernel
theorem dX2_freeChannels_35 : decode cX2_freeChannels 35 = .ok (.getfield 15, 3) := by decide +kernel
theorem dX2_freeChannels_38 : decode cX2_freeChannels 38 = .ok (.iload 6, 2) := by decide +kernel
theorem dX2_freeChannels_40 : decode cX2_freeChannels 40 = .ok (.iload_n 2, 1) := by decide +kernel
theorem dX2_freeChannels_41 : decode cX2_freeChannels 41 = .ok (.invokevirtual 45, 3) := by decide +kernel
theorem dX2_freeChannels_44 : decode cX2_freeChannels 44 = .ok (.invokevirtual 89, 3) := by decide +kernel
theorem dX2_freeChannels_47 : decode cX2_freeChannels 47 = .ok (.lor, 1) := by decide +kernel
theorem dX2_freeChannels_48 : decode cX2_freeChannels 48 = .ok (.lstore 4, 2) := by decide +kernel
theorem dX2_freeChannels_50 : decode cX2_freeChannels 50 = .ok (.aload_n 0, 1) := by decide +kernel
theorem dX2_freeChannels_51 : decode cX2_freeChannels 51 = .ok (.getfield 15, 3) := by decide +kernel
theorem dX2_freeChannels_54 : decode cX2_freeChannels 54 = .ok (.iload 6, 2) := by decide +kernel
theorem dX2_freeChannels_56 : decode cX2_freeChannels 56 = .ok (.iload_n 2, 1) := by decide +kernel
theorem dX2_freeChannels_57 : decode cX2_freeChannels 57 = .ok (.invokevirtual 64, 3) := by decide +kernel
theorem dX2_freeChannels_60 : decode cX2_freeChannels 60 = .ok (.ifCond .eq 7, 3) := by decide +kernel
theorem dX2_freeChannels_63 : decode cX2_freeChannels 63 = .ok (.iload_n 3, 1) := by decide +kernel
theorem dX2_freeChannels_64 : decode cX2_freeChannels 64 = .ok (.goto 4, 3) := by decide +kernel
theorem dX2_freeChannels_67 : decode cX2_freeChannels 67 = .ok (.iconst 0, 1) := by decide +kernel
theorem dX2_freeChannels_68 : decode cX2_freeChannels 68 = .ok (.istore 7, 2) := by decide +kernel
theorem dX2_freeChannels_70 : decode cX2_freeChannels 70 = .ok (.iload 6, 2) := by decide +kernel
theorem dX2_freeChannels_72 : decode cX2_freeChannels 72 = .ok (.iconst 1, 1) := by decide +kernel
theorem dX2_freeChannels_73 : decode cX2_freeChannels 73 = .ok (.iadd, 1) := by decide +kernel
theorem dX2_freeChannels_74 : decode cX2_freeChannels 74 = .ok (.istore 8, 2) := by decide +kernel
theorem dX2_freeChannels_76 : decode cX2_freeChannels 76 = .ok (.iload 8, 2) := by decide +kernel
theorem dX2_freeChannels_78 : decode cX2_freeChannels 78 = .ok (.iload 7, 2) := by decide +kernel
theorem dX2_freeChannels_80 : decode cX2_freeChannels 80 = .ok (.if_icmp .ge 42, 3) := by decide +kernel
theorem dX2_freeChannels_83 : decode cX2_freeChannels 83 = .ok (.iload 8, 2) := by decide +kernel
theorem dX2_freeChannels_85 : decode cX2_freeChannels 85 = .ok (.iload_n 2, 1) := by decide +kernel
theorem dX2_freeChannels_86 : decode cX2_freeChannels 86 = .ok (.if_icmp .eq 30, 3) := by decide +kernel
theorem dX2_freeChannels_89 : decode cX2_freeChannels 89 = .ok (.aload_n 0, 1) := by decide +kernel
theorem dX2_freeChannels_90 : decode cX2_freeChannels 90 = .ok (.aload_n 1, 1) := by decide +kernel
theorem dX2_freeChannels_91 : decode cX2_freeChannels 91 = .ok (.iload 6, 2) := by decide +kernel
theorem dX2_freeChannels_93 : decode cX2_freeChannels 93 = .ok (.iload 8, 2) := by decide +kernel
theorem dX2_freeChannels_95 : decode cX2_freeChannels 95 = .ok (.iload_n 2, 1) := by decide +kernel
theorem dX2_freeChannels_96 : decode cX2_freeChannels 96 = .ok (.invokevirtual 93, 3) := by decide +kernel
theorem dX2_freeChannels_99 : decode cX2_freeChannels 99 = .ok (.ifCond .eq 17, 3) := by decide +kernel
theorem dX2_freeChannels_102 : decode cX2_freeChannels 102 = .ok (.lload 4, 2) := by decide +kernel
theorem dX2_freeChannels_104 : decode cX2_freeChannels 104 = .ok (.aload_n 0, 1) := by decide +kernel
theorem dX2_freeChannels_105 : decode cX2_freeChannels 105 = .ok (.aload_n 1, 1) := by decide +kernel
theorem dX2_freeChannels_106 : decode cX2_freeChannels 106 = .ok (.iload 6, 2) := by decide +kernel
theorem dX2_freeChannels_108 : decode cX2_freeChannels 108 = .ok (.iload 8, 2) := by decide +kernel
theorem dX2_freeChannels_110 : decode cX2_freeChannels 110 = .ok (.invokevirtual 96, 3) := by decide +kernel
theorem dX2_freeChannels_113 : decode cX2_freeChannels 113 = .ok (.lor, 1) := by decide +kernel
theorem dX2_freeChannels_114 : decode cX2_freeChannels 114 = .ok (.lstore 4, 2) := by decide +kernel
theorem dX2_freeChannels_116 : decode cX2_freeChannels 116 = .ok (.iinc 8 1, 3) := by decide +kernel
theorem dX2_freeChannels_119 : decode cX2_freeChannels 119 = .ok (.goto (-43), 3) := by decide +kernel
theorem dX2_freeChannels_122 : decode cX2_freeChannels 122 = .ok (.iinc 6 1, 3) := by decide +kernel
theorem dX2_freeChannels_125 : decode cX2_freeChannels 125 = .ok (.goto (-119), 3) := by decide +kernel
theorem dX2_freeChannels_128 : decode cX2_freeChannels 128 = .ok (.aload_n 0, 1) := by decide +kernel
theorem dX2_freeChannels_129 : decode cX2_freeChannels 129 = .ok (.getfield 15, 3) := by decide +kernel
theorem dX2_freeChannels_132 : decode cX2_freeChannels 132 = .ok (.iload_n 2, 1) := by decide +kernel
theorem dX2_freeChannels_133 : decode cX2_freeChannels 133 = .ok (.invokevirtual 83, 3) := by decide +kernel
theorem dX2_freeChannels_136 : decode cX2_freeChannels 136 = .ok (.lload 4, 2) := by decide +kernel
theorem dX2_freeChannels_138 : decode cX2_freeChannels 138 = .ok (.lload 4, 2) := by decide +kernel
theorem dX2_freeChannels_140 : decode cX2_freeChannels 140 = .ok (.aload_n 0, 1) := by decide +kernel
theorem dX2_freeChannels_141 : decode cX2_freeChannels 141 = .ok (.getfield 15, 3) := by decide +kernel
theorem dX2_freeChannels_144 : decode cX2_freeChannels 144 = .ok (.iload_n 2, 1) := by decide +kernel
theorem dX2_freeChannels_145 : decode cX2_freeChannels 145 = .ok (.invokevirtual 49, 3) := by decide +kernel
theorem dX2_freeChannels_148 : decode cX2_freeChannels 148 = .ok (.lushr, 1) := by decide +kernel
theorem dX2_freeChannels_149 : decode cX2_freeChannels 149 = .ok (.lor, 1) := by decide +kernel
theorem dX2_freeChannels_150 : decode cX2_freeChannels 150 = .ok (.ldc2_w 99, 3) := by decide +kernel
theorem dX2_freeChannels_153 : decode cX2_freeChannels 153 = .ok (.lxor, 1) := by decide +kernel
theorem dX2_freeChannels_154 : decode cX2_freeChannels 154 = .ok (.l2i, 1) := by decide +kernel
theorem dX2_freeChannels_155 : decode cX2_freeChannels 155 = .ok (.iand, 1) := by decide +kernel
theorem dX2_freeChannels_156 : decode cX2_freeChannels 156 = .ok (.ireturn, 1) := by decide +kernel
theorem dX2_sumMates_0 : decode cX2_sumMates 0 = .ok (.aload_n 1, 1) := by decide +kernel
theorem dX2_sumMates_1 : decode cX2_sumMates 1 = .ok (.iload_n 3, 1) := by decide +kernel
theorem dX2_sumMates_2 : decode cX2_sumMates 2 = .ok (.iaload, 1) := by decide +kernel
theorem dX2_sumMates_3 : decode cX2_sumMates 3 = .ok (.ifCond .lt 45, 3) := by decide +kernel
theorem dX2_sumMates_6 : decode cX2_sumMates 6 = .ok (.aload_n 0, 1) := by decide +kernel
theorem dX2_sumMates_7 : decode cX2_sumMates 7 = .ok (.getfield 15, 3) := by decide +kernel
theorem dX2_sumMates_10 : decode cX2_sumMates 10 = .ok (.aload_n 0, 1) := by decide +kernel
theorem dX2_sumMates_11 : decode cX2_sumMates 11 = .ok (.getfield 15, 3) := by decide +kernel
theorem dX2_sumMates_14 : decode cX2_sumMates 14 = .ok (.getfield 76, 3) := by decide +kernel
theorem dX2_sumMates_17 : decode cX2_sumMates 17 = .ok (.iload_n 2, 1) := by decide +kernel
theorem dX2_sumMates_18 : decode cX2_sumMates 18 = .ok (.iaload, 1) := by decide +kernel
theorem dX2_sumMates_19 : decode cX2_sumMates 19 = .ok (.aload_n 0, 1) := by decide +kernel
theorem dX2_sumMates_20 : decode cX2_sumMates 20 = .ok (.getfield 15, 3) := by decide +kernel
theorem dX2_sumMates_23 : decode cX2_sumMates 23 = .ok (.getfield 76, 3) := by decide +kernel
theorem dX2_sumMates_26 : decode cX2_sumMates 26 = .ok (.iload_n 3, 1) := by decide +kernel
theorem dX2_sumMates_27 : decode cX2_sumMates 27 = .ok (.iaload, 1) := by decide +kernel
theorem dX2_sumMates_28 : decode cX2_sumMates 28 = .ok (.aload_n 0, 1) := by decide +kernel
theorem dX2_sumMates_29 : decode cX2_sumMates 29 = .ok (.getfield 15, 3) := by decide +kernel
theorem dX2_sumMates_32 : decode cX2_sumMates 32 = .ok (.getfield 76, 3) := by decide +kernel
theorem dX2_sumMates_35 : decode cX2_sumMates 35 = .ok (.iload 4, 2) := by decide +kernel
theorem dX2_sumMates_37 : decode cX2_sumMates 37 = .ok (.iaload, 1) := by decide +kernel
theorem dX2_sumMates_38 : decode cX2_sumMates 38 = .ok (.invokevirtual 79, 3) := by decide +kernel
theorem dX2_sumMates_41 : decode cX2_sumMates 41 = .ok (.ifCond .eq 7, 3) := by decide +kernel
theorem dX2_sumMates_44 : decode cX2_sumMates 44 = .ok (.iconst 1, 1) := by decide +kernel
theorem dX2_sumMates_45 : decode cX2_sumMates 45 = .ok (.goto 4, 3) := by decide +kernel
theorem dX2_sumMates_48 : decode cX2_sumMates 48 = .ok (.iconst 0, 1) := by decide +kernel
theorem dX2_sumMates_49 : decode cX2_sumMates 49 = .ok (.ireturn, 1) := by decide +kernel
theorem dX2_tooNear_0 : decode cX2_tooNear 0 = .ok (.iload_n 3, 1) := by decide +kernel
theorem dX2_tooNear_1 : decode cX2_tooNear 1 = .ok (.ifCond .ne 5, 3) := by decide +kernel
theorem dX2_tooNear_4 : decode cX2_tooNear 4 = .ok (.lconst 0, 1) := by decide +kernel
theorem dX2_tooNear_5 : decode cX2_tooNear 5 = .ok (.lreturn, 1) := by decide +kernel
theorem dX2_tooNear_6 : decode cX2_tooNear 6 = .ok (.lconst 0, 1) := by decide +kernel
theorem dX2_tooNear_7 : decode cX2_tooNear 7 = .ok (.lstore 4, 2) := by decide +kernel
theorem dX2_tooNear_9 : decode cX2_tooNear 9 = .ok (.aload_n 0, 1) := by decide +kernel
theorem dX2_tooNear_10 : decode cX2_tooNear 10 = .ok (.getfield 15, 3) := by decide +kernel
theorem dX2_tooNear_13 : decode cX2_tooNear 13 = .ok (.iload_n 2, 1) := by decide +kernel
theorem dX2_tooNear_14 : decode cX2_tooNear 14 = .ok (.invokevirtual 49, 3) := by decide +kernel
theorem dX2_tooNear_17 : decode cX2_tooNear 17 = .ok (.istore 6, 2) := by decide +kernel
theorem dX2_tooNear_19 : decode cX2_tooNear 19 = .ok (.aload_n 1, 1) := by decide +kernel
theorem dX2_tooNear_20 : decode cX2_tooNear 20 = .ok (.iload_n 2, 1) := by decide +kernel
theorem dX2_tooNear_21 : decode cX2_tooNear 21 = .ok (.iaload, 1) := by decide +kernel
theorem dX2_tooNear_22 : decode cX2_tooNear 22 = .ok (.istore 7, 2) := by decide +kernel
theorem dX2_tooNear_24 : decode cX2_tooNear 24 = .ok (.iload 7, 2) := by decide +kernel
theorem dX2_tooNear_26 : decode cX2_tooNear 26 = .ok (.aload_n 1, 1) := by decide +kernel
theorem dX2_tooNear_27 : decode cX2_tooNear 27 = .ok (.iload_n 2, 1) := by decide +kernel
theorem dX2_tooNear_28 : decode cX2_tooNear 28 = .ok (.iaload, 1) := by decide +kernel
theorem dX2_tooNear_29 : decode cX2_tooNear 29 = .ok (.iload 6, 2) := by decide +kernel
theorem dX2_tooNear_31 : decode cX2_tooNear 31 = .ok (.iadd, 1) := by decide +kernel
theorem dX2_tooNear_32 : decode cX2_tooNear 32 = .ok (.if_icmp .gt 45, 3) := by decide +kernel
theorem dX2_tooNear_35 : decode cX2_tooNear 35 = .ok (.iconst 0, 1) := by decide +kernel
theorem dX2_tooNear_36 : decode cX2_tooNear 36 = .ok (.iload 7, 2) := by decide +kernel
theorem dX2_tooNear_38 : decode cX2_tooNear 38 = .ok (.iload_n 3, 1) := by decide +kernel
theorem dX2_tooNear_39 : decode cX2_tooNear 39 = .ok (.isub, 1) := by decide +kernel
theorem dX2_tooNear_40 : decode cX2_tooNear 40 = .ok (.iconst 1, 1) := by decide +kernel
theorem dX2_tooNear_41 : decode cX2_tooNear 41 = .ok (.iadd, 1) := by decide +kernel
theorem dX2_tooNear_42 : decode cX2_tooNear 42 = .ok (.invokestatic 57, 3) := by decide +kernel
theorem dX2_tooNear_45 : decode cX2_tooNear 45 = .ok (.istore 8, 2) := by decide +kernel
theorem dX2_tooNear_47 : decode cX2_tooNear 47 = .ok (.lload 4, 2) := by decide +kernel
theorem dX2_tooNear_49 : decode cX2_tooNear 49 = .ok (.lconst 1, 1) := by decide +kernel
theorem dX2_tooNear_50 : decode cX2_tooNear 50 = .ok (.iload 7, 2) := by decide +kernel
theorem dX2_tooNear_52 : decode cX2_tooNear 52 = .ok (.iload_n 3, 1) := by decide +kernel
theorem dX2_tooNear_53 : decode cX2_tooNear 53 = .ok (.iadd, 1) := by decide +kernel
theorem dX2_tooNear_54 : decode cX2_tooNear 54 = .ok (.lshl, 1) := by decide +kernel
theorem dX2_tooNear_55 : decode cX2_tooNear 55 = .ok (.lconst 1, 1) := by decide +kernel
theorem dX2_tooNear_56 : decode cX2_tooNear 56 = .ok (.iload 8, 2) := by decide +kernel
theorem dX2_tooNear_58 : decode cX2_tooNear 58 = .ok (.lshl, 1) := by decide +kernel
theorem dX2_tooNear_59 : decode cX2_tooNear 59 = .ok (.lsub, 1) := by decide +kernel
theorem dX2_tooNear_60 : decode cX2_tooNear 60 = .ok (.lor, 1) := by decide +kernel
theorem dX2_tooNear_61 : decode cX2_tooNear 61 = .ok (.lstore 4, 2) := by decide +kernel
theorem dX2_tooNear_63 : decode cX2_tooNear 63 = .ok (.iload 7, 2) := by decide +kernel
theorem dX2_tooNear_65 : decode cX2_tooNear 65 = .ok (.iconst 1, 1) := by decide +kernel
theorem dX2_tooNear_66 : decode cX2_tooNear 66 = .ok (.iload 6, 2) := by decide +kernel
theorem dX2_tooNear_68 : decode cX2_tooNear 68 = .ok (.invokestatic 57, 3) := by decide +kernel
theorem dX2_tooNear_71 : decode cX2_tooNear 71 = .ok (.iadd, 1) := by decide +kernel
theorem dX2_tooNear_72 : decode cX2_tooNear 72 = .ok (.istore 7, 2) := by decide +kernel
theorem dX2_tooNear_74 : decode cX2_tooNear 74 = .ok (.goto (-50), 3) := by decide +kernel
theorem dX2_tooNear_77 : decode cX2_tooNear 77 = .ok (.lload 4, 2) := by decide +kernel
theorem dX2_tooNear_79 : decode cX2_tooNear 79 = .ok (.lreturn, 1) := by decide +kernel
theorem dX2_sumTargets_0 : decode cX2_sumTargets 0 = .ok (.lconst 0, 1) := by decide +kernel
theorem dX2_sumTargets_1 : decode cX2_sumTargets 1 = .ok (.lstore 4, 2) := by decide +kernel
theorem dX2_sumTargets_3 : decode cX2_sumTargets 3 = .ok (.aload_n 0, 1) := by decide +kernel
theorem dX2_sumTargets_4 : decode cX2_sumTargets 4 = .ok (.getfield 15, 3) := by decide +kernel
theorem dX2_sumTargets_7 : decode cX2_sumTargets 7 = .ok (.iload_n 2, 1) := by decide +kernel
theorem dX2_sumTargets_8 : decode cX2_sumTargets 8 = .ok (.invokevirtual 49, 3) := by decide +kernel
theorem dX2_sumTargets_11 : decode cX2_sumTargets 11 = .ok (.istore 6, 2) := by decide +kernel
theorem dX2_sumTargets_13 : decode cX2_sumTargets 13 = .ok (.aload_n 0, 1) := by decide +kernel
theorem dX2_sumTargets_14 : decode cX2_sumTargets 14 = .ok (.getfield 15, 3) := by decide +kernel
theorem dX2_sumTargets_17 : decode cX2_sumTargets 17 = .ok (.iload_n 3, 1) := by decide +kernel
theorem dX2_sumTargets_18 : decode cX2_sumTargets 18 = .ok (.invokevirtual 49, 3) := by decide +kernel
theorem dX2_sumTargets_21 : decode cX2_sumTargets 21 = .ok (.istore 7, 2) := by decide +kernel
theorem dX2_sumTargets_23 : decode cX2_sumTargets 23 = .ok (.aload_n 1, 1) := by decide +kernel
theorem dX2_sumTargets_24 : decode cX2_sumTargets 24 = .ok (.iload_n 2, 1) := by decide +kernel
theorem dX2_sumTargets_25 : decode cX2_sumTargets 25 = .ok (.iaload, 1) := by decide +kernel
theorem dX2_sumTargets_26 : decode cX2_sumTargets 26 = .ok (.istore 8, 2) := by decide +kernel
theorem dX2_sumTargets_28 : decode cX2_sumTargets 28 = .ok (.iload 8, 2) := by decide +kernel
theorem dX2_sumTargets_30 : decode cX2_sumTargets 30 = .ok (.aload_n 1, 1) := by decide +kernel
theorem dX2_sumTargets_31 : decode cX2_sumTargets 31 = .ok (.iload_n 2, 1) := by decide +kernel
theorem dX2_sumTargets_32 : decode cX2_sumTargets 32 = .ok (.iaload, 1) := by decide +kernel
theorem dX2_sumTargets_33 : decode cX2_sumTargets 33 = .ok (.iload 6, 2) := by decide +kernel
theorem dX2_sumTargets_35 : decode cX2_sumTargets 35 = .ok (.iadd, 1) := by decide +kernel
theorem dX2_sumTargets_36 : decode cX2_sumTargets 36 = .ok (.if_icmp .gt 102, 3) := by decide +kernel
theorem dX2_sumTargets_39 : decode cX2_sumTargets 39 = .ok (.aload_n 1, 1) := by decide +kernel
theorem dX2_sumTargets_40 : decode cX2_sumTargets 40 = .ok (.iload_n 3, 1) := by decide +kernel
theorem dX2_sumTargets_41 : decode cX2_sumTargets 41 = .ok (.iaload, 1) := by decide +kernel
theorem dX2_sumTargets_42 : decode cX2_sumTargets 42 = .ok (.istore 9, 2) := by decide +kernel
theorem dX2_sumTargets_44 : decode cX2_sumTargets 44 = .ok (.iload 9, 2) := by decide +kernel
theorem dX2_sumTargets_46 : decode cX2_sumTargets 46 = .ok (.aload_n 1, 1) := by decide +kernel
theorem dX2_sumTargets_47 : decode cX2_sumTargets 47 = .ok (.iload_n 3, 1) := by decide +kernel
theorem dX2_sumTargets_48 : decode cX2_sumTargets 48 = .ok (.iaload, 1) := by decide +kernel
theorem dX2_sumTargets_49 : decode cX2_sumTargets 49 = .ok (.iload 7, 2) := by decide +kernel
theorem dX2_sumTargets_51 : decode cX2_sumTargets 51 = .ok (.iadd, 1) := by decide +kernel
theorem dX2_sumTargets_52 : decode cX2_sumTargets 52 = .ok (.if_icmp .gt 72, 3) := by decide +kernel
theorem dX2_sumTargets_55 : decode cX2_sumTargets 55 = .ok (.lload 4, 2) := by decide +kernel
theorem dX2_sumTargets_57 : decode cX2_sumTargets 57 = .ok (.iconst 2, 1) := by decide +kernel
theorem dX2_sumTargets_58 : decode cX2_sumTargets 58 = .ok (.iload 8, 2) := by decide +kernel
theorem dX2_sumTargets_60 : decode cX2_sumTargets 60 = .ok (.imul, 1) := by decide +kernel
theorem dX2_sumTargets_61 : decode cX2_sumTargets 61 = .ok (.iload 9, 2) := by decide +kernel
theorem dX2_sumTargets_63 : decode cX2_sumTargets 63 = .ok (.isub, 1) := by decide +kernel
theorem dX2_sumTargets_64 : decode cX2_sumTargets 64 = .ok (.invokestatic 101, 3) := by decide +kernel
theorem dX2_sumTargets_67 : decode cX2_sumTargets 67 = .ok (.iconst 2, 1) := by decide +kernel
theorem dX2_sumTargets_68 : decode cX2_sumTargets 68 = .ok (.iload 9, 2) := by decide +kernel
theorem dX2_sumTargets_70 : decode cX2_sumTargets 70 = .ok (.imul, 1) := by decide +kernel
theorem dX2_sumTargets_71 : decode cX2_sumTargets 71 = .ok (.iload 8, 2) := by decide +kernel
theorem dX2_sumTargets_73 : decode cX2_sumTargets 73 = .ok (.isub, 1) := by decide +kernel
theorem dX2_sumTargets_74 : decode cX2_sumTargets 74 = .ok (.invokestatic 101, 3) := by decide +kernel
theorem dX2_sumTargets_77 : decode cX2_sumTargets 77 = .ok (.lor, 1) := by decide +kernel
theorem dX2_sumTargets_78 : decode cX2_sumTargets 78 = .ok (.lor, 1) := by decide +kernel
theorem dX2_sumTargets_79 : decode cX2_sumTargets 79 = .ok (.lstore 4, 2) := by decide +kernel
theorem dX2_sumTargets_81 : decode cX2_sumTargets 81 = .ok (.lload 4, 2) := by decide +kernel
theorem dX2_sumTargets_83 : decode cX2_sumTargets 83 = .ok (.iload 8, 2) := by decide +kernel
theorem dX2_sumTargets_85 : decode cX2_sumTargets 85 = .ok (.iload 9, 2) := by decide +kernel
theorem dX2_sumTargets_87 : decode cX2_sumTargets 87 = .ok (.iadd, 1) := by decide +kernel
theorem dX2_sumTargets_88 : decode cX2_sumTargets 88 = .ok (.iconst 2, 1) := by decide +kernel
theorem dX2_sumTargets_89 : decode cX2_sumTargets 89 = .ok (.irem, 1) := by decide +kernel
theorem dX2_sumTargets_90 : decode cX2_sumTargets 90 = .ok (.ifCond .ne 16, 3) := by decide +kernel
theorem dX2_sumTargets_93 : decode cX2_sumTargets 93 = .ok (.iload 8, 2) := by decide +kernel
theorem dX2_sumTargets_95 : decode cX2_sumTargets 95 = .ok (.iload 9, 2) := by decide +kernel
theorem dX2_sumTargets_97 : decode cX2_sumTargets 97 = .ok (.iadd, 1) := by decide +kernel
theorem dX2_sumTargets_98 : decode cX2_sumTargets 98 = .ok (.iconst 2, 1) := by decide +kernel
theorem dX2_sumTargets_99 : decode cX2_sumTargets 99 = .ok (.idiv, 1) := by decide +kernel
theorem dX2_sumTargets_100 : decode cX2_sumTargets 100 = .ok (.invokestatic 101, 3) := by decide +kernel
theorem dX2_sumTargets_103 : decode cX2_sumTargets 103 = .ok (.goto 4, 3) := by decide +kernel
theorem dX2_sumTargets_106 : decode cX2_sumTargets 106 = .ok (.lconst 0, 1) := by decide +kernel
theorem dX2_sumTargets_107 : decode cX2_sumTargets 107 = .ok (.lor, 1) := by decide +kernel
theorem dX2_sumTargets_108 : decode cX2_sumTargets 108 = .ok (.lstore 4, 2) := by decide +kernel
theorem dX2_sumTargets_110 : decode cX2_sumTargets 110 = .ok (.iload 9, 2) := by decide +kernel
theorem dX2_sumTargets_112 : decode cX2_sumTargets 112 = .ok (.iconst 1, 1) := by decide +kernel
theorem dX2_sumTargets_113 : decode cX2_sumTargets 113 = .ok (.iload 7, 2) := by decide +kernel
theorem dX2_sumTargets_115 : decode cX2_sumTargets 115 = .ok (.invokestatic 57, 3) := by decide +kernel
theorem dX2_sumTargets_118 : decode cX2_sumTargets 118 = .ok (.iadd, 1) := by decide +kernel
theorem dX2_sumTargets_119 : decode cX2_sumTargets 119 = .ok (.istore 9, 2) := by decide +kernel
theorem dX2_sumTargets_121 : decode cX2_sumTargets 121 = .ok (.goto (-77), 3) := by decide +kernel
theorem dX2_sumTargets_124 : decode cX2_sumTargets 124 = .ok (.iload 8, 2) := by decide +kernel
theorem dX2_sumTargets_126 : decode cX2_sumTargets 126 = .ok (.iconst 1, 1) := by decide +kernel
theorem dX2_sumTargets_127 : decode cX2_sumTargets 127 = .ok (.iload 6, 2) := by decide +kernel
theorem dX2_sumTargets_129 : decode cX2_sumTargets 129 = .ok (.invokestatic 57, 3) := by decide +kernel
theorem dX2_sumTargets_132 : decode cX2_sumTargets 132 = .ok (.iadd, 1) := by decide +kernel
theorem dX2_sumTargets_133 : decode cX2_sumTargets 133 = .ok (.istore 8, 2) := by decide +kernel
theorem dX2_sumTargets_135 : decode cX2_sumTargets 135 = .ok (.goto (-107), 3) := by decide +kernel
theorem dX2_sumTargets_138 : decode cX2_sumTargets 138 = .ok (.lload 4, 2) := by decide +kernel
theorem dX2_sumTargets_140 : decode cX2_sumTargets 140 = .ok (.lreturn, 1) := by decide +kernel
theorem dX2_bitOf_0 : decode cX2_bitOf 0 = .ok (.iload_n 0, 1) := by decide +kernel
theorem dX2_bitOf_1 : decode cX2_bitOf 1 = .ok (.ifCond .lt 15, 3) := by decide +kernel
theorem dX2_bitOf_4 : decode cX2_bitOf 4 = .ok (.iload_n 0, 1) := by decide +kernel
theorem dX2_bitOf_5 : decode cX2_bitOf 5 = .ok (.bipush 30, 2) := by decide +kernel
theorem dX2_bitOf_7 : decode cX2_bitOf 7 = .ok (.if_icmp .ge 9, 3) := by decide +kernel
theorem dX2_bitOf_10 : decode cX2_bitOf 10 = .ok (.lconst 1, 1) := by decide +kernel
theorem dX2_bitOf_11 : decode cX2_bitOf 11 = .ok (.iload_n 0, 1) := by decide +kernel
theorem dX2_bitOf_12 : decode cX2_bitOf 12 = .ok (.lshl, 1) := by decide +kernel
theorem dX2_bitOf_13 : decode cX2_bitOf 13 = .ok (.goto 4, 3) := by decide +kernel
theorem dX2_bitOf_16 : decode cX2_bitOf 16 = .ok (.lconst 0, 1) := by decide +kernel
theorem dX2_bitOf_17 : decode cX2_bitOf 17 = .ok (.lreturn, 1) := by decide +kernel
theorem dX2_weigh_0 : decode cX2_weigh 0 = .ok (.aload_n 0, 1) := by decide +kernel
theorem dX2_weigh_1 : decode cX2_weigh 1 = .ok (.getfield 15, 3) := by decide +kernel
theorem dX2_weigh_4 : decode cX2_weigh 4 = .ok (.iload_n 2, 1) := by decide +kernel
theorem dX2_weigh_5 : decode cX2_weigh 5 = .ok (.invokevirtual 83, 3) := by decide +kernel
theorem dX2_weigh_8 : decode cX2_weigh 8 = .ok (.istore_n 3, 1) := by decide +kernel
theorem dX2_weigh_9 : decode cX2_weigh 9 = .ok (.iconst 0, 1) := by decide +kernel
theorem dX2_weigh_10 : decode cX2_weigh 10 = .ok (.istore 4, 2) := by decide +kernel
theorem dX2_weigh_12 : decode cX2_weigh 12 = .ok (.iload 4, 2) := by decide +kernel
theorem dX2_weigh_14 : decode cX2_weigh 14 = .ok (.bipush 30, 2) := by decide +kernel
theorem dX2_weigh_16 : decode cX2_weigh 16 = .ok (.if_icmp .ge 31, 3) := by decide +kernel
theorem dX2_weigh_19 : decode cX2_weigh 19 = .ok (.aload_n 0, 1) := by decide +kernel
theorem dX2_weigh_20 : decode cX2_weigh 20 = .ok (.getfield 9, 3) := by decide +kernel
theorem dX2_weigh_23 : decode cX2_weigh 23 = .ok (.iload 4, 2) := by decide +kernel
theorem dX2_weigh_25 : decode cX2_weigh 25 = .ok (.iload_n 3, 1) := by decide +kernel
theorem dX2_weigh_26 : decode cX2_weigh 26 = .ok (.iload 4, 2) := by decide +kernel
theorem dX2_weigh_28 : decode cX2_weigh 28 = .ok (.iushr, 1) := by decide +kernel
theorem dX2_weigh_29 : decode cX2_weigh 29 = .ok (.iconst 1, 1) := by decide +kernel
theorem dX2_weigh_30 : decode cX2_weigh 30 = .ok (.iand, 1) := by decide +kernel
theorem dX2_weigh_31 : decode cX2_weigh 31 = .ok (.ifCond .ne 8, 3) := by decide +kernel
theorem dX2_weigh_34 : decode cX2_weigh 34 = .ok (.bipush 10, 2) := by decide +kernel
theorem dX2_weigh_36 : decode cX2_weigh 36 = .ok (.goto 4, 3) := by decide +kernel
theorem dX2_weigh_39 : decode cX2_weigh 39 = .ok (.iconst 0, 1) := by decide +kernel
theorem dX2_weigh_40 : decode cX2_weigh 40 = .ok (.iastore, 1) := by decide +kernel
theorem dX2_weigh_41 : decode cX2_weigh 41 = .ok (.iinc 4 1, 3) := by decide +kernel
theorem dX2_weigh_44 : decode cX2_weigh 44 = .ok (.goto (-32), 3) := by decide +kernel
theorem dX2_weigh_47 : decode cX2_weigh 47 = .ok (.iconst 0, 1) := by decide +kernel
theorem dX2_weigh_48 : decode cX2_weigh 48 = .ok (.istore 4, 2) := by decide +kernel
theorem dX2_weigh_50 : decode cX2_weigh 50 = .ok (.iload 4, 2) := by decide +kernel
theorem dX2_weigh_52 : decode cX2_weigh 52 = .ok (.aload_n 0, 1) := by decide +kernel
theorem dX2_weigh_53 : decode cX2_weigh 53 = .ok (.getfield 15, 3) := by decide +kernel
theorem dX2_weigh_56 : decode cX2_weigh 56 = .ok (.getfield 19, 3) := by decide +kernel
theorem dX2_weigh_59 : decode cX2_weigh 59 = .ok (.if_icmp .ge 114, 3) := by decide +kernel
theorem dX2_weigh_62 : decode cX2_weigh 62 = .ok (.iload 4, 2) := by decide +kernel
theorem dX2_weigh_64 : decode cX2_weigh 64 = .ok (.iload_n 2, 1) := by decide +kernel
theorem dX2_weigh_65 : decode cX2_weigh 65 = .ok (.if_icmp .eq 102, 3) := by decide +kernel
theorem dX2_weigh_68 : decode cX2_weigh 68 = .ok (.aload_n 1, 1) := by decide +kernel
theorem dX2_weigh_69 : decode cX2_weigh 69 = .ok (.iload 4, 2) := by decide +kernel
theorem dX2_weigh_71 : decode cX2_weigh 71 = .ok (.iaload, 1) := by decide +kernel
theorem dX2_weigh_72 : decode cX2_weigh 72 = .ok (.ifCond .ge 6, 3) := by decide +kernel
theorem dX2_weigh_75 : decode cX2_weigh 75 = .ok (.goto 92, 3) := by decide +kernel
theorem dX2_weigh_78 : decode cX2_weigh 78 = .ok (.aload_n 0, 1) := by decide +kernel
theorem dX2_weigh_79 : decode cX2_weigh 79 = .ok (.aload_n 1, 1) := by decide +kernel
theorem dX2_weigh_80 : decode cX2_weigh 80 = .ok (.iload 4, 2) := by decide +kernel
theorem dX2_weigh_82 : decode cX2_weigh 82 = .ok (.iload_n 2, 1) := by decide +kernel
theorem dX2_weigh_83 : decode cX2_weigh 83 = .ok (.invokevirtual 105, 3) := by decide +kernel
theorem dX2_weigh_86 : decode cX2_weigh 86 = .ok (.aload_n 0, 1) := by decide +kernel
theorem dX2_weigh_87 : decode cX2_weigh 87 = .ok (.getfield 15, 3) := by decide +kernel
theorem dX2_weigh_90 : decode cX2_weigh 90 = .ok (.iload 4, 2) := by decide +kernel
theorem dX2_weigh_92 : decode cX2_weigh 92 = .ok (.iload_n 2, 1) := by decide +kernel
theorem dX2_weigh_93 : decode cX2_weigh 93 = .ok (.invokevirtual 64, 3) := by decide +kernel
theorem dX2_weigh_96 : decode cX2_weigh 96 = .ok (.ifCond .eq 13, 3) := by decide +kernel
theorem dX2_weigh_99 : decode cX2_weigh 99 = .ok (.aload_n 0, 1) := by decide +kernel
theorem dX2_weigh_100 : decode cX2_weigh 100 = .ok (.getfield 15, 3) := by decide +kernel
theorem dX2_weigh_103 : decode cX2_weigh 103 = .ok (.getfield 19, 3) := by decide +kernel
theorem dX2_weigh_106 : decode cX2_weigh 106 = .ok (.goto 4, 3) := by decide +kernel
theorem dX2_weigh_109 : decode cX2_weigh 109 = .ok (.iconst 0, 1) := by decide +kernel
theorem dX2_weigh_110 : decode cX2_weigh 110 = .ok (.istore 5, 2) := by decide +kernel
theorem dX2_weigh_112 : decode cX2_weigh 112 = .ok (.iload 4, 2) := by decide +kernel
theorem dX2_weigh_114 : decode cX2_weigh 114 = .ok (.iconst 1, 1) := by decide +kernel
theorem dX2_weigh_115 : decode cX2_weigh 115 = .ok (.iadd, 1) := by decide +kernel
theorem dX2_weigh_116 : decode cX2_weigh 116 = .ok (.istore 6, 2) := by decide +kernel
theorem dX2_weigh_118 : decode cX2_weigh 118 = .ok (.iload 6, 2) := by decide +kernel
theorem dX2_weigh_120 : decode cX2_weigh 120 = .ok (.iload 5, 2) := by decide +kernel
theorem dX2_weigh_122 : decode cX2_weigh 122 = .ok (.if_icmp .ge 45, 3) := by decide +kernel
theorem dX2_weigh_125 : decode cX2_weigh 125 = .ok (.iload 6, 2) := by decide +kernel
theorem dX2_weigh_127 : decode cX2_weigh 127 = .ok (.iload_n 2, 1) := by decide +kernel
theorem dX2_weigh_128 : decode cX2_weigh 128 = .ok (.if_icmp .eq 33, 3) := by decide +kernel
theorem dX2_weigh_131 : decode cX2_weigh 131 = .ok (.aload_n 0, 1) := by decide +kernel
theorem dX2_weigh_132 : decode cX2_weigh 132 = .ok (.aload_n 1, 1) := by decide +kernel
theorem dX2_weigh_133 : decode cX2_weigh 133 = .ok (.iload 4, 2) := by decide +kernel
theorem dX2_weigh_135 : decode cX2_weigh 135 = .ok (.iload 6, 2) := by decide +kernel
theorem dX2_weigh_137 : decode cX2_weigh 137 = .ok (.iload_n 2, 1) := by decide +kernel
theorem dX2_weigh_138 : decode cX2_weigh 138 = .ok (.invokevirtual 93, 3) := by decide +kernel
theorem dX2_weigh_141 : decode cX2_weigh 141 = .ok (.ifCond .eq 20, 3) := by decide +kernel
theorem dX2_weigh_144 : decode cX2_weigh 144 = .ok (.aload_n 0, 1) := by decide +kernel
theorem dX2_weigh_145 : decode cX2_weigh 145 = .ok (.aload_n 1, 1) := by decide +kernel
theorem dX2_weigh_146 : decode cX2_weigh 146 = .ok (.iload 4, 2) := by decide +kernel
theorem dX2_weigh_148 : decode cX2_weigh 148 = .ok (.iload 6, 2) := by decide +kernel
theorem dX2_weigh_150 : decode cX2_weigh 150 = .ok (.aload_n 0, 1) := by decide +kernel
theorem dX2_weigh_151 : decode cX2_weigh 151 = .ok (.getfield 15, 3) := by decide +kernel
theorem dX2_weigh_154 : decode cX2_weigh 154 = .ok (.iload_n 2, 1) := by decide +kernel
theorem dX2_weigh_155 : decode cX2_weigh 155 = .ok (.invokevirtual 49, 3) := by decide +kernel
theorem dX2_weigh_158 : decode cX2_weigh 158 = .ok (.invokevirtual 109, 3) := by decide +kernel
theorem dX2_weigh_161 : decode cX2_weigh 161 = .ok (.iinc 6 1, 3) := by decide +kernel
theorem dX2_weigh_164 : decode cX2_weigh 164 = .ok (.goto (-46), 3) := by decide +kernel
theorem dX2_weigh_167 : decode cX2_weigh 167 = .ok (.iinc 4 1, 3) := by decide +kernel
theorem dX2_weigh_170 : decode cX2_weigh 170 = .ok (.goto (-120), 3) := by decide +kernel
theorem dX2_weigh_173 : decode cX2_weigh 173 = .ok (.aload_n 0, 1) := by decide +kernel
theorem dX2_weigh_174 : decode cX2_weigh 174 = .ok (.getfield 9, 3) := by decide +kernel
theorem dX2_weigh_177 : decode cX2_weigh 177 = .ok (.areturn, 1) := by decide +kernel
theorem dX2_addLacks_0 : decode cX2_addLacks 0 = .ok (.aload_n 0, 1) := by decide +kernel
theorem dX2_addLacks_1 : decode cX2_addLacks 1 = .ok (.getfield 15, 3) := by decide +kernel
theorem dX2_addLacks_4 : decode cX2_addLacks 4 = .ok (.iload_n 2, 1) := by decide +kernel
theorem dX2_addLacks_5 : decode cX2_addLacks 5 = .ok (.iload_n 3, 1) := by decide +kernel
theorem dX2_addLacks_6 : decode cX2_addLacks 6 = .ok (.invokevirtual 45, 3) := by decide +kernel
theorem dX2_addLacks_9 : decode cX2_addLacks 9 = .ok (.iconst 1, 1) := by decide +kernel
theorem dX2_addLacks_10 : decode cX2_addLacks 10 = .ok (.isub, 1) := by decide +kernel
theorem dX2_addLacks_11 : decode cX2_addLacks 11 = .ok (.istore 4, 2) := by decide +kernel
theorem dX2_addLacks_13 : decode cX2_addLacks 13 = .ok (.iconst 0, 1) := by decide +kernel
theorem dX2_addLacks_14 : decode cX2_addLacks 14 = .ok (.aload_n 1, 1) := by decide +kernel
theorem dX2_addLacks_15 : decode cX2_addLacks 15 = .ok (.iload_n 2, 1) := by decide +kernel
theorem dX2_addLacks_16 : decode cX2_addLacks 16 = .ok (.iaload, 1) := by decide +kernel
theorem dX2_addLacks_17 : decode cX2_addLacks 17 = .ok (.aload_n 0, 1) := by decide +kernel
theorem dX2_addLacks_18 : decode cX2_addLacks 18 = .ok (.getfield 15, 3) := by decide +kernel
theorem dX2_addLacks_21 : decode cX2_addLacks 21 = .ok (.iload_n 3, 1) := by decide +kernel
theorem dX2_addLacks_22 : decode cX2_addLacks 22 = .ok (.invokevirtual 49, 3) := by decide +kernel
theorem dX2_addLacks_25 : decode cX2_addLacks 25 = .ok (.isub, 1) := by decide +kernel
theorem dX2_addLacks_26 : decode cX2_addLacks 26 = .ok (.iload 4, 2) := by decide +kernel
theorem dX2_addLacks_28 : decode cX2_addLacks 28 = .ok (.isub, 1) := by decide +kernel
theorem dX2_addLacks_29 : decode cX2_addLacks 29 = .ok (.invokestatic 57, 3) := by decide +kernel
theorem dX2_addLacks_32 : decode cX2_addLacks 32 = .ok (.istore 5, 2) := by decide +kernel
theorem dX2_addLacks_34 : decode cX2_addLacks 34 = .ok (.bipush 29, 2) := by decide +kernel
theorem dX2_addLacks_36 : decode cX2_addLacks 36 = .ok (.aload_n 1, 1) := by decide +kernel
theorem dX2_addLacks_37 : decode cX2_addLacks 37 = .ok (.iload_n 2, 1) := by decide +kernel
theorem dX2_addLacks_38 : decode cX2_addLacks 38 = .ok (.iaload, 1) := by decide +kernel
theorem dX2_addLacks_39 : decode cX2_addLacks 39 = .ok (.aload_n 0, 1) := by decide +kernel
theorem dX2_addLacks_40 : decode cX2_addLacks 40 = .ok (.getfield 15, 3) := by decide +kernel
theorem dX2_addLacks_43 : decode cX2_addLacks 43 = .ok (.iload_n 2, 1) := by decide +kernel
theorem dX2_addLacks_44 : decode cX2_addLacks 44 = .ok (.invokevirtual 49, 3) := by decide +kernel
theorem dX2_addLacks_47 : decode cX2_addLacks 47 = .ok (.iadd, 1) := by decide +kernel
theorem dX2_addLacks_48 : decode cX2_addLacks 48 = .ok (.iload 4, 2) := by decide +kernel
theorem dX2_addLacks_50 : decode cX2_addLacks 50 = .ok (.iadd, 1) := by decide +kernel
theorem dX2_addLacks_51 : decode cX2_addLacks 51 = .ok (.invokestatic 113, 3) := by decide +kernel
theorem dX2_addLacks_54 : decode cX2_addLacks 54 = .ok (.istore 6, 2) := by decide +kernel
theorem dX2_addLacks_56 : decode cX2_addLacks 56 = .ok (.iload 5, 2) := by decide +kernel
theorem dX2_addLacks_58 : decode cX2_addLacks 58 = .ok (.istore 7, 2) := by decide +kernel
theorem dX2_addLacks_60 : decode cX2_addLacks 60 = .ok (.iload 7, 2) := by decide +kernel
theorem dX2_addLacks_62 : decode cX2_addLacks 62 = .ok (.iload 6, 2) := by decide +kernel
theorem dX2_addLacks_64 : decode cX2_addLacks 64 = .ok (.if_icmp .gt 30, 3) := by decide +kernel
theorem dX2_addLacks_67 : decode cX2_addLacks 67 = .ok (.aload_n 0, 1) := by decide +kernel
theorem dX2_addLacks_68 : decode cX2_addLacks 68 = .ok (.getfield 9, 3) := by decide +kernel
theorem dX2_addLacks_71 : decode cX2_addLacks 71 = .ok (.iload 7, 2) := by decide +kernel
theorem dX2_addLacks_73 : decode cX2_addLacks 73 = .ok (.dup2, 1) := by decide +kernel
theorem dX2_addLacks_74 : decode cX2_addLacks 74 = .ok (.iaload, 1) := by decide +kernel
theorem dX2_addLacks_75 : decode cX2_addLacks 75 = .ok (.aload_n 0, 1) := by decide +kernel
theorem dX2_addLacks_76 : decode cX2_addLacks 76 = .ok (.iload_n 2, 1) := by decide +kernel
theorem dX2_addLacks_77 : decode cX2_addLacks 77 = .ok (.aload_n 1, 1) := by decide +kernel
theorem dX2_addLacks_78 : decode cX2_addLacks 78 = .ok (.iload_n 2, 1) := by decide +kernel
theorem dX2_addLacks_79 : decode cX2_addLacks 79 = .ok (.iaload, 1) := by decide +kernel
theorem dX2_addLacks_80 : decode cX2_addLacks 80 = .ok (.iload_n 3, 1) := by decide +kernel
theorem dX2_addLacks_81 : decode cX2_addLacks 81 = .ok (.iload 7, 2) := by decide +kernel
theorem dX2_addLacks_83 : decode cX2_addLacks 83 = .ok (.invokevirtual 41, 3) := by decide +kernel
theorem dX2_addLacks_86 : decode cX2_addLacks 86 = .ok (.iadd, 1) := by decide +kernel
theorem dX2_addLacks_87 : decode cX2_addLacks 87 = .ok (.iastore, 1) := by decide +kernel
theorem dX2_addLacks_88 : decode cX2_addLacks 88 = .ok (.iinc 7 1, 3) := by decide +kernel
theorem dX2_addLacks_91 : decode cX2_addLacks 91 = .ok (.goto (-31), 3) := by decide +kernel
theorem dX2_addLacks_94 : decode cX2_addLacks 94 = .ok (.return_, 1) := by decide +kernel
theorem dX2_addSums_0 : decode cX2_addSums 0 = .ok (.aload_n 0, 1) := by decide +kernel
theorem dX2_addSums_1 : decode cX2_addSums 1 = .ok (.getfield 15, 3) := by decide +kernel
theorem dX2_addSums_4 : decode cX2_addSums 4 = .ok (.iload_n 2, 1) := by decide +kernel
theorem dX2_addSums_5 : decode cX2_addSums 5 = .ok (.invokevirtual 49, 3) := by decide +kernel
theorem dX2_addSums_8 : decode cX2_addSums 8 = .ok (.istore 5, 2) := by decide +kernel
theorem dX2_addSums_10 : decode cX2_addSums 10 = .ok (.aload_n 0, 1) := by decide +kernel
theorem dX2_addSums_11 : decode cX2_addSums 11 = .ok (.getfield 15, 3) := by decide +kernel
theorem dX2_addSums_14 : decode cX2_addSums 14 = .ok (.iload_n 3, 1) := by decide +kernel
theorem dX2_addSums_15 : decode cX2_addSums 15 = .ok (.invokevirtual 49, 3) := by decide +kernel
theorem dX2_addSums_18 : decode cX2_addSums 18 = .ok (.istore 6, 2) := by decide +kernel
theorem dX2_addSums_20 : decode cX2_addSums 20 = .ok (.aload_n 1, 1) := by decide +kernel
theorem dX2_addSums_21 : decode cX2_addSums 21 = .ok (.iload_n 2, 1) := by decide +kernel
theorem dX2_addSums_22 : decode cX2_addSums 22 = .ok (.iaload, 1) := by decide +kernel
theorem dX2_addSums_23 : decode cX2_addSums 23 = .ok (.istore 7, 2) := by decide +kernel
theorem dX2_addSums_25 : decode cX2_addSums 25 = .ok (.iload 7, 2) := by decide +kernel
theorem dX2_addSums_27 : decode cX2_addSums 27 = .ok (.aload_n 1, 1) := by decide +kernel
theorem dX2_addSums_28 : decode cX2_addSums 28 = .ok (.iload_n 2, 1) := by decide +kernel
theorem dX2_addSums_29 : decode cX2_addSums 29 = .ok (.iaload, 1) := by decide +kernel
theorem dX2_addSums_30 : decode cX2_addSums 30 = .ok (.iload 5, 2) := by decide +kernel
theorem dX2_addSums_32 : decode cX2_addSums 32 = .ok (.iadd, 1) := by decide +kernel
theorem dX2_addSums_33 : decode cX2_addSums 33 = .ok (.if_icmp .gt 96, 3) := by decide +kernel
theorem dX2_addSums_36 : decode cX2_addSums 36 = .ok (.aload_n 1, 1) := by decide +kernel
theorem dX2_addSums_37 : decode cX2_addSums 37 = .ok (.iload_n 3, 1) := by decide +kernel
theorem dX2_addSums_38 : decode cX2_addSums 38 = .ok (.iaload, 1) := by decide +kernel
theorem dX2_addSums_39 : decode cX2_addSums 39 = .ok (.istore 8, 2) := by decide +kernel
theorem dX2_addSums_41 : decode cX2_addSums 41 = .ok (.iload 8, 2) := by decide +kernel
theorem dX2_addSums_43 : decode cX2_addSums 43 = .ok (.aload_n 1, 1) := by decide +kernel
