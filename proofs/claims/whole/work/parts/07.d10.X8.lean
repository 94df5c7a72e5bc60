theorem dX8_search_0 : decode cX8_search 0 = .ok (.aload_n 0, 1) := by decide +kernel
theorem dX8_search_1 : decode cX8_search 1 = .ok (.getfield 21, 3) := by decide +kernel
theorem dX8_search_4 : decode cX8_search 4 = .ok (.getfield 29, 3) := by decide +kernel
theorem dX8_search_7 : decode cX8_search 7 = .ok (.ifCond .ne 5, 3) := by decide +kernel
theorem dX8_search_10 : decode cX8_search 10 = .ok (.iconst 1, 1) := by decide +kernel
theorem dX8_search_11 : decode cX8_search 11 = .ok (.ireturn, 1) := by decide +kernel
theorem dX8_search_12 : decode cX8_search 12 = .ok (.iconst 0, 1) := by decide +kernel
theorem dX8_search_13 : decode cX8_search 13 = .ok (.istore_n 2, 1) := by decide +kernel
theorem dX8_search_14 : decode cX8_search 14 = .ok (.aload_n 0, 1) := by decide +kernel
theorem dX8_search_15 : decode cX8_search 15 = .ok (.iload_n 2, 1) := by decide +kernel
theorem dX8_search_16 : decode cX8_search 16 = .ok (.iload_n 1, 1) := by decide +kernel
theorem dX8_search_17 : decode cX8_search 17 = .ok (.invokevirtual 35, 3) := by decide +kernel
theorem dX8_search_20 : decode cX8_search 20 = .ok (.iconst 0, 1) := by decide +kernel
theorem dX8_search_21 : decode cX8_search 21 = .ok (.istore_n 3, 1) := by decide +kernel
theorem dX8_search_22 : decode cX8_search 22 = .ok (.iload_n 3, 1) := by decide +kernel
theorem dX8_search_23 : decode cX8_search 23 = .ok (.sipush 8001, 3) := by decide +kernel
theorem dX8_search_26 : decode cX8_search 26 = .ok (.if_icmp .gt 74, 3) := by decide +kernel
theorem dX8_search_29 : decode cX8_search 29 = .ok (.aload_n 0, 1) := by decide +kernel
theorem dX8_search_30 : decode cX8_search 30 = .ok (.getfield 15, 3) := by decide +kernel
theorem dX8_search_33 : decode cX8_search 33 = .ok (.iload_n 2, 1) := by decide +kernel
theorem dX8_search_34 : decode cX8_search 34 = .ok (.iaload, 1) := by decide +kernel
theorem dX8_search_35 : decode cX8_search 35 = .ok (.iload_n 1, 1) := by decide +kernel
theorem dX8_search_36 : decode cX8_search 36 = .ok (.if_icmp .lt 12, 3) := by decide +kernel
theorem dX8_search_39 : decode cX8_search 39 = .ok (.iinc 2 (-1), 3) := by decide +kernel
theorem dX8_search_42 : decode cX8_search 42 = .ok (.iload_n 2, 1) := by decide +kernel
theorem dX8_search_43 : decode cX8_search 43 = .ok (.ifCond .ge 51, 3) := by decide +kernel
theorem dX8_search_46 : decode cX8_search 46 = .ok (.iconst 0, 1) := by decide +kernel
theorem dX8_search_47 : decode cX8_search 47 = .ok (.ireturn, 1) := by decide +kernel
theorem dX8_search_48 : decode cX8_search 48 = .ok (.aload_n 0, 1) := by decide +kernel
theorem dX8_search_49 : decode cX8_search 49 = .ok (.getfield 39, 3) := by decide +kernel
theorem dX8_search_52 : decode cX8_search 52 = .ok (.sipush 4000, 3) := by decide +kernel
theorem dX8_search_55 : decode cX8_search 55 = .ok (.if_icmp .lt 6, 3) := by decide +kernel
theorem dX8_search_58 : decode cX8_search 58 = .ok (.bipush (-2), 2) := by decide +kernel
theorem dX8_search_60 : decode cX8_search 60 = .ok (.ireturn, 1) := by decide +kernel
theorem dX8_search_61 : decode cX8_search 61 = .ok (.aload_n 0, 1) := by decide +kernel
theorem dX8_search_62 : decode cX8_search 62 = .ok (.iload_n 2, 1) := by decide +kernel
theorem dX8_search_63 : decode cX8_search 63 = .ok (.invokevirtual 42, 3) := by decide +kernel
theorem dX8_search_66 : decode cX8_search 66 = .ok (.ifCond .ne 6, 3) := by decide +kernel
theorem dX8_search_69 : decode cX8_search 69 = .ok (.goto 25, 3) := by decide +kernel
theorem dX8_search_72 : decode cX8_search 72 = .ok (.iinc 2 1, 3) := by decide +kernel
theorem dX8_search_75 : decode cX8_search 75 = .ok (.iload_n 2, 1) := by decide +kernel
theorem dX8_search_76 : decode cX8_search 76 = .ok (.aload_n 0, 1) := by decide +kernel
theorem dX8_search_77 : decode cX8_search 77 = .ok (.getfield 21, 3) := by decide +kernel
theorem dX8_search_80 : decode cX8_search 80 = .ok (.getfield 29, 3) := by decide +kernel
theorem dX8_search_83 : decode cX8_search 83 = .ok (.if_icmp .lt 5, 3) := by decide +kernel
theorem dX8_search_86 : decode cX8_search 86 = .ok (.iconst 1, 1) := by decide +kernel
theorem dX8_search_87 : decode cX8_search 87 = .ok (.ireturn, 1) := by decide +kernel
theorem dX8_search_88 : decode cX8_search 88 = .ok (.aload_n 0, 1) := by decide +kernel
theorem dX8_search_89 : decode cX8_search 89 = .ok (.iload_n 2, 1) := by decide +kernel
theorem dX8_search_90 : decode cX8_search 90 = .ok (.iload_n 1, 1) := by decide +kernel
theorem dX8_search_91 : decode cX8_search 91 = .ok (.invokevirtual 35, 3) := by decide +kernel
theorem dX8_search_94 : decode cX8_search 94 = .ok (.iinc 3 1, 3) := by decide +kernel
theorem dX8_search_97 : decode cX8_search 97 = .ok (.goto (-75), 3) := by decide +kernel
theorem dX8_search_100 : decode cX8_search 100 = .ok (.bipush (-2), 2) := by decide +kernel
theorem dX8_search_102 : decode cX8_search 102 = .ok (.ireturn, 1) := by decide +kernel
theorem dX8_handOver_0 : decode cX8_handOver 0 = .ok (.aload_n 0, 1) := by decide +kernel
theorem dX8_handOver_1 : decode cX8_handOver 1 = .ok (.getfield 9, 3) := by decide +kernel
theorem dX8_handOver_4 : decode cX8_handOver 4 = .ok (.iconst 0, 1) := by decide +kernel
theorem dX8_handOver_5 : decode cX8_handOver 5 = .ok (.aload_n 1, 1) := by decide +kernel
theorem dX8_handOver_6 : decode cX8_handOver 6 = .ok (.iconst 0, 1) := by decide +kernel
theorem dX8_handOver_7 : decode cX8_handOver 7 = .ok (.aload_n 0, 1) := by decide +kernel
theorem dX8_handOver_8 : decode cX8_handOver 8 = .ok (.getfield 21, 3) := by decide +kernel
theorem dX8_handOver_11 : decode cX8_handOver 11 = .ok (.getfield 29, 3) := by decide +kernel
theorem dX8_handOver_14 : decode cX8_handOver 14 = .ok (.invokestatic 46, 3) := by decide +kernel
theorem dX8_handOver_17 : decode cX8_handOver 17 = .ok (.return_, 1) := by decide +kernel
theorem dX8_open_0 : decode cX8_open 0 = .ok (.aload_n 0, 1) := by decide +kernel
theorem dX8_open_1 : decode cX8_open 1 = .ok (.getfield 15, 3) := by decide +kernel
theorem dX8_open_4 : decode cX8_open 4 = .ok (.iload_n 1, 1) := by decide +kernel
theorem dX8_open_5 : decode cX8_open 5 = .ok (.iconst 0, 1) := by decide +kernel
theorem dX8_open_6 : decode cX8_open 6 = .ok (.iastore, 1) := by decide +kernel
theorem dX8_open_7 : decode cX8_open 7 = .ok (.aload_n 0, 1) := by decide +kernel
theorem dX8_open_8 : decode cX8_open 8 = .ok (.getfield 18, 3) := by decide +kernel
theorem dX8_open_11 : decode cX8_open 11 = .ok (.iload_n 1, 1) := by decide +kernel
theorem dX8_open_12 : decode cX8_open 12 = .ok (.aload_n 0, 1) := by decide +kernel
theorem dX8_open_13 : decode cX8_open 13 = .ok (.getfield 25, 3) := by decide +kernel
theorem dX8_open_16 : decode cX8_open 16 = .ok (.aload_n 0, 1) := by decide +kernel
theorem dX8_open_17 : decode cX8_open 17 = .ok (.getfield 9, 3) := by decide +kernel
theorem dX8_open_20 : decode cX8_open 20 = .ok (.iload_n 1, 1) := by decide +kernel
theorem dX8_open_21 : decode cX8_open 21 = .ok (.iload_n 1, 1) := by decide +kernel
theorem dX8_open_22 : decode cX8_open 22 = .ok (.invokevirtual 52, 3) := by decide +kernel
theorem dX8_open_25 : decode cX8_open 25 = .ok (.iload_n 2, 1) := by decide +kernel
theorem dX8_open_26 : decode cX8_open 26 = .ok (.aload_n 0, 1) := by decide +kernel
theorem dX8_open_27 : decode cX8_open 27 = .ok (.getfield 21, 3) := by decide +kernel
theorem dX8_open_30 : decode cX8_open 30 = .ok (.iload_n 1, 1) := by decide +kernel
theorem dX8_open_31 : decode cX8_open 31 = .ok (.invokevirtual 58, 3) := by decide +kernel
theorem dX8_open_34 : decode cX8_open 34 = .ok (.isub, 1) := by decide +kernel
theorem dX8_open_35 : decode cX8_open 35 = .ok (.invokestatic 62, 3) := by decide +kernel
theorem dX8_open_38 : decode cX8_open 38 = .ok (.iand, 1) := by decide +kernel
theorem dX8_open_39 : decode cX8_open 39 = .ok (.iastore, 1) := by decide +kernel
theorem dX8_open_40 : decode cX8_open 40 = .ok (.iload_n 1, 1) := by decide +kernel
theorem dX8_open_41 : decode cX8_open 41 = .ok (.ifCond .le 50, 3) := by decide +kernel
theorem dX8_open_44 : decode cX8_open 44 = .ok (.aload_n 0, 1) := by decide +kernel
theorem dX8_open_45 : decode cX8_open 45 = .ok (.getfield 21, 3) := by decide +kernel
theorem dX8_open_48 : decode cX8_open 48 = .ok (.getfield 65, 3) := by decide +kernel
theorem dX8_open_51 : decode cX8_open 51 = .ok (.iload_n 1, 1) := by decide +kernel
theorem dX8_open_52 : decode cX8_open 52 = .ok (.iconst 1, 1) := by decide +kernel
theorem dX8_open_53 : decode cX8_open 53 = .ok (.isub, 1) := by decide +kernel
theorem dX8_open_54 : decode cX8_open 54 = .ok (.iaload, 1) := by decide +kernel
theorem dX8_open_55 : decode cX8_open 55 = .ok (.aload_n 0, 1) := by decide +kernel
theorem dX8_open_56 : decode cX8_open 56 = .ok (.getfield 21, 3) := by decide +kernel
theorem dX8_open_59 : decode cX8_open 59 = .ok (.getfield 65, 3) := by decide +kernel
theorem dX8_open_62 : decode cX8_open 62 = .ok (.iload_n 1, 1) := by decide +kernel
theorem dX8_open_63 : decode cX8_open 63 = .ok (.iaload, 1) := by decide +kernel
theorem dX8_open_64 : decode cX8_open 64 = .ok (.if_icmp .ne 27, 3) := by decide +kernel
theorem dX8_open_67 : decode cX8_open 67 = .ok (.aload_n 0, 1) := by decide +kernel
theorem dX8_open_68 : decode cX8_open 68 = .ok (.getfield 18, 3) := by decide +kernel
theorem dX8_open_71 : decode cX8_open 71 = .ok (.iload_n 1, 1) := by decide +kernel
theorem dX8_open_72 : decode cX8_open 72 = .ok (.dup2, 1) := by decide +kernel
theorem dX8_open_73 : decode cX8_open 73 = .ok (.iaload, 1) := by decide +kernel
theorem dX8_open_74 : decode cX8_open 74 = .ok (.aload_n 0, 1) := by decide +kernel
theorem dX8_open_75 : decode cX8_open 75 = .ok (.getfield 9, 3) := by decide +kernel
theorem dX8_open_78 : decode cX8_open 78 = .ok (.iload_n 1, 1) := by decide +kernel
theorem dX8_open_79 : decode cX8_open 79 = .ok (.iconst 1, 1) := by decide +kernel
theorem dX8_open_80 : decode cX8_open 80 = .ok (.isub, 1) := by decide +kernel
theorem dX8_open_81 : decode cX8_open 81 = .ok (.iaload, 1) := by decide +kernel
theorem dX8_open_82 : decode cX8_open 82 = .ok (.iconst 1, 1) := by decide +kernel
theorem dX8_open_83 : decode cX8_open 83 = .ok (.iadd, 1) := by decide +kernel
theorem dX8_open_84 : decode cX8_open 84 = .ok (.invokestatic 62, 3) := by decide +kernel
theorem dX8_open_87 : decode cX8_open 87 = .ok (.iconst (-1), 1) := by decide +kernel
theorem dX8_open_88 : decode cX8_open 88 = .ok (.ixor, 1) := by decide +kernel
theorem dX8_open_89 : decode cX8_open 89 = .ok (.iand, 1) := by decide +kernel
theorem dX8_open_90 : decode cX8_open 90 = .ok (.iastore, 1) := by decide +kernel
theorem dX8_open_91 : decode cX8_open 91 = .ok (.return_, 1) := by decide +kernel
theorem dX8_takes_0 : decode cX8_takes 0 = .ok (.aload_n 0, 1) := by decide +kernel
theorem dX8_takes_1 : decode cX8_takes 1 = .ok (.getfield 15, 3) := by decide +kernel
theorem dX8_takes_4 : decode cX8_takes 4 = .ok (.iload_n 1, 1) := by decide +kernel
theorem dX8_takes_5 : decode cX8_takes 5 = .ok (.iaload, 1) := by decide +kernel
theorem dX8_takes_6 : decode cX8_takes 6 = .ok (.istore_n 2, 1) := by decide +kernel
theorem dX8_takes_7 : decode cX8_takes 7 = .ok (.aload_n 0, 1) := by decide +kernel
theorem dX8_takes_8 : decode cX8_takes 8 = .ok (.dup, 1) := by decide +kernel
theorem dX8_takes_9 : decode cX8_takes 9 = .ok (.getfield 39, 3) := by decide +kernel
theorem dX8_takes_12 : decode cX8_takes 12 = .ok (.iconst 1, 1) := by decide +kernel
theorem dX8_takes_13 : decode cX8_takes 13 = .ok (.iadd, 1) := by decide +kernel
theorem dX8_takes_14 : decode cX8_takes 14 = .ok (.putfield 39, 3) := by decide +kernel
theorem dX8_takes_17 : decode cX8_takes 17 = .ok (.aload_n 0, 1) := by decide +kernel
theorem dX8_takes_18 : decode cX8_takes 18 = .ok (.getfield 15, 3) := by decide +kernel
theorem dX8_takes_21 : decode cX8_takes 21 = .ok (.iload_n 1, 1) := by decide +kernel
theorem dX8_takes_22 : decode cX8_takes 22 = .ok (.dup2, 1) := by decide +kernel
theorem dX8_takes_23 : decode cX8_takes 23 = .ok (.iaload, 1) := by decide +kernel
theorem dX8_takes_24 : decode cX8_takes 24 = .ok (.iconst 1, 1) := by decide +kernel
theorem dX8_takes_25 : decode cX8_takes 25 = .ok (.iadd, 1) := by decide +kernel
theorem dX8_takes_26 : decode cX8_takes 26 = .ok (.iastore, 1) := by decide +kernel
theorem dX8_takes_27 : decode cX8_takes 27 = .ok (.aload_n 0, 1) := by decide +kernel
theorem dX8_takes_28 : decode cX8_takes 28 = .ok (.getfield 9, 3) := by decide +kernel
theorem dX8_takes_31 : decode cX8_takes 31 = .ok (.iload_n 1, 1) := by decide +kernel
theorem dX8_takes_32 : decode cX8_takes 32 = .ok (.iload_n 2, 1) := by decide +kernel
theorem dX8_takes_33 : decode cX8_takes 33 = .ok (.iastore, 1) := by decide +kernel
theorem dX8_takes_34 : decode cX8_takes 34 = .ok (.aload_n 0, 1) := by decide +kernel
theorem dX8_takes_35 : decode cX8_takes 35 = .ok (.getfield 18, 3) := by decide +kernel
theorem dX8_takes_38 : decode cX8_takes 38 = .ok (.iload_n 1, 1) := by decide +kernel
theorem dX8_takes_39 : decode cX8_takes 39 = .ok (.iaload, 1) := by decide +kernel
theorem dX8_takes_40 : decode cX8_takes 40 = .ok (.iload_n 2, 1) := by decide +kernel
theorem dX8_takes_41 : decode cX8_takes 41 = .ok (.iushr, 1) := by decide +kernel
theorem dX8_takes_42 : decode cX8_takes 42 = .ok (.iconst 1, 1) := by decide +kernel
theorem dX8_takes_43 : decode cX8_takes 43 = .ok (.iand, 1) := by decide +kernel
theorem dX8_takes_44 : decode cX8_takes 44 = .ok (.ifCond .eq 7, 3) := by decide +kernel
theorem dX8_takes_47 : decode cX8_takes 47 = .ok (.iconst 1, 1) := by decide +kernel
theorem dX8_takes_48 : decode cX8_takes 48 = .ok (.goto 4, 3) := by decide +kernel
theorem dX8_takes_51 : decode cX8_takes 51 = .ok (.iconst 0, 1) := by decide +kernel
theorem dX8_takes_52 : decode cX8_takes 52 = .ok (.ireturn, 1) := by decide +kernel
theorem dX8_below_0 : decode cX8_below 0 = .ok (.iload_n 0, 1) := by decide +kernel
theorem dX8_below_1 : decode cX8_below 1 = .ok (.ifCond .gt 7, 3) := by decide +kernel
theorem dX8_below_4 : decode cX8_below 4 = .ok (.iconst 0, 1) := by decide +kernel
theorem dX8_below_5 : decode cX8_below 5 = .ok (.goto 19, 3) := by decide +kernel
theorem dX8_below_8 : decode cX8_below 8 = .ok (.iload_n 0, 1) := by decide +kernel
theorem dX8_below_9 : decode cX8_below 9 = .ok (.bipush 30, 2) := by decide +kernel
theorem dX8_below_11 : decode cX8_below 11 = .ok (.if_icmp .lt 8, 3) := by decide +kernel
theorem dX8_below_14 : decode cX8_below 14 = .ok (.ldc 68, 2) := by decide +kernel
theorem dX8_below_16 : decode cX8_below 16 = .ok (.goto 8, 3) := by decide +kernel
theorem dX8_below_19 : decode cX8_below 19 = .ok (.iconst 1, 1) := by decide +kernel
theorem dX8_below_20 : decode cX8_below 20 = .ok (.iload_n 0, 1) := by decide +kernel
theorem dX8_below_21 : decode cX8_below 21 = .ok (.ishl, 1) := by decide +kernel
theorem dX8_below_22 : decode cX8_below 22 = .ok (.iconst 1, 1) := by decide +kernel
theorem dX8_below_23 : decode cX8_below 23 = .ok (.isub, 1) := by decide +kernel
theorem dX8_below_24 : decode cX8_below 24 = .ok (.ireturn, 1) := by decide +kernel
