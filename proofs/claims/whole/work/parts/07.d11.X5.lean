theorem dX5_canChange_0 : decode cX5_canChange 0 = .ok (.aload_n 1, 1) := by decide +kernel
theorem dX5_canChange_1 : decode cX5_canChange 1 = .ok (.iload_n 2, 1) := by decide +kernel
theorem dX5_canChange_2 : decode cX5_canChange 2 = .ok (.iaload, 1) := by decide +kernel
theorem dX5_canChange_3 : decode cX5_canChange 3 = .ok (.ifCond .lt 21, 3) := by decide +kernel
theorem dX5_canChange_6 : decode cX5_canChange 6 = .ok (.aload_n 0, 1) := by decide +kernel
theorem dX5_canChange_7 : decode cX5_canChange 7 = .ok (.getfield 9, 3) := by decide +kernel
theorem dX5_canChange_10 : decode cX5_canChange 10 = .ok (.getfield 19, 3) := by decide +kernel
theorem dX5_canChange_13 : decode cX5_canChange 13 = .ok (.iload_n 2, 1) := by decide +kernel
theorem dX5_canChange_14 : decode cX5_canChange 14 = .ok (.iaload, 1) := by decide +kernel
theorem dX5_canChange_15 : decode cX5_canChange 15 = .ok (.bipush (-2), 2) := by decide +kernel
theorem dX5_canChange_17 : decode cX5_canChange 17 = .ok (.if_icmp .ne 7, 3) := by decide +kernel
theorem dX5_canChange_20 : decode cX5_canChange 20 = .ok (.iconst 1, 1) := by decide +kernel
theorem dX5_canChange_21 : decode cX5_canChange 21 = .ok (.goto 4, 3) := by decide +kernel
theorem dX5_canChange_24 : decode cX5_canChange 24 = .ok (.iconst 0, 1) := by decide +kernel
theorem dX5_canChange_25 : decode cX5_canChange 25 = .ok (.ireturn, 1) := by decide +kernel
theorem dX5_improve_0 : decode cX5_improve 0 = .ok (.iconst 0, 1) := by decide +kernel
theorem dX5_improve_1 : decode cX5_improve 1 = .ok (.istore_n 2, 1) := by decide +kernel
theorem dX5_improve_2 : decode cX5_improve 2 = .ok (.bipush (-2), 2) := by decide +kernel
theorem dX5_improve_4 : decode cX5_improve 4 = .ok (.istore_n 3, 1) := by decide +kernel
theorem dX5_improve_5 : decode cX5_improve 5 = .ok (.bipush (-2), 2) := by decide +kernel
theorem dX5_improve_7 : decode cX5_improve 7 = .ok (.istore 4, 2) := by decide +kernel
theorem dX5_improve_9 : decode cX5_improve 9 = .ok (.iconst 0, 1) := by decide +kernel
theorem dX5_improve_10 : decode cX5_improve 10 = .ok (.istore 5, 2) := by decide +kernel
theorem dX5_improve_12 : decode cX5_improve 12 = .ok (.iload 5, 2) := by decide +kernel
theorem dX5_improve_14 : decode cX5_improve 14 = .ok (.aload_n 0, 1) := by decide +kernel
theorem dX5_improve_15 : decode cX5_improve 15 = .ok (.getfield 9, 3) := by decide +kernel
theorem dX5_improve_18 : decode cX5_improve 18 = .ok (.getfield 25, 3) := by decide +kernel
theorem dX5_improve_21 : decode cX5_improve 21 = .ok (.if_icmp .ge 108, 3) := by decide +kernel
theorem dX5_improve_24 : decode cX5_improve 24 = .ok (.aload_n 0, 1) := by decide +kernel
theorem dX5_improve_25 : decode cX5_improve 25 = .ok (.aload_n 1, 1) := by decide +kernel
theorem dX5_improve_26 : decode cX5_improve 26 = .ok (.iload 5, 2) := by decide +kernel
theorem dX5_improve_28 : decode cX5_improve 28 = .ok (.invokevirtual 29, 3) := by decide +kernel
theorem dX5_improve_31 : decode cX5_improve 31 = .ok (.ifCond .ne 6, 3) := by decide +kernel
theorem dX5_improve_34 : decode cX5_improve 34 = .ok (.goto 89, 3) := by decide +kernel
theorem dX5_improve_37 : decode cX5_improve 37 = .ok (.aload_n 0, 1) := by decide +kernel
theorem dX5_improve_38 : decode cX5_improve 38 = .ok (.getfield 9, 3) := by decide +kernel
theorem dX5_improve_41 : decode cX5_improve 41 = .ok (.iload 5, 2) := by decide +kernel
theorem dX5_improve_43 : decode cX5_improve 43 = .ok (.invokevirtual 33, 3) := by decide +kernel
theorem dX5_improve_46 : decode cX5_improve 46 = .ok (.istore 6, 2) := by decide +kernel
theorem dX5_improve_48 : decode cX5_improve 48 = .ok (.aload_n 0, 1) := by decide +kernel
theorem dX5_improve_49 : decode cX5_improve 49 = .ok (.getfield 15, 3) := by decide +kernel
theorem dX5_improve_52 : decode cX5_improve 52 = .ok (.aload_n 1, 1) := by decide +kernel
theorem dX5_improve_53 : decode cX5_improve 53 = .ok (.iload 5, 2) := by decide +kernel
theorem dX5_improve_55 : decode cX5_improve 55 = .ok (.invokevirtual 37, 3) := by decide +kernel
theorem dX5_improve_58 : decode cX5_improve 58 = .ok (.astore 7, 2) := by decide +kernel
theorem dX5_improve_60 : decode cX5_improve 60 = .ok (.aload 7, 2) := by decide +kernel
theorem dX5_improve_62 : decode cX5_improve 62 = .ok (.aload_n 1, 1) := by decide +kernel
theorem dX5_improve_63 : decode cX5_improve 63 = .ok (.iload 5, 2) := by decide +kernel
theorem dX5_improve_65 : decode cX5_improve 65 = .ok (.iaload, 1) := by decide +kernel
theorem dX5_improve_66 : decode cX5_improve 66 = .ok (.iaload, 1) := by decide +kernel
theorem dX5_improve_67 : decode cX5_improve 67 = .ok (.istore 8, 2) := by decide +kernel
theorem dX5_improve_69 : decode cX5_improve 69 = .ok (.iconst 0, 1) := by decide +kernel
theorem dX5_improve_70 : decode cX5_improve 70 = .ok (.istore 9, 2) := by decide +kernel
theorem dX5_improve_72 : decode cX5_improve 72 = .ok (.iload 9, 2) := by decide +kernel
theorem dX5_improve_74 : decode cX5_improve 74 = .ok (.bipush 30, 2) := by decide +kernel
theorem dX5_improve_76 : decode cX5_improve 76 = .ok (.if_icmp .ge 47, 3) := by decide +kernel
theorem dX5_improve_79 : decode cX5_improve 79 = .ok (.iload 6, 2) := by decide +kernel
theorem dX5_improve_81 : decode cX5_improve 81 = .ok (.iload 9, 2) := by decide +kernel
theorem dX5_improve_83 : decode cX5_improve 83 = .ok (.iushr, 1) := by decide +kernel
theorem dX5_improve_84 : decode cX5_improve 84 = .ok (.iconst 1, 1) := by decide +kernel
theorem dX5_improve_85 : decode cX5_improve 85 = .ok (.iand, 1) := by decide +kernel
theorem dX5_improve_86 : decode cX5_improve 86 = .ok (.ifCond .eq 31, 3) := by decide +kernel
theorem dX5_improve_89 : decode cX5_improve 89 = .ok (.iload 8, 2) := by decide +kernel
theorem dX5_improve_91 : decode cX5_improve 91 = .ok (.aload 7, 2) := by decide +kernel
theorem dX5_improve_93 : decode cX5_improve 93 = .ok (.iload 9, 2) := by decide +kernel
theorem dX5_improve_95 : decode cX5_improve 95 = .ok (.iaload, 1) := by decide +kernel
theorem dX5_improve_96 : decode cX5_improve 96 = .ok (.isub, 1) := by decide +kernel
theorem dX5_improve_97 : decode cX5_improve 97 = .ok (.iload_n 2, 1) := by decide +kernel
theorem dX5_improve_98 : decode cX5_improve 98 = .ok (.if_icmp .le 19, 3) := by decide +kernel
theorem dX5_improve_101 : decode cX5_improve 101 = .ok (.iload 8, 2) := by decide +kernel
theorem dX5_improve_103 : decode cX5_improve 103 = .ok (.aload 7, 2) := by decide +kernel
theorem dX5_improve_105 : decode cX5_improve 105 = .ok (.iload 9, 2) := by decide +kernel
theorem dX5_improve_107 : decode cX5_improve 107 = .ok (.iaload, 1) := by decide +kernel
theorem dX5_improve_108 : decode cX5_improve 108 = .ok (.isub, 1) := by decide +kernel
theorem dX5_improve_109 : decode cX5_improve 109 = .ok (.istore_n 2, 1) := by decide +kernel
theorem dX5_improve_110 : decode cX5_improve 110 = .ok (.iload 5, 2) := by decide +kernel
theorem dX5_improve_112 : decode cX5_improve 112 = .ok (.istore_n 3, 1) := by decide +kernel
theorem dX5_improve_113 : decode cX5_improve 113 = .ok (.iload 9, 2) := by decide +kernel
theorem dX5_improve_115 : decode cX5_improve 115 = .ok (.istore 4, 2) := by decide +kernel
theorem dX5_improve_117 : decode cX5_improve 117 = .ok (.iinc 9 1, 3) := by decide +kernel
theorem dX5_improve_120 : decode cX5_improve 120 = .ok (.goto (-48), 3) := by decide +kernel
theorem dX5_improve_123 : decode cX5_improve 123 = .ok (.iinc 5 1, 3) := by decide +kernel
theorem dX5_improve_126 : decode cX5_improve 126 = .ok (.goto (-114), 3) := by decide +kernel
theorem dX5_improve_129 : decode cX5_improve 129 = .ok (.iload_n 3, 1) := by decide +kernel
theorem dX5_improve_130 : decode cX5_improve 130 = .ok (.ifCond .ge 5, 3) := by decide +kernel
theorem dX5_improve_133 : decode cX5_improve 133 = .ok (.iconst 0, 1) := by decide +kernel
theorem dX5_improve_134 : decode cX5_improve 134 = .ok (.ireturn, 1) := by decide +kernel
theorem dX5_improve_135 : decode cX5_improve 135 = .ok (.aload_n 1, 1) := by decide +kernel
theorem dX5_improve_136 : decode cX5_improve 136 = .ok (.iload_n 3, 1) := by decide +kernel
theorem dX5_improve_137 : decode cX5_improve 137 = .ok (.iload 4, 2) := by decide +kernel
theorem dX5_improve_139 : decode cX5_improve 139 = .ok (.iastore, 1) := by decide +kernel
theorem dX5_improve_140 : decode cX5_improve 140 = .ok (.iconst 1, 1) := by decide +kernel
theorem dX5_improve_141 : decode cX5_improve 141 = .ok (.ireturn, 1) := by decide +kernel
theorem dX5_changeOne_0 : decode cX5_changeOne 0 = .ok (.iconst 0, 1) := by decide +kernel
theorem dX5_changeOne_1 : decode cX5_changeOne 1 = .ok (.istore_n 2, 1) := by decide +kernel
theorem dX5_changeOne_2 : decode cX5_changeOne 2 = .ok (.iload_n 2, 1) := by decide +kernel
theorem dX5_changeOne_3 : decode cX5_changeOne 3 = .ok (.aload_n 0, 1) := by decide +kernel
theorem dX5_changeOne_4 : decode cX5_changeOne 4 = .ok (.getfield 9, 3) := by decide +kernel
theorem dX5_changeOne_7 : decode cX5_changeOne 7 = .ok (.getfield 25, 3) := by decide +kernel
theorem dX5_changeOne_10 : decode cX5_changeOne 10 = .ok (.if_icmp .ge 68, 3) := by decide +kernel
theorem dX5_changeOne_13 : decode cX5_changeOne 13 = .ok (.aload_n 0, 1) := by decide +kernel
theorem dX5_changeOne_14 : decode cX5_changeOne 14 = .ok (.aload_n 1, 1) := by decide +kernel
theorem dX5_changeOne_15 : decode cX5_changeOne 15 = .ok (.iload_n 2, 1) := by decide +kernel
theorem dX5_changeOne_16 : decode cX5_changeOne 16 = .ok (.invokevirtual 29, 3) := by decide +kernel
theorem dX5_changeOne_19 : decode cX5_changeOne 19 = .ok (.ifCond .ne 6, 3) := by decide +kernel
theorem dX5_changeOne_22 : decode cX5_changeOne 22 = .ok (.goto 50, 3) := by decide +kernel
theorem dX5_changeOne_25 : decode cX5_changeOne 25 = .ok (.aload_n 1, 1) := by decide +kernel
theorem dX5_changeOne_26 : decode cX5_changeOne 26 = .ok (.iload_n 2, 1) := by decide +kernel
theorem dX5_changeOne_27 : decode cX5_changeOne 27 = .ok (.iaload, 1) := by decide +kernel
theorem dX5_changeOne_28 : decode cX5_changeOne 28 = .ok (.istore_n 3, 1) := by decide +kernel
theorem dX5_changeOne_29 : decode cX5_changeOne 29 = .ok (.aload_n 1, 1) := by decide +kernel
theorem dX5_changeOne_30 : decode cX5_changeOne 30 = .ok (.iload_n 2, 1) := by decide +kernel
theorem dX5_changeOne_31 : decode cX5_changeOne 31 = .ok (.bipush (-2), 2) := by decide +kernel
theorem dX5_changeOne_33 : decode cX5_changeOne 33 = .ok (.iastore, 1) := by decide +kernel
theorem dX5_changeOne_34 : decode cX5_changeOne 34 = .ok (.aload_n 1, 1) := by decide +kernel
theorem dX5_changeOne_35 : decode cX5_changeOne 35 = .ok (.iload_n 2, 1) := by decide +kernel
theorem dX5_changeOne_36 : decode cX5_changeOne 36 = .ok (.aload_n 0, 1) := by decide +kernel
theorem dX5_changeOne_37 : decode cX5_changeOne 37 = .ok (.getfield 15, 3) := by decide +kernel
theorem dX5_changeOne_40 : decode cX5_changeOne 40 = .ok (.aload_n 1, 1) := by decide +kernel
theorem dX5_changeOne_41 : decode cX5_changeOne 41 = .ok (.invokevirtual 43, 3) := by decide +kernel
theorem dX5_changeOne_44 : decode cX5_changeOne 44 = .ok (.ifCond .eq 13, 3) := by decide +kernel
theorem dX5_changeOne_47 : decode cX5_changeOne 47 = .ok (.aload_n 0, 1) := by decide +kernel
theorem dX5_changeOne_48 : decode cX5_changeOne 48 = .ok (.aload_n 1, 1) := by decide +kernel
theorem dX5_changeOne_49 : decode cX5_changeOne 49 = .ok (.iload_n 2, 1) := by decide +kernel
theorem dX5_changeOne_50 : decode cX5_changeOne 50 = .ok (.iload_n 3, 1) := by decide +kernel
theorem dX5_changeOne_51 : decode cX5_changeOne 51 = .ok (.invokevirtual 47, 3) := by decide +kernel
theorem dX5_changeOne_54 : decode cX5_changeOne 54 = .ok (.goto 5, 3) := by decide +kernel
theorem dX5_changeOne_57 : decode cX5_changeOne 57 = .ok (.bipush (-2), 2) := by decide +kernel
theorem dX5_changeOne_59 : decode cX5_changeOne 59 = .ok (.iastore, 1) := by decide +kernel
theorem dX5_changeOne_60 : decode cX5_changeOne 60 = .ok (.aload_n 1, 1) := by decide +kernel
theorem dX5_changeOne_61 : decode cX5_changeOne 61 = .ok (.iload_n 2, 1) := by decide +kernel
theorem dX5_changeOne_62 : decode cX5_changeOne 62 = .ok (.iaload, 1) := by decide +kernel
theorem dX5_changeOne_63 : decode cX5_changeOne 63 = .ok (.ifCond .lt 5, 3) := by decide +kernel
theorem dX5_changeOne_66 : decode cX5_changeOne 66 = .ok (.iconst 1, 1) := by decide +kernel
theorem dX5_changeOne_67 : decode cX5_changeOne 67 = .ok (.ireturn, 1) := by decide +kernel
theorem dX5_changeOne_68 : decode cX5_changeOne 68 = .ok (.aload_n 1, 1) := by decide +kernel
theorem dX5_changeOne_69 : decode cX5_changeOne 69 = .ok (.iload_n 2, 1) := by decide +kernel
theorem dX5_changeOne_70 : decode cX5_changeOne 70 = .ok (.iload_n 3, 1) := by decide +kernel
theorem dX5_changeOne_71 : decode cX5_changeOne 71 = .ok (.iastore, 1) := by decide +kernel
theorem dX5_changeOne_72 : decode cX5_changeOne 72 = .ok (.iinc 2 1, 3) := by decide +kernel
theorem dX5_changeOne_75 : decode cX5_changeOne 75 = .ok (.goto (-73), 3) := by decide +kernel
theorem dX5_changeOne_78 : decode cX5_changeOne 78 = .ok (.iconst 0, 1) := by decide +kernel
theorem dX5_changeOne_79 : decode cX5_changeOne 79 = .ok (.ireturn, 1) := by decide +kernel
theorem dX5_changeTwo_0 : decode cX5_changeTwo 0 = .ok (.iconst 0, 1) := by decide +kernel
theorem dX5_changeTwo_1 : decode cX5_changeTwo 1 = .ok (.istore_n 2, 1) := by decide +kernel
theorem dX5_changeTwo_2 : decode cX5_changeTwo 2 = .ok (.iload_n 2, 1) := by decide +kernel
theorem dX5_changeTwo_3 : decode cX5_changeTwo 3 = .ok (.aload_n 0, 1) := by decide +kernel
theorem dX5_changeTwo_4 : decode cX5_changeTwo 4 = .ok (.getfield 9, 3) := by decide +kernel
theorem dX5_changeTwo_7 : decode cX5_changeTwo 7 = .ok (.getfield 25, 3) := by decide +kernel
theorem dX5_changeTwo_10 : decode cX5_changeTwo 10 = .ok (.if_icmp .ge 60, 3) := by decide +kernel
theorem dX5_changeTwo_13 : decode cX5_changeTwo 13 = .ok (.iload_n 2, 1) := by decide +kernel
theorem dX5_changeTwo_14 : decode cX5_changeTwo 14 = .ok (.iconst 1, 1) := by decide +kernel
theorem dX5_changeTwo_15 : decode cX5_changeTwo 15 = .ok (.iadd, 1) := by decide +kernel
theorem dX5_changeTwo_16 : decode cX5_changeTwo 16 = .ok (.istore_n 3, 1) := by decide +kernel
theorem dX5_changeTwo_17 : decode cX5_changeTwo 17 = .ok (.iload_n 3, 1) := by decide +kernel
theorem dX5_changeTwo_18 : decode cX5_changeTwo 18 = .ok (.aload_n 0, 1) := by decide +kernel
theorem dX5_changeTwo_19 : decode cX5_changeTwo 19 = .ok (.getfield 9, 3) := by decide +kernel
theorem dX5_changeTwo_22 : decode cX5_changeTwo 22 = .ok (.getfield 25, 3) := by decide +kernel
theorem dX5_changeTwo_25 : decode cX5_changeTwo 25 = .ok (.if_icmp .ge 39, 3) := by decide +kernel
theorem dX5_changeTwo_28 : decode cX5_changeTwo 28 = .ok (.aload_n 0, 1) := by decide +kernel
theorem dX5_changeTwo_29 : decode cX5_changeTwo 29 = .ok (.aload_n 1, 1) := by decide +kernel
theorem dX5_changeTwo_30 : decode cX5_changeTwo 30 = .ok (.iload_n 2, 1) := by decide +kernel
theorem dX5_changeTwo_31 : decode cX5_changeTwo 31 = .ok (.invokevirtual 29, 3) := by decide +kernel
theorem dX5_changeTwo_34 : decode cX5_changeTwo 34 = .ok (.ifCond .eq 24, 3) := by decide +kernel
theorem dX5_changeTwo_37 : decode cX5_changeTwo 37 = .ok (.aload_n 0, 1) := by decide +kernel
theorem dX5_changeTwo_38 : decode cX5_changeTwo 38 = .ok (.aload_n 1, 1) := by decide +kernel
theorem dX5_changeTwo_39 : decode cX5_changeTwo 39 = .ok (.iload_n 3, 1) := by decide +kernel
theorem dX5_changeTwo_40 : decode cX5_changeTwo 40 = .ok (.invokevirtual 29, 3) := by decide +kernel
theorem dX5_changeTwo_43 : decode cX5_changeTwo 43 = .ok (.ifCond .eq 15, 3) := by decide +kernel
theorem dX5_changeTwo_46 : decode cX5_changeTwo 46 = .ok (.aload_n 0, 1) := by decide +kernel
theorem dX5_changeTwo_47 : decode cX5_changeTwo 47 = .ok (.aload_n 1, 1) := by decide +kernel
theorem dX5_changeTwo_48 : decode cX5_changeTwo 48 = .ok (.iload_n 2, 1) := by decide +kernel
theorem dX5_changeTwo_49 : decode cX5_changeTwo 49 = .ok (.iload_n 3, 1) := by decide +kernel
theorem dX5_changeTwo_50 : decode cX5_changeTwo 50 = .ok (.invokevirtual 51, 3) := by decide +kernel
theorem dX5_changeTwo_53 : decode cX5_changeTwo 53 = .ok (.ifCond .eq 5, 3) := by decide +kernel
theorem dX5_changeTwo_56 : decode cX5_changeTwo 56 = .ok (.iconst 1, 1) := by decide +kernel
theorem dX5_changeTwo_57 : decode cX5_changeTwo 57 = .ok (.ireturn, 1) := by decide +kernel
theorem dX5_changeTwo_58 : decode cX5_changeTwo 58 = .ok (.iinc 3 1, 3) := by decide +kernel
theorem dX5_changeTwo_61 : decode cX5_changeTwo 61 = .ok (.goto (-44), 3) := by decide +kernel
theorem dX5_changeTwo_64 : decode cX5_changeTwo 64 = .ok (.iinc 2 1, 3) := by decide +kernel
theorem dX5_changeTwo_67 : decode cX5_changeTwo 67 = .ok (.goto (-65), 3) := by decide +kernel
theorem dX5_changeTwo_70 : decode cX5_changeTwo 70 = .ok (.iconst 0, 1) := by decide +kernel
theorem dX5_changeTwo_71 : decode cX5_changeTwo 71 = .ok (.ireturn, 1) := by decide +kernel
theorem dX5_changeBoth_0 : decode cX5_changeBoth 0 = .ok (.aload_n 1, 1) := by decide +kernel
theorem dX5_changeBoth_1 : decode cX5_changeBoth 1 = .ok (.iload_n 2, 1) := by decide +kernel
theorem dX5_changeBoth_2 : decode cX5_changeBoth 2 = .ok (.iaload, 1) := by decide +kernel
theorem dX5_changeBoth_3 : decode cX5_changeBoth 3 = .ok (.istore 4, 2) := by decide +kernel
theorem dX5_changeBoth_5 : decode cX5_changeBoth 5 = .ok (.aload_n 1, 1) := by decide +kernel
theorem dX5_changeBoth_6 : decode cX5_changeBoth 6 = .ok (.iload_n 3, 1) := by decide +kernel
theorem dX5_changeBoth_7 : decode cX5_changeBoth 7 = .ok (.iaload, 1) := by decide +kernel
theorem dX5_changeBoth_8 : decode cX5_changeBoth 8 = .ok (.istore 5, 2) := by decide +kernel
theorem dX5_changeBoth_10 : decode cX5_changeBoth 10 = .ok (.aload_n 1, 1) := by decide +kernel
theorem dX5_changeBoth_11 : decode cX5_changeBoth 11 = .ok (.iload_n 2, 1) := by decide +kernel
theorem dX5_changeBoth_12 : decode cX5_changeBoth 12 = .ok (.bipush (-2), 2) := by decide +kernel
theorem dX5_changeBoth_14 : decode cX5_changeBoth 14 = .ok (.iastore, 1) := by decide +kernel
theorem dX5_changeBoth_15 : decode cX5_changeBoth 15 = .ok (.aload_n 1, 1) := by decide +kernel
theorem dX5_changeBoth_16 : decode cX5_changeBoth 16 = .ok (.iload_n 3, 1) := by decide +kernel
theorem dX5_changeBoth_17 : decode cX5_changeBoth 17 = .ok (.bipush (-2), 2) := by decide +kernel
theorem dX5_changeBoth_19 : decode cX5_changeBoth 19 = .ok (.iastore, 1) := by decide +kernel
theorem dX5_changeBoth_20 : decode cX5_changeBoth 20 = .ok (.aload_n 0, 1) := by decide +kernel
theorem dX5_changeBoth_21 : decode cX5_changeBoth 21 = .ok (.getfield 15, 3) := by decide +kernel
theorem dX5_changeBoth_24 : decode cX5_changeBoth 24 = .ok (.aload_n 1, 1) := by decide +kernel
theorem dX5_changeBoth_25 : decode cX5_changeBoth 25 = .ok (.invokevirtual 43, 3) := by decide +kernel
theorem dX5_changeBoth_28 : decode cX5_changeBoth 28 = .ok (.ifCond .eq 29, 3) := by decide +kernel
theorem dX5_changeBoth_31 : decode cX5_changeBoth 31 = .ok (.aload_n 0, 1) := by decide +kernel
theorem dX5_changeBoth_32 : decode cX5_changeBoth 32 = .ok (.getfield 15, 3) := by decide +kernel
theorem dX5_changeBoth_35 : decode cX5_changeBoth 35 = .ok (.aload_n 1, 1) := by decide +kernel
theorem dX5_changeBoth_36 : decode cX5_changeBoth 36 = .ok (.iload_n 2, 1) := by decide +kernel
theorem dX5_changeBoth_37 : decode cX5_changeBoth 37 = .ok (.aload_n 0, 1) := by decide +kernel
theorem dX5_changeBoth_38 : decode cX5_changeBoth 38 = .ok (.getfield 9, 3) := by decide +kernel
theorem dX5_changeBoth_41 : decode cX5_changeBoth 41 = .ok (.getfield 25, 3) := by decide +kernel
theorem dX5_changeBoth_44 : decode cX5_changeBoth 44 = .ok (.invokevirtual 55, 3) := by decide +kernel
theorem dX5_changeBoth_47 : decode cX5_changeBoth 47 = .ok (.iconst 1, 1) := by decide +kernel
theorem dX5_changeBoth_48 : decode cX5_changeBoth 48 = .ok (.iload 4, 2) := by decide +kernel
theorem dX5_changeBoth_50 : decode cX5_changeBoth 50 = .ok (.ishl, 1) := by decide +kernel
theorem dX5_changeBoth_51 : decode cX5_changeBoth 51 = .ok (.iconst (-1), 1) := by decide +kernel
theorem dX5_changeBoth_52 : decode cX5_changeBoth 52 = .ok (.ixor, 1) := by decide +kernel
theorem dX5_changeBoth_53 : decode cX5_changeBoth 53 = .ok (.iand, 1) := by decide +kernel
theorem dX5_changeBoth_54 : decode cX5_changeBoth 54 = .ok (.goto 4, 3) := by decide +kernel
theorem dX5_changeBoth_57 : decode cX5_changeBoth 57 = .ok (.iconst 0, 1) := by decide +kernel
theorem dX5_changeBoth_58 : decode cX5_changeBoth 58 = .ok (.istore 6, 2) := by decide +kernel
theorem dX5_changeBoth_60 : decode cX5_changeBoth 60 = .ok (.iconst 0, 1) := by decide +kernel
theorem dX5_changeBoth_61 : decode cX5_changeBoth 61 = .ok (.istore 7, 2) := by decide +kernel
theorem dX5_changeBoth_63 : decode cX5_changeBoth 63 = .ok (.iload 7, 2) := by decide +kernel
theorem dX5_changeBoth_65 : decode cX5_changeBoth 65 = .ok (.bipush 30, 2) := by decide +kernel
theorem dX5_changeBoth_67 : decode cX5_changeBoth 67 = .ok (.if_icmp .ge 46, 3) := by decide +kernel
theorem dX5_changeBoth_70 : decode cX5_changeBoth 70 = .ok (.iload 6, 2) := by decide +kernel
theorem dX5_changeBoth_72 : decode cX5_changeBoth 72 = .ok (.iload 7, 2) := by decide +kernel
theorem dX5_changeBoth_74 : decode cX5_changeBoth 74 = .ok (.iushr, 1) := by decide +kernel
theorem dX5_changeBoth_75 : decode cX5_changeBoth 75 = .ok (.iconst 1, 1) := by decide +kernel
theorem dX5_changeBoth_76 : decode cX5_changeBoth 76 = .ok (.iand, 1) := by decide +kernel
theorem dX5_changeBoth_77 : decode cX5_changeBoth 77 = .ok (.ifCond .ne 6, 3) := by decide +kernel
theorem dX5_changeBoth_80 : decode cX5_changeBoth 80 = .ok (.goto 27, 3) := by decide +kernel
theorem dX5_changeBoth_83 : decode cX5_changeBoth 83 = .ok (.aload_n 1, 1) := by decide +kernel
theorem dX5_changeBoth_84 : decode cX5_changeBoth 84 = .ok (.iload_n 2, 1) := by decide +kernel
theorem dX5_changeBoth_85 : decode cX5_changeBoth 85 = .ok (.iload 7, 2) := by decide +kernel
theorem dX5_changeBoth_87 : decode cX5_changeBoth 87 = .ok (.iastore, 1) := by decide +kernel
theorem dX5_changeBoth_88 : decode cX5_changeBoth 88 = .ok (.aload_n 1, 1) := by decide +kernel
theorem dX5_changeBoth_89 : decode cX5_changeBoth 89 = .ok (.iload_n 3, 1) := by decide +kernel
theorem dX5_changeBoth_90 : decode cX5_changeBoth 90 = .ok (.aload_n 0, 1) := by decide +kernel
theorem dX5_changeBoth_91 : decode cX5_changeBoth 91 = .ok (.aload_n 1, 1) := by decide +kernel
theorem dX5_changeBoth_92 : decode cX5_changeBoth 92 = .ok (.iload_n 3, 1) := by decide +kernel
theorem dX5_changeBoth_93 : decode cX5_changeBoth 93 = .ok (.iload 5, 2) := by decide +kernel
theorem dX5_changeBoth_95 : decode cX5_changeBoth 95 = .ok (.invokevirtual 47, 3) := by decide +kernel
theorem dX5_changeBoth_98 : decode cX5_changeBoth 98 = .ok (.iastore, 1) := by decide +kernel
theorem dX5_changeBoth_99 : decode cX5_changeBoth 99 = .ok (.aload_n 1, 1) := by decide +kernel
theorem dX5_changeBoth_100 : decode cX5_changeBoth 100 = .ok (.iload_n 3, 1) := by decide +kernel
theorem dX5_changeBoth_101 : decode cX5_changeBoth 101 = .ok (.iaload, 1) := by decide +kernel
theorem dX5_changeBoth_102 : decode cX5_changeBoth 102 = .ok (.ifCond .lt 5, 3) := by decide +kernel
theorem dX5_changeBoth_105 : decode cX5_changeBoth 105 = .ok (.iconst 1, 1) := by decide +kernel
theorem dX5_changeBoth_106 : decode cX5_changeBoth 106 = .ok (.ireturn, 1) := by decide +kernel
theorem dX5_changeBoth_107 : decode cX5_changeBoth 107 = .ok (.iinc 7 1, 3) := by decide +kernel
theorem dX5_changeBoth_110 : decode cX5_changeBoth 110 = .ok (.goto (-47), 3) := by decide +kernel
theorem dX5_changeBoth_113 : decode cX5_changeBoth 113 = .ok (.aload_n 1, 1) := by decide +kernel
theorem dX5_changeBoth_114 : decode cX5_changeBoth 114 = .ok (.iload_n 2, 1) := by decide +kernel
theorem dX5_changeBoth_115 : decode cX5_changeBoth 115 = .ok (.iload 4, 2) := by decide +kernel
theorem dX5_changeBoth_117 : decode cX5_changeBoth 117 = .ok (.iastore, 1) := by decide +kernel
theorem dX5_changeBoth_118 : decode cX5_changeBoth 118 = .ok (.aload_n 1, 1) := by decide +kernel
theorem dX5_changeBoth_119 : decode cX5_changeBoth 119 = .ok (.iload_n 3, 1) := by decide +kernel
theorem dX5_changeBoth_120 : decode cX5_changeBoth 120 = .ok (.iload 5, 2) := by decide +kernel
theorem dX5_changeBoth_122 : decode cX5_changeBoth 122 = .ok (.iastore, 1) := by decide +kernel
theorem dX5_changeBoth_123 : decode cX5_changeBoth 123 = .ok (.iconst 0, 1) := by decide +kernel
theorem dX5_changeBoth_124 : decode cX5_changeBoth 124 = .ok (.ireturn, 1) := by decide +kernel
theorem dX5_leastFree_0 : decode cX5_leastFree 0 = .ok (.aload_n 0, 1) := by decide +kernel
theorem dX5_leastFree_1 : decode cX5_leastFree 1 = .ok (.getfield 15, 3) := by decide +kernel
theorem dX5_leastFree_4 : decode cX5_leastFree 4 = .ok (.aload_n 1, 1) := by decide +kernel
theorem dX5_leastFree_5 : decode cX5_leastFree 5 = .ok (.iload_n 2, 1) := by decide +kernel
theorem dX5_leastFree_6 : decode cX5_leastFree 6 = .ok (.aload_n 0, 1) := by decide +kernel
theorem dX5_leastFree_7 : decode cX5_leastFree 7 = .ok (.getfield 9, 3) := by decide +kernel
theorem dX5_leastFree_10 : decode cX5_leastFree 10 = .ok (.getfield 25, 3) := by decide +kernel
theorem dX5_leastFree_13 : decode cX5_leastFree 13 = .ok (.invokevirtual 55, 3) := by decide +kernel
theorem dX5_leastFree_16 : decode cX5_leastFree 16 = .ok (.iconst 1, 1) := by decide +kernel
theorem dX5_leastFree_17 : decode cX5_leastFree 17 = .ok (.iload_n 3, 1) := by decide +kernel
theorem dX5_leastFree_18 : decode cX5_leastFree 18 = .ok (.ishl, 1) := by decide +kernel
theorem dX5_leastFree_19 : decode cX5_leastFree 19 = .ok (.iconst (-1), 1) := by decide +kernel
theorem dX5_leastFree_20 : decode cX5_leastFree 20 = .ok (.ixor, 1) := by decide +kernel
theorem dX5_leastFree_21 : decode cX5_leastFree 21 = .ok (.iand, 1) := by decide +kernel
theorem dX5_leastFree_22 : decode cX5_leastFree 22 = .ok (.istore 4, 2) := by decide +kernel
theorem dX5_leastFree_24 : decode cX5_leastFree 24 = .ok (.iconst 0, 1) := by decide +kernel
theorem dX5_leastFree_25 : decode cX5_leastFree 25 = .ok (.istore 5, 2) := by decide +kernel
theorem dX5_leastFree_27 : decode cX5_leastFree 27 = .ok (.iload 5, 2) := by decide +kernel
theorem dX5_leastFree_29 : decode cX5_leastFree 29 = .ok (.bipush 30, 2) := by decide +kernel
theorem dX5_leastFree_31 : decode cX5_leastFree 31 = .ok (.if_icmp .ge 22, 3) := by decide +kernel
theorem dX5_leastFree_34 : decode cX5_leastFree 34 = .ok (.iload 4, 2) := by decide +kernel
theorem dX5_leastFree_36 : decode cX5_leastFree 36 = .ok (.iload 5, 2) := by decide +kernel
theorem dX5_leastFree_38 : decode cX5_leastFree 38 = .ok (.iushr, 1) := by decide +kernel
theorem dX5_leastFree_39 : decode cX5_leastFree 39 = .ok (.iconst 1, 1) := by decide +kernel
theorem dX5_leastFree_40 : decode cX5_leastFree 40 = .ok (.iand, 1) := by decide +kernel
theorem dX5_leastFree_41 : decode cX5_leastFree 41 = .ok (.ifCond .eq 6, 3) := by decide +kernel
theorem dX5_leastFree_44 : decode cX5_leastFree 44 = .ok (.iload 5, 2) := by decide +kernel
theorem dX5_leastFree_46 : decode cX5_leastFree 46 = .ok (.ireturn, 1) := by decide +kernel
theorem dX5_leastFree_47 : decode cX5_leastFree 47 = .ok (.iinc 5 1, 3) := by decide +kernel
theorem dX5_leastFree_50 : decode cX5_leastFree 50 = .ok (.goto (-23), 3) := by decide +kernel
theorem dX5_leastFree_53 : decode cX5_leastFree 53 = .ok (.bipush (-2), 2) := by decide +kernel
theorem dX5_leastFree_55 : decode cX5_leastFree 55 = .ok (.ireturn, 1) := by decide +kernel
