theorem dX10_isHealedBy_20 : decode cX10_isHealedBy 20 = .ok (.getfield 37, 3) := by decide +kernel
theorem dX10_isHealedBy_23 : decode cX10_isHealedBy 23 = .ok (.iload_n 1, 1) := by decide +kernel
theorem dX10_isHealedBy_24 : decode cX10_isHealedBy 24 = .ok (.iaload, 1) := by decide +kernel
theorem dX10_isHealedBy_25 : decode cX10_isHealedBy 25 = .ok (.ifCond .ge 46, 3) := by decide +kernel
theorem dX10_isHealedBy_28 : decode cX10_isHealedBy 28 = .ok (.iload_n 3, 1) := by decide +kernel
theorem dX10_isHealedBy_29 : decode cX10_isHealedBy 29 = .ok (.iload_n 2, 1) := by decide +kernel
theorem dX10_isHealedBy_30 : decode cX10_isHealedBy 30 = .ok (.if_icmp .eq 35, 3) := by decide +kernel
theorem dX10_isHealedBy_33 : decode cX10_isHealedBy 33 = .ok (.aload_n 0, 1) := by decide +kernel
theorem dX10_isHealedBy_34 : decode cX10_isHealedBy 34 = .ok (.iload_n 1, 1) := by decide +kernel
theorem dX10_isHealedBy_35 : decode cX10_isHealedBy 35 = .ok (.iload_n 3, 1) := by decide +kernel
theorem dX10_isHealedBy_36 : decode cX10_isHealedBy 36 = .ok (.invokevirtual 176, 3) := by decide +kernel
theorem dX10_isHealedBy_39 : decode cX10_isHealedBy 39 = .ok (.ifCond .eq 26, 3) := by decide +kernel
theorem dX10_isHealedBy_42 : decode cX10_isHealedBy 42 = .ok (.aload_n 0, 1) := by decide +kernel
theorem dX10_isHealedBy_43 : decode cX10_isHealedBy 43 = .ok (.getfield 40, 3) := by decide +kernel
theorem dX10_isHealedBy_46 : decode cX10_isHealedBy 46 = .ok (.iload_n 1, 1) := by decide +kernel
theorem dX10_isHealedBy_47 : decode cX10_isHealedBy 47 = .ok (.iload_n 3, 1) := by decide +kernel
theorem dX10_isHealedBy_48 : decode cX10_isHealedBy 48 = .ok (.iastore, 1) := by decide +kernel
theorem dX10_isHealedBy_49 : decode cX10_isHealedBy 49 = .ok (.aload_n 0, 1) := by decide +kernel
theorem dX10_isHealedBy_50 : decode cX10_isHealedBy 50 = .ok (.invokevirtual 199, 3) := by decide +kernel
theorem dX10_isHealedBy_53 : decode cX10_isHealedBy 53 = .ok (.ifCond .ne 5, 3) := by decide +kernel
theorem dX10_isHealedBy_56 : decode cX10_isHealedBy 56 = .ok (.iconst 1, 1) := by decide +kernel
theorem dX10_isHealedBy_57 : decode cX10_isHealedBy 57 = .ok (.ireturn, 1) := by decide +kernel
theorem dX10_isHealedBy_58 : decode cX10_isHealedBy 58 = .ok (.aload_n 0, 1) := by decide +kernel
theorem dX10_isHealedBy_59 : decode cX10_isHealedBy 59 = .ok (.getfield 40, 3) := by decide +kernel
theorem dX10_isHealedBy_62 : decode cX10_isHealedBy 62 = .ok (.iload_n 1, 1) := by decide +kernel
theorem dX10_isHealedBy_63 : decode cX10_isHealedBy 63 = .ok (.iload_n 2, 1) := by decide +kernel
theorem dX10_isHealedBy_64 : decode cX10_isHealedBy 64 = .ok (.iastore, 1) := by decide +kernel
theorem dX10_isHealedBy_65 : decode cX10_isHealedBy 65 = .ok (.iinc 3 1, 3) := by decide +kernel
theorem dX10_isHealedBy_68 : decode cX10_isHealedBy 68 = .ok (.goto (-59), 3) := by decide +kernel
theorem dX10_isHealedBy_71 : decode cX10_isHealedBy 71 = .ok (.iconst 0, 1) := by decide +kernel
theorem dX10_isHealedBy_72 : decode cX10_isHealedBy 72 = .ok (.ireturn, 1) := by decide +kernel
theorem dX10_isHealedByTwo_0 : decode cX10_isHealedByTwo 0 = .ok (.iconst 0, 1) := by decide +kernel
theorem dX10_isHealedByTwo_1 : decode cX10_isHealedByTwo 1 = .ok (.istore_n 1, 1) := by decide +kernel
theorem dX10_isHealedByTwo_2 : decode cX10_isHealedByTwo 2 = .ok (.iload_n 1, 1) := by decide +kernel
theorem dX10_isHealedByTwo_3 : decode cX10_isHealedByTwo 3 = .ok (.aload_n 0, 1) := by decide +kernel
theorem dX10_isHealedByTwo_4 : decode cX10_isHealedByTwo 4 = .ok (.getfield 108, 3) := by decide +kernel
theorem dX10_isHealedByTwo_7 : decode cX10_isHealedByTwo 7 = .ok (.if_icmp .ge 104, 3) := by decide +kernel
theorem dX10_isHealedByTwo_10 : decode cX10_isHealedByTwo 10 = .ok (.iload_n 1, 1) := by decide +kernel
theorem dX10_isHealedByTwo_11 : decode cX10_isHealedByTwo 11 = .ok (.iconst 1, 1) := by decide +kernel
theorem dX10_isHealedByTwo_12 : decode cX10_isHealedByTwo 12 = .ok (.iadd, 1) := by decide +kernel
theorem dX10_isHealedByTwo_13 : decode cX10_isHealedByTwo 13 = .ok (.istore_n 2, 1) := by decide +kernel
theorem dX10_isHealedByTwo_14 : decode cX10_isHealedByTwo 14 = .ok (.iload_n 2, 1) := by decide +kernel
theorem dX10_isHealedByTwo_15 : decode cX10_isHealedByTwo 15 = .ok (.aload_n 0, 1) := by decide +kernel
theorem dX10_isHealedByTwo_16 : decode cX10_isHealedByTwo 16 = .ok (.getfield 108, 3) := by decide +kernel
theorem dX10_isHealedByTwo_19 : decode cX10_isHealedByTwo 19 = .ok (.if_icmp .ge 86, 3) := by decide +kernel
theorem dX10_isHealedByTwo_22 : decode cX10_isHealedByTwo 22 = .ok (.aload_n 0, 1) := by decide +kernel
theorem dX10_isHealedByTwo_23 : decode cX10_isHealedByTwo 23 = .ok (.getfield 40, 3) := by decide +kernel
theorem dX10_isHealedByTwo_26 : decode cX10_isHealedByTwo 26 = .ok (.iload_n 1, 1) := by decide +kernel
theorem dX10_isHealedByTwo_27 : decode cX10_isHealedByTwo 27 = .ok (.iaload, 1) := by decide +kernel
theorem dX10_isHealedByTwo_28 : decode cX10_isHealedByTwo 28 = .ok (.istore_n 3, 1) := by decide +kernel
theorem dX10_isHealedByTwo_29 : decode cX10_isHealedByTwo 29 = .ok (.iconst 0, 1) := by decide +kernel
theorem dX10_isHealedByTwo_30 : decode cX10_isHealedByTwo 30 = .ok (.istore 4, 2) := by decide +kernel
theorem dX10_isHealedByTwo_32 : decode cX10_isHealedByTwo 32 = .ok (.iload 4, 2) := by decide +kernel
theorem dX10_isHealedByTwo_34 : decode cX10_isHealedByTwo 34 = .ok (.bipush 30, 2) := by decide +kernel
theorem dX10_isHealedByTwo_36 : decode cX10_isHealedByTwo 36 = .ok (.if_icmp .ge 63, 3) := by decide +kernel
theorem dX10_isHealedByTwo_39 : decode cX10_isHealedByTwo 39 = .ok (.iload_n 3, 1) := by decide +kernel
theorem dX10_isHealedByTwo_40 : decode cX10_isHealedByTwo 40 = .ok (.ifCond .lt 59, 3) := by decide +kernel
theorem dX10_isHealedByTwo_43 : decode cX10_isHealedByTwo 43 = .ok (.aload_n 0, 1) := by decide +kernel
theorem dX10_isHealedByTwo_44 : decode cX10_isHealedByTwo 44 = .ok (.getfield 37, 3) := by decide +kernel
theorem dX10_isHealedByTwo_47 : decode cX10_isHealedByTwo 47 = .ok (.iload_n 1, 1) := by decide +kernel
theorem dX10_isHealedByTwo_48 : decode cX10_isHealedByTwo 48 = .ok (.iaload, 1) := by decide +kernel
theorem dX10_isHealedByTwo_49 : decode cX10_isHealedByTwo 49 = .ok (.ifCond .ge 50, 3) := by decide +kernel
theorem dX10_isHealedByTwo_52 : decode cX10_isHealedByTwo 52 = .ok (.iload 4, 2) := by decide +kernel
theorem dX10_isHealedByTwo_54 : decode cX10_isHealedByTwo 54 = .ok (.iload_n 3, 1) := by decide +kernel
theorem dX10_isHealedByTwo_55 : decode cX10_isHealedByTwo 55 = .ok (.if_icmp .eq 38, 3) := by decide +kernel
theorem dX10_isHealedByTwo_58 : decode cX10_isHealedByTwo 58 = .ok (.aload_n 0, 1) := by decide +kernel
theorem dX10_isHealedByTwo_59 : decode cX10_isHealedByTwo 59 = .ok (.iload_n 1, 1) := by decide +kernel
theorem dX10_isHealedByTwo_60 : decode cX10_isHealedByTwo 60 = .ok (.iload 4, 2) := by decide +kernel
theorem dX10_isHealedByTwo_62 : decode cX10_isHealedByTwo 62 = .ok (.invokevirtual 176, 3) := by decide +kernel
theorem dX10_isHealedByTwo_65 : decode cX10_isHealedByTwo 65 = .ok (.ifCond .eq 28, 3) := by decide +kernel
theorem dX10_isHealedByTwo_68 : decode cX10_isHealedByTwo 68 = .ok (.aload_n 0, 1) := by decide +kernel
theorem dX10_isHealedByTwo_69 : decode cX10_isHealedByTwo 69 = .ok (.getfield 40, 3) := by decide +kernel
theorem dX10_isHealedByTwo_72 : decode cX10_isHealedByTwo 72 = .ok (.iload_n 1, 1) := by decide +kernel
theorem dX10_isHealedByTwo_73 : decode cX10_isHealedByTwo 73 = .ok (.iload 4, 2) := by decide +kernel
theorem dX10_isHealedByTwo_75 : decode cX10_isHealedByTwo 75 = .ok (.iastore, 1) := by decide +kernel
theorem dX10_isHealedByTwo_76 : decode cX10_isHealedByTwo 76 = .ok (.aload_n 0, 1) := by decide +kernel
theorem dX10_isHealedByTwo_77 : decode cX10_isHealedByTwo 77 = .ok (.iload_n 2, 1) := by decide +kernel
theorem dX10_isHealedByTwo_78 : decode cX10_isHealedByTwo 78 = .ok (.invokevirtual 235, 3) := by decide +kernel
theorem dX10_isHealedByTwo_81 : decode cX10_isHealedByTwo 81 = .ok (.ifCond .eq 5, 3) := by decide +kernel
theorem dX10_isHealedByTwo_84 : decode cX10_isHealedByTwo 84 = .ok (.iconst 1, 1) := by decide +kernel
theorem dX10_isHealedByTwo_85 : decode cX10_isHealedByTwo 85 = .ok (.ireturn, 1) := by decide +kernel
theorem dX10_isHealedByTwo_86 : decode cX10_isHealedByTwo 86 = .ok (.aload_n 0, 1) := by decide +kernel
theorem dX10_isHealedByTwo_87 : decode cX10_isHealedByTwo 87 = .ok (.getfield 40, 3) := by decide +kernel
theorem dX10_isHealedByTwo_90 : decode cX10_isHealedByTwo 90 = .ok (.iload_n 1, 1) := by decide +kernel
theorem dX10_isHealedByTwo_91 : decode cX10_isHealedByTwo 91 = .ok (.iload_n 3, 1) := by decide +kernel
theorem dX10_isHealedByTwo_92 : decode cX10_isHealedByTwo 92 = .ok (.iastore, 1) := by decide +kernel
theorem dX10_isHealedByTwo_93 : decode cX10_isHealedByTwo 93 = .ok (.iinc 4 1, 3) := by decide +kernel
theorem dX10_isHealedByTwo_96 : decode cX10_isHealedByTwo 96 = .ok (.goto (-64), 3) := by decide +kernel
theorem dX10_isHealedByTwo_99 : decode cX10_isHealedByTwo 99 = .ok (.iinc 2 1, 3) := by decide +kernel
theorem dX10_isHealedByTwo_102 : decode cX10_isHealedByTwo 102 = .ok (.goto (-88), 3) := by decide +kernel
theorem dX10_isHealedByTwo_105 : decode cX10_isHealedByTwo 105 = .ok (.iinc 1 1, 3) := by decide +kernel
theorem dX10_isHealedByTwo_108 : decode cX10_isHealedByTwo 108 = .ok (.goto (-106), 3) := by decide +kernel
theorem dX10_isHealedByTwo_111 : decode cX10_isHealedByTwo 111 = .ok (.iconst 0, 1) := by decide +kernel
theorem dX10_isHealedByTwo_112 : decode cX10_isHealedByTwo 112 = .ok (.ireturn, 1) := by decide +kernel
theorem dX10_fewest_0 : decode cX10_fewest 0 = .ok (.aload_n 0, 1) := by decide +kernel
theorem dX10_fewest_1 : decode cX10_fewest 1 = .ok (.iconst 0, 1) := by decide +kernel
theorem dX10_fewest_2 : decode cX10_fewest 2 = .ok (.putfield 102, 3) := by decide +kernel
theorem dX10_fewest_5 : decode cX10_fewest 5 = .ok (.iload_n 1, 1) := by decide +kernel
theorem dX10_fewest_6 : decode cX10_fewest 6 = .ok (.i2l, 1) := by decide +kernel
theorem dX10_fewest_7 : decode cX10_fewest 7 = .ok (.lconst 0, 1) := by decide +kernel
theorem dX10_fewest_8 : decode cX10_fewest 8 = .ok (.ldc2_w 203, 3) := by decide +kernel
theorem dX10_fewest_11 : decode cX10_fewest 11 = .ok (.invokestatic 113, 3) := by decide +kernel
theorem dX10_fewest_14 : decode cX10_fewest 14 = .ok (.ifCond .ne 5, 3) := by decide +kernel
theorem dX10_fewest_17 : decode cX10_fewest 17 = .ok (.iconst (-1), 1) := by decide +kernel
theorem dX10_fewest_18 : decode cX10_fewest 18 = .ok (.ireturn, 1) := by decide +kernel
theorem dX10_fewest_19 : decode cX10_fewest 19 = .ok (.aload_n 0, 1) := by decide +kernel
theorem dX10_fewest_20 : decode cX10_fewest 20 = .ok (.invokevirtual 199, 3) := by decide +kernel
theorem dX10_fewest_23 : decode cX10_fewest 23 = .ok (.ifCond .ne 5, 3) := by decide +kernel
theorem dX10_fewest_26 : decode cX10_fewest 26 = .ok (.iconst 0, 1) := by decide +kernel
theorem dX10_fewest_27 : decode cX10_fewest 27 = .ok (.ireturn, 1) := by decide +kernel
theorem dX10_fewest_28 : decode cX10_fewest 28 = .ok (.iconst 0, 1) := by decide +kernel
theorem dX10_fewest_29 : decode cX10_fewest 29 = .ok (.istore_n 2, 1) := by decide +kernel
theorem dX10_fewest_30 : decode cX10_fewest 30 = .ok (.iload_n 2, 1) := by decide +kernel
theorem dX10_fewest_31 : decode cX10_fewest 31 = .ok (.aload_n 0, 1) := by decide +kernel
theorem dX10_fewest_32 : decode cX10_fewest 32 = .ok (.getfield 108, 3) := by decide +kernel
theorem dX10_fewest_35 : decode cX10_fewest 35 = .ok (.if_icmp .ge 23, 3) := by decide +kernel
theorem dX10_fewest_38 : decode cX10_fewest 38 = .ok (.iload_n 1, 1) := by decide +kernel
theorem dX10_fewest_39 : decode cX10_fewest 39 = .ok (.ifCond .le 19, 3) := by decide +kernel
theorem dX10_fewest_42 : decode cX10_fewest 42 = .ok (.aload_n 0, 1) := by decide +kernel
theorem dX10_fewest_43 : decode cX10_fewest 43 = .ok (.iload_n 2, 1) := by decide +kernel
theorem dX10_fewest_44 : decode cX10_fewest 44 = .ok (.invokevirtual 235, 3) := by decide +kernel
theorem dX10_fewest_47 : decode cX10_fewest 47 = .ok (.ifCond .eq 5, 3) := by decide +kernel
theorem dX10_fewest_50 : decode cX10_fewest 50 = .ok (.iconst 1, 1) := by decide +kernel
theorem dX10_fewest_51 : decode cX10_fewest 51 = .ok (.ireturn, 1) := by decide +kernel
theorem dX10_fewest_52 : decode cX10_fewest 52 = .ok (.iinc 2 1, 3) := by decide +kernel
theorem dX10_fewest_55 : decode cX10_fewest 55 = .ok (.goto (-25), 3) := by decide +kernel
theorem dX10_fewest_58 : decode cX10_fewest 58 = .ok (.iload_n 1, 1) := by decide +kernel
theorem dX10_fewest_59 : decode cX10_fewest 59 = .ok (.iconst 2, 1) := by decide +kernel
theorem dX10_fewest_60 : decode cX10_fewest 60 = .ok (.if_icmp .ne 14, 3) := by decide +kernel
theorem dX10_fewest_63 : decode cX10_fewest 63 = .ok (.aload_n 0, 1) := by decide +kernel
theorem dX10_fewest_64 : decode cX10_fewest 64 = .ok (.invokevirtual 238, 3) := by decide +kernel
theorem dX10_fewest_67 : decode cX10_fewest 67 = .ok (.ifCond .eq 7, 3) := by decide +kernel
theorem dX10_fewest_70 : decode cX10_fewest 70 = .ok (.iconst 2, 1) := by decide +kernel
theorem dX10_fewest_71 : decode cX10_fewest 71 = .ok (.goto 5, 3) := by decide +kernel
theorem dX10_fewest_74 : decode cX10_fewest 74 = .ok (.bipush (-2), 2) := by decide +kernel
theorem dX10_fewest_76 : decode cX10_fewest 76 = .ok (.ireturn, 1) := by decide +kernel
theorem dX10_wantsIn_0 : decode cX10_wantsIn 0 = .ok (.iconst 0, 1) := by decide +kernel
theorem dX10_wantsIn_1 : decode cX10_wantsIn 1 = .ok (.istore_n 2, 1) := by decide +kernel
theorem dX10_wantsIn_2 : decode cX10_wantsIn 2 = .ok (.iconst 0, 1) := by decide +kernel
theorem dX10_wantsIn_3 : decode cX10_wantsIn 3 = .ok (.istore_n 3, 1) := by decide +kernel
theorem dX10_wantsIn_4 : decode cX10_wantsIn 4 = .ok (.iload_n 3, 1) := by decide +kernel
theorem dX10_wantsIn_5 : decode cX10_wantsIn 5 = .ok (.aload_n 0, 1) := by decide +kernel
theorem dX10_wantsIn_6 : decode cX10_wantsIn 6 = .ok (.getfield 105, 3) := by decide +kernel
theorem dX10_wantsIn_9 : decode cX10_wantsIn 9 = .ok (.if_icmp .ge 31, 3) := by decide +kernel
theorem dX10_wantsIn_12 : decode cX10_wantsIn 12 = .ok (.iload_n 2, 1) := by decide +kernel
theorem dX10_wantsIn_13 : decode cX10_wantsIn 13 = .ok (.iload_n 1, 1) := by decide +kernel
theorem dX10_wantsIn_14 : decode cX10_wantsIn 14 = .ok (.iload_n 3, 1) := by decide +kernel
theorem dX10_wantsIn_15 : decode cX10_wantsIn 15 = .ok (.ishr, 1) := by decide +kernel
theorem dX10_wantsIn_16 : decode cX10_wantsIn 16 = .ok (.iconst 1, 1) := by decide +kernel
theorem dX10_wantsIn_17 : decode cX10_wantsIn 17 = .ok (.iand, 1) := by decide +kernel
theorem dX10_wantsIn_18 : decode cX10_wantsIn 18 = .ok (.iconst 1, 1) := by decide +kernel
theorem dX10_wantsIn_19 : decode cX10_wantsIn 19 = .ok (.if_icmp .ne 12, 3) := by decide +kernel
theorem dX10_wantsIn_22 : decode cX10_wantsIn 22 = .ok (.aload_n 0, 1) := by decide +kernel
theorem dX10_wantsIn_23 : decode cX10_wantsIn 23 = .ok (.getfield 22, 3) := by decide +kernel
theorem dX10_wantsIn_26 : decode cX10_wantsIn 26 = .ok (.iload_n 3, 1) := by decide +kernel
theorem dX10_wantsIn_27 : decode cX10_wantsIn 27 = .ok (.iaload, 1) := by decide +kernel
theorem dX10_wantsIn_28 : decode cX10_wantsIn 28 = .ok (.goto 4, 3) := by decide +kernel
theorem dX10_wantsIn_31 : decode cX10_wantsIn 31 = .ok (.iconst 0, 1) := by decide +kernel
theorem dX10_wantsIn_32 : decode cX10_wantsIn 32 = .ok (.iadd, 1) := by decide +kernel
theorem dX10_wantsIn_33 : decode cX10_wantsIn 33 = .ok (.istore_n 2, 1) := by decide +kernel
theorem dX10_wantsIn_34 : decode cX10_wantsIn 34 = .ok (.iinc 3 1, 3) := by decide +kernel
theorem dX10_wantsIn_37 : decode cX10_wantsIn 37 = .ok (.goto (-33), 3) := by decide +kernel
theorem dX10_wantsIn_40 : decode cX10_wantsIn 40 = .ok (.iload_n 2, 1) := by decide +kernel
theorem dX10_wantsIn_41 : decode cX10_wantsIn 41 = .ok (.ireturn, 1) := by decide +kernel
theorem dX10_isCrowd_0 : decode cX10_isCrowd 0 = .ok (.iconst 1, 1) := by decide +kernel
theorem dX10_isCrowd_1 : decode cX10_isCrowd 1 = .ok (.istore_n 2, 1) := by decide +kernel
theorem dX10_isCrowd_2 : decode cX10_isCrowd 2 = .ok (.iconst 0, 1) := by decide +kernel
theorem dX10_isCrowd_3 : decode cX10_isCrowd 3 = .ok (.istore_n 3, 1) := by decide +kernel
theorem dX10_isCrowd_4 : decode cX10_isCrowd 4 = .ok (.iload_n 3, 1) := by decide +kernel
theorem dX10_isCrowd_5 : decode cX10_isCrowd 5 = .ok (.aload_n 0, 1) := by decide +kernel
theorem dX10_isCrowd_6 : decode cX10_isCrowd 6 = .ok (.getfield 105, 3) := by decide +kernel
theorem dX10_isCrowd_9 : decode cX10_isCrowd 9 = .ok (.if_icmp .ge 66, 3) := by decide +kernel
theorem dX10_isCrowd_12 : decode cX10_isCrowd 12 = .ok (.iload_n 3, 1) := by decide +kernel
theorem dX10_isCrowd_13 : decode cX10_isCrowd 13 = .ok (.iconst 1, 1) := by decide +kernel
theorem dX10_isCrowd_14 : decode cX10_isCrowd 14 = .ok (.iadd, 1) := by decide +kernel
theorem dX10_isCrowd_15 : decode cX10_isCrowd 15 = .ok (.istore 4, 2) := by decide +kernel
theorem dX10_isCrowd_17 : decode cX10_isCrowd 17 = .ok (.iload 4, 2) := by decide +kernel
theorem dX10_isCrowd_19 : decode cX10_isCrowd 19 = .ok (.aload_n 0, 1) := by decide +kernel
theorem dX10_isCrowd_20 : decode cX10_isCrowd 20 = .ok (.getfield 105, 3) := by decide +kernel
theorem dX10_isCrowd_23 : decode cX10_isCrowd 23 = .ok (.if_icmp .ge 46, 3) := by decide +kernel
theorem dX10_isCrowd_26 : decode cX10_isCrowd 26 = .ok (.iload_n 2, 1) := by decide +kernel
theorem dX10_isCrowd_27 : decode cX10_isCrowd 27 = .ok (.ifCond .eq 34, 3) := by decide +kernel
theorem dX10_isCrowd_30 : decode cX10_isCrowd 30 = .ok (.iload_n 1, 1) := by decide +kernel
theorem dX10_isCrowd_31 : decode cX10_isCrowd 31 = .ok (.iload_n 3, 1) := by decide +kernel
theorem dX10_isCrowd_32 : decode cX10_isCrowd 32 = .ok (.ishr, 1) := by decide +kernel
theorem dX10_isCrowd_33 : decode cX10_isCrowd 33 = .ok (.iconst 1, 1) := by decide +kernel
theorem dX10_isCrowd_34 : decode cX10_isCrowd 34 = .ok (.iand, 1) := by decide +kernel
theorem dX10_isCrowd_35 : decode cX10_isCrowd 35 = .ok (.ifCond .eq 22, 3) := by decide +kernel
theorem dX10_isCrowd_38 : decode cX10_isCrowd 38 = .ok (.iload_n 1, 1) := by decide +kernel
theorem dX10_isCrowd_39 : decode cX10_isCrowd 39 = .ok (.iload 4, 2) := by decide +kernel
theorem dX10_isCrowd_41 : decode cX10_isCrowd 41 = .ok (.ishr, 1) := by decide +kernel
theorem dX10_isCrowd_42 : decode cX10_isCrowd 42 = .ok (.iconst 1, 1) := by decide +kernel
theorem dX10_isCrowd_43 : decode cX10_isCrowd 43 = .ok (.iand, 1) := by decide +kernel
theorem dX10_isCrowd_44 : decode cX10_isCrowd 44 = .ok (.ifCond .eq 13, 3) := by decide +kernel
theorem dX10_isCrowd_47 : decode cX10_isCrowd 47 = .ok (.aload_n 0, 1) := by decide +kernel
theorem dX10_isCrowd_48 : decode cX10_isCrowd 48 = .ok (.iload_n 3, 1) := by decide +kernel
theorem dX10_isCrowd_49 : decode cX10_isCrowd 49 = .ok (.iload 4, 2) := by decide +kernel
theorem dX10_isCrowd_51 : decode cX10_isCrowd 51 = .ok (.invokevirtual 135, 3) := by decide +kernel
theorem dX10_isCrowd_54 : decode cX10_isCrowd 54 = .ok (.ifCond .le 7, 3) := by decide +kernel
theorem dX10_isCrowd_57 : decode cX10_isCrowd 57 = .ok (.iconst 1, 1) := by decide +kernel
theorem dX10_isCrowd_58 : decode cX10_isCrowd 58 = .ok (.goto 4, 3) := by decide +kernel
theorem dX10_isCrowd_61 : decode cX10_isCrowd 61 = .ok (.iconst 0, 1) := by decide +kernel
theorem dX10_isCrowd_62 : decode cX10_isCrowd 62 = .ok (.istore_n 2, 1) := by decide +kernel
theorem dX10_isCrowd_63 : decode cX10_isCrowd 63 = .ok (.iinc 4 1, 3) := by decide +kernel
theorem dX10_isCrowd_66 : decode cX10_isCrowd 66 = .ok (.goto (-49), 3) := by decide +kernel
theorem dX10_isCrowd_69 : decode cX10_isCrowd 69 = .ok (.iinc 3 1, 3) := by decide +kernel
theorem dX10_isCrowd_72 : decode cX10_isCrowd 72 = .ok (.goto (-68), 3) := by decide +kernel
theorem dX10_isCrowd_75 : decode cX10_isCrowd 75 = .ok (.iload_n 2, 1) := by decide +kernel
theorem dX10_isCrowd_76 : decode cX10_isCrowd 76 = .ok (.ireturn, 1) := by decide +kernel
theorem dX10_boundOf_0 : decode cX10_boundOf 0 = .ok (.iconst 0, 1) := by decide +kernel
theorem dX10_boundOf_1 : decode cX10_boundOf 1 = .ok (.istore_n 2, 1) := by decide +kernel
theorem dX10_boundOf_2 : decode cX10_boundOf 2 = .ok (.iconst 0, 1) := by decide +kernel
theorem dX10_boundOf_3 : decode cX10_boundOf 3 = .ok (.istore_n 3, 1) := by decide +kernel
theorem dX10_boundOf_4 : decode cX10_boundOf 4 = .ok (.iload_n 3, 1) := by decide +kernel
theorem dX10_boundOf_5 : decode cX10_boundOf 5 = .ok (.aload_n 0, 1) := by decide +kernel
theorem dX10_boundOf_6 : decode cX10_boundOf 6 = .ok (.getfield 108, 3) := by decide +kernel
theorem dX10_boundOf_9 : decode cX10_boundOf 9 = .ok (.if_icmp .ge 33, 3) := by decide +kernel
theorem dX10_boundOf_12 : decode cX10_boundOf 12 = .ok (.iload_n 1, 1) := by decide +kernel
theorem dX10_boundOf_13 : decode cX10_boundOf 13 = .ok (.aload_n 0, 1) := by decide +kernel
theorem dX10_boundOf_14 : decode cX10_boundOf 14 = .ok (.getfield 34, 3) := by decide +kernel
theorem dX10_boundOf_17 : decode cX10_boundOf 17 = .ok (.iload_n 3, 1) := by decide +kernel
theorem dX10_boundOf_18 : decode cX10_boundOf 18 = .ok (.iaload, 1) := by decide +kernel
theorem dX10_boundOf_19 : decode cX10_boundOf 19 = .ok (.ishr, 1) := by decide +kernel
theorem dX10_boundOf_20 : decode cX10_boundOf 20 = .ok (.iconst 1, 1) := by decide +kernel
theorem dX10_boundOf_21 : decode cX10_boundOf 21 = .ok (.iand, 1) := by decide +kernel
theorem dX10_boundOf_22 : decode cX10_boundOf 22 = .ok (.iconst 1, 1) := by decide +kernel
theorem dX10_boundOf_23 : decode cX10_boundOf 23 = .ok (.if_icmp .ne 13, 3) := by decide +kernel
theorem dX10_boundOf_26 : decode cX10_boundOf 26 = .ok (.aload_n 0, 1) := by decide +kernel
theorem dX10_boundOf_27 : decode cX10_boundOf 27 = .ok (.getfield 68, 3) := by decide +kernel
theorem dX10_boundOf_30 : decode cX10_boundOf 30 = .ok (.iload_n 2, 1) := by decide +kernel
theorem dX10_boundOf_31 : decode cX10_boundOf 31 = .ok (.iload_n 3, 1) := by decide +kernel
theorem dX10_boundOf_32 : decode cX10_boundOf 32 = .ok (.iastore, 1) := by decide +kernel
theorem dX10_boundOf_33 : decode cX10_boundOf 33 = .ok (.iinc 2 1, 3) := by decide +kernel
theorem dX10_boundOf_36 : decode cX10_boundOf 36 = .ok (.iinc 3 1, 3) := by decide +kernel
theorem dX10_boundOf_39 : decode cX10_boundOf 39 = .ok (.goto (-35), 3) := by decide +kernel
theorem dX10_boundOf_42 : decode cX10_boundOf 42 = .ok (.ldc 241, 2) := by decide +kernel
theorem dX10_boundOf_44 : decode cX10_boundOf 44 = .ok (.istore_n 3, 1) := by decide +kernel
theorem dX10_boundOf_45 : decode cX10_boundOf 45 = .ok (.iconst 1, 1) := by decide +kernel
theorem dX10_boundOf_46 : decode cX10_boundOf 46 = .ok (.istore 4, 2) := by decide +kernel
theorem dX10_boundOf_48 : decode cX10_boundOf 48 = .ok (.iload 4, 2) := by decide +kernel
theorem dX10_boundOf_50 : decode cX10_boundOf 50 = .ok (.iconst 1, 1) := by decide +kernel
theorem dX10_boundOf_51 : decode cX10_boundOf 51 = .ok (.iload_n 2, 1) := by decide +kernel
theorem dX10_boundOf_52 : decode cX10_boundOf 52 = .ok (.ishl, 1) := by decide +kernel
theorem dX10_boundOf_53 : decode cX10_boundOf 53 = .ok (.if_icmp .ge 238, 3) := by decide +kernel
theorem dX10_boundOf_56 : decode cX10_boundOf 56 = .ok (.iconst 0, 1) := by decide +kernel
theorem dX10_boundOf_57 : decode cX10_boundOf 57 = .ok (.istore 5, 2) := by decide +kernel
theorem dX10_boundOf_59 : decode cX10_boundOf 59 = .ok (.iload 5, 2) := by decide +kernel
theorem dX10_boundOf_61 : decode cX10_boundOf 61 = .ok (.iload_n 2, 1) := by decide +kernel
theorem dX10_boundOf_62 : decode cX10_boundOf 62 = .ok (.if_icmp .ge 223, 3) := by decide +kernel
theorem dX10_boundOf_65 : decode cX10_boundOf 65 = .ok (.aload_n 0, 1) := by decide +kernel
theorem dX10_boundOf_66 : decode cX10_boundOf 66 = .ok (.getfield 71, 3) := by decide +kernel
theorem dX10_boundOf_69 : decode cX10_boundOf 69 = .ok (.bipush 6, 2) := by decide +kernel
theorem dX10_boundOf_71 : decode cX10_boundOf 71 = .ok (.iload 4, 2) := by decide +kernel
theorem dX10_boundOf_73 : decode cX10_boundOf 73 = .ok (.imul, 1) := by decide +kernel
theorem dX10_boundOf_74 : decode cX10_boundOf 74 = .ok (.iload 5, 2) := by decide +kernel
theorem dX10_boundOf_76 : decode cX10_boundOf 76 = .ok (.iadd, 1) := by decide +kernel
theorem dX10_boundOf_77 : decode cX10_boundOf 77 = .ok (.iload 4, 2) := by decide +kernel
theorem dX10_boundOf_79 : decode cX10_boundOf 79 = .ok (.iconst 1, 1) := by decide +kernel
theorem dX10_boundOf_80 : decode cX10_boundOf 80 = .ok (.iload 5, 2) := by decide +kernel
theorem dX10_boundOf_82 : decode cX10_boundOf 82 = .ok (.ishl, 1) := by decide +kernel
theorem dX10_boundOf_83 : decode cX10_boundOf 83 = .ok (.if_icmp .ne 7, 3) := by decide +kernel
theorem dX10_boundOf_86 : decode cX10_boundOf 86 = .ok (.iconst 0, 1) := by decide +kernel
theorem dX10_boundOf_87 : decode cX10_boundOf 87 = .ok (.goto 5, 3) := by decide +kernel
theorem dX10_boundOf_90 : decode cX10_boundOf 90 = .ok (.ldc 241, 2) := by decide +kernel
theorem dX10_boundOf_92 : decode cX10_boundOf 92 = .ok (.iastore, 1) := by decide +kernel
theorem dX10_boundOf_93 : decode cX10_boundOf 93 = .ok (.iconst 0, 1) := by decide +kernel
theorem dX10_boundOf_94 : decode cX10_boundOf 94 = .ok (.istore 6, 2) := by decide +kernel
theorem dX10_boundOf_96 : decode cX10_boundOf 96 = .ok (.iload 6, 2) := by decide +kernel
theorem dX10_boundOf_98 : decode cX10_boundOf 98 = .ok (.iload_n 2, 1) := by decide +kernel
theorem dX10_boundOf_99 : decode cX10_boundOf 99 = .ok (.if_icmp .ge 135, 3) := by decide +kernel
theorem dX10_boundOf_102 : decode cX10_boundOf 102 = .ok (.iload 4, 2) := by decide +kernel
theorem dX10_boundOf_104 : decode cX10_boundOf 104 = .ok (.iload 5, 2) := by decide +kernel
theorem dX10_boundOf_106 : decode cX10_boundOf 106 = .ok (.ishr, 1) := by decide +kernel
theorem dX10_boundOf_107 : decode cX10_boundOf 107 = .ok (.iconst 1, 1) := by decide +kernel
theorem dX10_boundOf_108 : decode cX10_boundOf 108 = .ok (.iand, 1) := by decide +kernel
theorem dX10_boundOf_109 : decode cX10_boundOf 109 = .ok (.iconst 1, 1) := by decide +kernel
theorem dX10_boundOf_110 : decode cX10_boundOf 110 = .ok (.if_icmp .ne 124, 3) := by decide +kernel
theorem dX10_boundOf_113 : decode cX10_boundOf 113 = .ok (.iload 4, 2) := by decide +kernel
theorem dX10_boundOf_115 : decode cX10_boundOf 115 = .ok (.iconst 1, 1) := by decide +kernel
theorem dX10_boundOf_116 : decode cX10_boundOf 116 = .ok (.iload 5, 2) := by decide +kernel
theorem dX10_boundOf_118 : decode cX10_boundOf 118 = .ok (.ishl, 1) := by decide +kernel
theorem dX10_boundOf_119 : decode cX10_boundOf 119 = .ok (.iconst (-1), 1) := by decide +kernel
theorem dX10_boundOf_120 : decode cX10_boundOf 120 = .ok (.ixor, 1) := by decide +kernel
theorem dX10_boundOf_121 : decode cX10_boundOf 121 = .ok (.iand, 1) := by decide +kernel
theorem dX10_boundOf_122 : decode cX10_boundOf 122 = .ok (.istore 7, 2) := by decide +kernel
theorem dX10_boundOf_124 : decode cX10_boundOf 124 = .ok (.iload 7, 2) := by decide +kernel
theorem dX10_boundOf_126 : decode cX10_boundOf 126 = .ok (.iload 6, 2) := by decide +kernel
theorem dX10_boundOf_128 : decode cX10_boundOf 128 = .ok (.ishr, 1) := by decide +kernel
theorem dX10_boundOf_129 : decode cX10_boundOf 129 = .ok (.iconst 1, 1) := by decide +kernel
theorem dX10_boundOf_130 : decode cX10_boundOf 130 = .ok (.iand, 1) := by decide +kernel
theorem dX10_boundOf_131 : decode cX10_boundOf 131 = .ok (.iconst 1, 1) := by decide +kernel
theorem dX10_boundOf_132 : decode cX10_boundOf 132 = .ok (.if_icmp .ne 96, 3) := by decide +kernel
theorem dX10_boundOf_135 : decode cX10_boundOf 135 = .ok (.aload_n 0, 1) := by decide +kernel
theorem dX10_boundOf_136 : decode cX10_boundOf 136 = .ok (.getfield 71, 3) := by decide +kernel
theorem dX10_boundOf_139 : decode cX10_boundOf 139 = .ok (.bipush 6, 2) := by decide +kernel
theorem dX10_boundOf_141 : decode cX10_boundOf 141 = .ok (.iload 7, 2) := by decide +kernel
theorem dX10_boundOf_143 : decode cX10_boundOf 143 = .ok (.imul, 1) := by decide +kernel
theorem dX10_boundOf_144 : decode cX10_boundOf 144 = .ok (.iload 6, 2) := by decide +kernel
theorem dX10_boundOf_146 : decode cX10_boundOf 146 = .ok (.iadd, 1) := by decide +kernel
theorem dX10_boundOf_147 : decode cX10_boundOf 147 = .ok (.iaload, 1) := by decide +kernel
theorem dX10_boundOf_148 : decode cX10_boundOf 148 = .ok (.aload_n 0, 1) := by decide +kernel
theorem dX10_boundOf_149 : decode cX10_boundOf 149 = .ok (.aload_n 0, 1) := by decide +kernel
theorem dX10_boundOf_150 : decode cX10_boundOf 150 = .ok (.getfield 34, 3) := by decide +kernel
theorem dX10_boundOf_153 : decode cX10_boundOf 153 = .ok (.aload_n 0, 1) := by decide +kernel
theorem dX10_boundOf_154 : decode cX10_boundOf 154 = .ok (.getfield 68, 3) := by decide +kernel
theorem dX10_boundOf_157 : decode cX10_boundOf 157 = .ok (.iload 5, 2) := by decide +kernel
theorem dX10_boundOf_159 : decode cX10_boundOf 159 = .ok (.iaload, 1) := by decide +kernel
theorem dX10_boundOf_160 : decode cX10_boundOf 160 = .ok (.iaload, 1) := by decide +kernel
theorem dX10_boundOf_161 : decode cX10_boundOf 161 = .ok (.aload_n 0, 1) := by decide +kernel
theorem dX10_boundOf_162 : decode cX10_boundOf 162 = .ok (.getfield 34, 3) := by decide +kernel
theorem dX10_boundOf_165 : decode cX10_boundOf 165 = .ok (.aload_n 0, 1) := by decide +kernel
theorem dX10_boundOf_166 : decode cX10_boundOf 166 = .ok (.getfield 68, 3) := by decide +kernel
theorem dX10_boundOf_169 : decode cX10_boundOf 169 = .ok (.iload 6, 2) := by decide +kernel
theorem dX10_boundOf_171 : decode cX10_boundOf 171 = .ok (.iaload, 1) := by decide +kernel
theorem dX10_boundOf_172 : decode cX10_boundOf 172 = .ok (.iaload, 1) := by decide +kernel
theorem dX10_boundOf_173 : decode cX10_boundOf 173 = .ok (.invokevirtual 135, 3) := by decide +kernel
theorem dX10_boundOf_176 : decode cX10_boundOf 176 = .ok (.iadd, 1) := by decide +kernel
theorem dX10_boundOf_177 : decode cX10_boundOf 177 = .ok (.istore 8, 2) := by decide +kernel
theorem dX10_boundOf_179 : decode cX10_boundOf 179 = .ok (.aload_n 0, 1) := by decide +kernel
theorem dX10_boundOf_180 : decode cX10_boundOf 180 = .ok (.getfield 71, 3) := by decide +kernel
theorem dX10_boundOf_183 : decode cX10_boundOf 183 = .ok (.bipush 6, 2) := by decide +kernel
theorem dX10_boundOf_185 : decode cX10_boundOf 185 = .ok (.iload 4, 2) := by decide +kernel
theorem dX10_boundOf_187 : decode cX10_boundOf 187 = .ok (.imul, 1) := by decide +kernel
theorem dX10_boundOf_188 : decode cX10_boundOf 188 = .ok (.iload 5, 2) := by decide +kernel
theorem dX10_boundOf_190 : decode cX10_boundOf 190 = .ok (.iadd, 1) := by decide +kernel
theorem dX10_boundOf_191 : decode cX10_boundOf 191 = .ok (.iload 8, 2) := by decide +kernel
theorem dX10_boundOf_193 : decode cX10_boundOf 193 = .ok (.aload_n 0, 1) := by decide +kernel
theorem dX10_boundOf_194 : decode cX10_boundOf 194 = .ok (.getfield 71, 3) := by decide +kernel
theorem dX10_boundOf_197 : decode cX10_boundOf 197 = .ok (.bipush 6, 2) := by decide +kernel
theorem dX10_boundOf_199 : decode cX10_boundOf 199 = .ok (.iload 4, 2) := by decide +kernel
theorem dX10_boundOf_201 : decode cX10_boundOf 201 = .ok (.imul, 1) := by decide +kernel
theorem dX10_boundOf_202 : decode cX10_boundOf 202 = .ok (.iload 5, 2) := by decide +kernel
theorem dX10_boundOf_204 : decode cX10_boundOf 204 = .ok (.iadd, 1) := by decide +kernel
theorem dX10_boundOf_205 : decode cX10_boundOf 205 = .ok (.iaload, 1) := by decide +kernel
theorem dX10_boundOf_206 : decode cX10_boundOf 206 = .ok (.if_icmp .ge 8, 3) := by decide +kernel
theorem dX10_boundOf_209 : decode cX10_boundOf 209 = .ok (.iload 8, 2) := by decide +kernel
theorem dX10_boundOf_211 : decode cX10_boundOf 211 = .ok (.goto 16, 3) := by decide +kernel
theorem dX10_boundOf_214 : decode cX10_boundOf 214 = .ok (.aload_n 0, 1) := by decide +kernel
theorem dX10_boundOf_215 : decode cX10_boundOf 215 = .ok (.getfield 71, 3) := by decide +kernel
theorem dX10_boundOf_218 : decode cX10_boundOf 218 = .ok (.bipush 6, 2) := by decide +kernel
theorem dX10_boundOf_220 : decode cX10_boundOf 220 = .ok (.iload 4, 2) := by decide +kernel
theorem dX10_boundOf_222 : decode cX10_boundOf 222 = .ok (.imul, 1) := by decide +kernel
theorem dX10_boundOf_223 : decode cX10_boundOf 223 = .ok (.iload 5, 2) := by decide +kernel
theorem dX10_boundOf_225 : decode cX10_boundOf 225 = .ok (.iadd, 1) := by decide +kernel
theorem dX10_boundOf_226 : decode cX10_boundOf 226 = .ok (.iaload, 1) := by decide +kernel
theorem dX10_boundOf_227 : decode cX10_boundOf 227 = .ok (.iastore, 1) := by decide +kernel
theorem dX10_boundOf_228 : decode cX10_boundOf 228 = .ok (.iinc 6 1, 3) := by decide +kernel
theorem dX10_boundOf_231 : decode cX10_boundOf 231 = .ok (.goto (-135), 3) := by decide +kernel
theorem dX10_boundOf_234 : decode cX10_boundOf 234 = .ok (.iload 4, 2) := by decide +kernel
theorem dX10_boundOf_236 : decode cX10_boundOf 236 = .ok (.iconst 1, 1) := by decide +kernel
theorem dX10_boundOf_237 : decode cX10_boundOf 237 = .ok (.iload_n 2, 1) := by decide +kernel
theorem dX10_boundOf_238 : decode cX10_boundOf 238 = .ok (.ishl, 1) := by decide +kernel
theorem dX10_boundOf_239 : decode cX10_boundOf 239 = .ok (.iconst 1, 1) := by decide +kernel
theorem dX10_boundOf_240 : decode cX10_boundOf 240 = .ok (.isub, 1) := by decide +kernel
theorem dX10_boundOf_241 : decode cX10_boundOf 241 = .ok (.if_icmp .ne 36, 3) := by decide +kernel
theorem dX10_boundOf_244 : decode cX10_boundOf 244 = .ok (.aload_n 0, 1) := by decide +kernel
theorem dX10_boundOf_245 : decode cX10_boundOf 245 = .ok (.getfield 71, 3) := by decide +kernel
theorem dX10_boundOf_248 : decode cX10_boundOf 248 = .ok (.bipush 6, 2) := by decide +kernel
theorem dX10_boundOf_250 : decode cX10_boundOf 250 = .ok (.iload 4, 2) := by decide +kernel
theorem dX10_boundOf_252 : decode cX10_boundOf 252 = .ok (.imul, 1) := by decide +kernel
theorem dX10_boundOf_253 : decode cX10_boundOf 253 = .ok (.iload 5, 2) := by decide +kernel
theorem dX10_boundOf_255 : decode cX10_boundOf 255 = .ok (.iadd, 1) := by decide +kernel
theorem dX10_boundOf_256 : decode cX10_boundOf 256 = .ok (.iaload, 1) := by decide +kernel
theorem dX10_boundOf_257 : decode cX10_boundOf 257 = .ok (.iload_n 3, 1) := by decide +kernel
theorem dX10_boundOf_258 : decode cX10_boundOf 258 = .ok (.if_icmp .ge 19, 3) := by decide +kernel
theorem dX10_boundOf_261 : decode cX10_boundOf 261 = .ok (.aload_n 0, 1) := by decide +kernel
theorem dX10_boundOf_262 : decode cX10_boundOf 262 = .ok (.getfield 71, 3) := by decide +kernel
theorem dX10_boundOf_265 : decode cX10_boundOf 265 = .ok (.bipush 6, 2) := by decide +kernel
theorem dX10_boundOf_267 : decode cX10_boundOf 267 = .ok (.iload 4, 2) := by decide +kernel
theorem dX10_boundOf_269 : decode cX10_boundOf 269 = .ok (.imul, 1) := by decide +kernel
theorem dX10_boundOf_270 : decode cX10_boundOf 270 = .ok (.iload 5, 2) := by decide +kernel
theorem dX10_boundOf_272 : decode cX10_boundOf 272 = .ok (.iadd, 1) := by decide +kernel
theorem dX10_boundOf_273 : decode cX10_boundOf 273 = .ok (.iaload, 1) := by decide +kernel
theorem dX10_boundOf_274 : decode cX10_boundOf 274 = .ok (.goto 4, 3) := by decide +kernel
theorem dX10_boundOf_277 : decode cX10_boundOf 277 = .ok (.iload_n 3, 1) := by decide +kernel
theorem dX10_boundOf_278 : decode cX10_boundOf 278 = .ok (.istore_n 3, 1) := by decide +kernel
theorem dX10_boundOf_279 : decode cX10_boundOf 279 = .ok (.iinc 5 1, 3) := by decide +kernel
theorem dX10_boundOf_282 : decode cX10_boundOf 282 = .ok (.goto (-223), 3) := by decide +kernel
theorem dX10_boundOf_285 : decode cX10_boundOf 285 = .ok (.iinc 4 1, 3) := by decide +kernel
theorem dX10_boundOf_288 : decode cX10_boundOf 288 = .ok (.goto (-240), 3) := by decide +kernel
theorem dX10_boundOf_291 : decode cX10_boundOf 291 = .ok (.iload_n 3, 1) := by decide +kernel
theorem dX10_boundOf_292 : decode cX10_boundOf 292 = .ok (.ireturn, 1) := by decide +kernel
theorem dX10_bound_0 : decode cX10_bound 0 = .ok (.aload_n 0, 1) := by decide +kernel
theorem dX10_bound_1 : decode cX10_bound 1 = .ok (.iconst 0, 1) := by decide +kernel
theorem dX10_bound_2 : decode cX10_bound 2 = .ok (.putfield 102, 3) := by decide +kernel
theorem dX10_bound_5 : decode cX10_bound 5 = .ok (.iload_n 1, 1) := by decide +kernel
theorem dX10_bound_6 : decode cX10_bound 6 = .ok (.ifCond .le 13, 3) := by decide +kernel
theorem dX10_bound_9 : decode cX10_bound 9 = .ok (.iload_n 1, 1) := by decide +kernel
theorem dX10_bound_10 : decode cX10_bound 10 = .ok (.iconst 1, 1) := by decide +kernel
theorem dX10_bound_11 : decode cX10_bound 11 = .ok (.aload_n 0, 1) := by decide +kernel
theorem dX10_bound_12 : decode cX10_bound 12 = .ok (.getfield 105, 3) := by decide +kernel
theorem dX10_bound_15 : decode cX10_bound 15 = .ok (.ishl, 1) := by decide +kernel
theorem dX10_bound_16 : decode cX10_bound 16 = .ok (.if_icmp .lt 5, 3) := by decide +kernel
theorem dX10_bound_19 : decode cX10_bound 19 = .ok (.iconst (-1), 1) := by decide +kernel
theorem dX10_bound_20 : decode cX10_bound 20 = .ok (.ireturn, 1) := by decide +kernel
theorem dX10_bound_21 : decode cX10_bound 21 = .ok (.aload_n 0, 1) := by decide +kernel
theorem dX10_bound_22 : decode cX10_bound 22 = .ok (.iload_n 1, 1) := by decide +kernel
theorem dX10_bound_23 : decode cX10_bound 23 = .ok (.invokevirtual 242, 3) := by decide +kernel
theorem dX10_bound_26 : decode cX10_bound 26 = .ok (.ifCond .ne 8, 3) := by decide +kernel
theorem dX10_bound_29 : decode cX10_bound 29 = .ok (.bipush (-2), 2) := by decide +kernel
theorem dX10_bound_31 : decode cX10_bound 31 = .ok (.goto 23, 3) := by decide +kernel
theorem dX10_bound_34 : decode cX10_bound 34 = .ok (.aload_n 0, 1) := by decide +kernel
theorem dX10_bound_35 : decode cX10_bound 35 = .ok (.iload_n 1, 1) := by decide +kernel
theorem dX10_bound_36 : decode cX10_bound 36 = .ok (.invokevirtual 245, 3) := by decide +kernel
theorem dX10_bound_39 : decode cX10_bound 39 = .ok (.bipush 6, 2) := by decide +kernel
theorem dX10_bound_41 : decode cX10_bound 41 = .ok (.if_icmp .le 8, 3) := by decide +kernel
theorem dX10_bound_44 : decode cX10_bound 44 = .ok (.bipush (-3), 2) := by decide +kernel
theorem dX10_bound_46 : decode cX10_bound 46 = .ok (.goto 8, 3) := by decide +kernel
theorem dX10_bound_49 : decode cX10_bound 49 = .ok (.aload_n 0, 1) := by decide +kernel
theorem dX10_bound_50 : decode cX10_bound 50 = .ok (.iload_n 1, 1) := by decide +kernel
theorem dX10_bound_51 : decode cX10_bound 51 = .ok (.invokevirtual 248, 3) := by decide +kernel
theorem dX10_bound_54 : decode cX10_bound 54 = .ok (.ireturn, 1) := by decide +kernel
theorem dX10_crowd_0 : decode cX10_crowd 0 = .ok (.aload_n 0, 1) := by decide +kernel
theorem dX10_crowd_1 : decode cX10_crowd 1 = .ok (.iconst 0, 1) := by decide +kernel
theorem dX10_crowd_2 : decode cX10_crowd 2 = .ok (.putfield 102, 3) := by decide +kernel
theorem dX10_crowd_5 : decode cX10_crowd 5 = .ok (.iconst 0, 1) := by decide +kernel
theorem dX10_crowd_6 : decode cX10_crowd 6 = .ok (.istore_n 1, 1) := by decide +kernel
theorem dX10_crowd_7 : decode cX10_crowd 7 = .ok (.iconst (-1), 1) := by decide +kernel
theorem dX10_crowd_8 : decode cX10_crowd 8 = .ok (.istore_n 2, 1) := by decide +kernel
theorem dX10_crowd_9 : decode cX10_crowd 9 = .ok (.iconst 1, 1) := by decide +kernel
theorem dX10_crowd_10 : decode cX10_crowd 10 = .ok (.istore_n 3, 1) := by decide +kernel
theorem dX10_crowd_11 : decode cX10_crowd 11 = .ok (.iload_n 3, 1) := by decide +kernel
theorem dX10_crowd_12 : decode cX10_crowd 12 = .ok (.iconst 1, 1) := by decide +kernel
theorem dX10_crowd_13 : decode cX10_crowd 13 = .ok (.aload_n 0, 1) := by decide +kernel
theorem dX10_crowd_14 : decode cX10_crowd 14 = .ok (.getfield 105, 3) := by decide +kernel
theorem dX10_crowd_17 : decode cX10_crowd 17 = .ok (.ishl, 1) := by decide +kernel
theorem dX10_crowd_18 : decode cX10_crowd 18 = .ok (.if_icmp .ge 45, 3) := by decide +kernel
theorem dX10_crowd_21 : decode cX10_crowd 21 = .ok (.aload_n 0, 1) := by decide +kernel
theorem dX10_crowd_22 : decode cX10_crowd 22 = .ok (.iload_n 3, 1) := by decide +kernel
theorem dX10_crowd_23 : decode cX10_crowd 23 = .ok (.invokevirtual 245, 3) := by decide +kernel
theorem dX10_crowd_26 : decode cX10_crowd 26 = .ok (.bipush 6, 2) := by decide +kernel
theorem dX10_crowd_28 : decode cX10_crowd 28 = .ok (.if_icmp .gt 29, 3) := by decide +kernel
theorem dX10_crowd_31 : decode cX10_crowd 31 = .ok (.aload_n 0, 1) := by decide +kernel
theorem dX10_crowd_32 : decode cX10_crowd 32 = .ok (.iload_n 3, 1) := by decide +kernel
theorem dX10_crowd_33 : decode cX10_crowd 33 = .ok (.invokevirtual 242, 3) := by decide +kernel
theorem dX10_crowd_36 : decode cX10_crowd 36 = .ok (.ifCond .eq 21, 3) := by decide +kernel
theorem dX10_crowd_39 : decode cX10_crowd 39 = .ok (.aload_n 0, 1) := by decide +kernel
theorem dX10_crowd_40 : decode cX10_crowd 40 = .ok (.iload_n 3, 1) := by decide +kernel
theorem dX10_crowd_41 : decode cX10_crowd 41 = .ok (.invokevirtual 248, 3) := by decide +kernel
theorem dX10_crowd_44 : decode cX10_crowd 44 = .ok (.istore 4, 2) := by decide +kernel
theorem dX10_crowd_46 : decode cX10_crowd 46 = .ok (.iload 4, 2) := by decide +kernel
theorem dX10_crowd_48 : decode cX10_crowd 48 = .ok (.iload_n 2, 1) := by decide +kernel
theorem dX10_crowd_49 : decode cX10_crowd 49 = .ok (.if_icmp .le 8, 3) := by decide +kernel
theorem dX10_crowd_52 : decode cX10_crowd 52 = .ok (.iload 4, 2) := by decide +kernel
theorem dX10_crowd_54 : decode cX10_crowd 54 = .ok (.istore_n 2, 1) := by decide +kernel
theorem dX10_crowd_55 : decode cX10_crowd 55 = .ok (.iload_n 3, 1) := by decide +kernel
theorem dX10_crowd_56 : decode cX10_crowd 56 = .ok (.istore_n 1, 1) := by decide +kernel
theorem dX10_crowd_57 : decode cX10_crowd 57 = .ok (.iinc 3 1, 3) := by decide +kernel
theorem dX10_crowd_60 : decode cX10_crowd 60 = .ok (.goto (-49), 3) := by decide +kernel
theorem dX10_crowd_63 : decode cX10_crowd 63 = .ok (.iload_n 1, 1) := by decide +kernel
theorem dX10_crowd_64 : decode cX10_crowd 64 = .ok (.ireturn, 1) := by decide +kernel
theorem dX10_areNear_0 : decode cX10_areNear 0 = .ok (.aload_n 0, 1) := by decide +kernel
theorem dX10_areNear_1 : decode cX10_areNear 1 = .ok (.iload_n 1, 1) := by decide +kernel
theorem dX10_areNear_2 : decode cX10_areNear 2 = .ok (.iload_n 2, 1) := by decide +kernel
theorem dX10_areNear_3 : decode cX10_areNear 3 = .ok (.invokevirtual 135, 3) := by decide +kernel
theorem dX10_areNear_6 : decode cX10_areNear 6 = .ok (.ifCond .le 7, 3) := by decide +kernel
theorem dX10_areNear_9 : decode cX10_areNear 9 = .ok (.iconst 1, 1) := by decide +kernel
theorem dX10_areNear_10 : decode cX10_areNear 10 = .ok (.goto 4, 3) := by decide +kernel
theorem dX10_areNear_13 : decode cX10_areNear 13 = .ok (.iconst 0, 1) := by decide +kernel
theorem dX10_areNear_14 : decode cX10_areNear 14 = .ok (.istore_n 3, 1) := by decide +kernel
theorem dX10_areNear_15 : decode cX10_areNear 15 = .ok (.iconst 0, 1) := by decide +kernel
theorem dX10_areNear_16 : decode cX10_areNear 16 = .ok (.istore 4, 2) := by decide +kernel
theorem dX10_areNear_18 : decode cX10_areNear 18 = .ok (.iload 4, 2) := by decide +kernel
theorem dX10_areNear_20 : decode cX10_areNear 20 = .ok (.aload_n 0, 1) := by decide +kernel
theorem dX10_areNear_21 : decode cX10_areNear 21 = .ok (.getfield 105, 3) := by decide +kernel
theorem dX10_areNear_24 : decode cX10_areNear 24 = .ok (.if_icmp .ge 30, 3) := by decide +kernel
theorem dX10_areNear_27 : decode cX10_areNear 27 = .ok (.iload_n 3, 1) := by decide +kernel
theorem dX10_areNear_28 : decode cX10_areNear 28 = .ok (.ifCond .ne 14, 3) := by decide +kernel
theorem dX10_areNear_31 : decode cX10_areNear 31 = .ok (.aload_n 0, 1) := by decide +kernel
theorem dX10_areNear_32 : decode cX10_areNear 32 = .ok (.iload_n 1, 1) := by decide +kernel
theorem dX10_areNear_33 : decode cX10_areNear 33 = .ok (.iload_n 2, 1) := by decide +kernel
theorem dX10_areNear_34 : decode cX10_areNear 34 = .ok (.iload 4, 2) := by decide +kernel
theorem dX10_areNear_36 : decode cX10_areNear 36 = .ok (.invokevirtual 188, 3) := by decide +kernel
theorem dX10_areNear_39 : decode cX10_areNear 39 = .ok (.ifCond .eq 7, 3) := by decide +kernel
theorem dX10_areNear_42 : decode cX10_areNear 42 = .ok (.iconst 1, 1) := by decide +kernel
theorem dX10_areNear_43 : decode cX10_areNear 43 = .ok (.goto 4, 3) := by decide +kernel
theorem dX10_areNear_46 : decode cX10_areNear 46 = .ok (.iconst 0, 1) := by decide +kernel
theorem dX10_areNear_47 : decode cX10_areNear 47 = .ok (.istore_n 3, 1) := by decide +kernel
theorem dX10_areNear_48 : decode cX10_areNear 48 = .ok (.iinc 4 1, 3) := by decide +kernel
theorem dX10_areNear_51 : decode cX10_areNear 51 = .ok (.goto (-33), 3) := by decide +kernel
theorem dX10_areNear_54 : decode cX10_areNear 54 = .ok (.iload_n 3, 1) := by decide +kernel
theorem dX10_areNear_55 : decode cX10_areNear 55 = .ok (.ireturn, 1) := by decide +kernel
theorem dX10_findParts_0 : decode cX10_findParts 0 = .ok (.iconst 0, 1) := by decide +kernel
theorem dX10_findParts_1 : decode cX10_findParts 1 = .ok (.istore_n 1, 1) := by decide +kernel
theorem dX10_findParts_2 : decode cX10_findParts 2 = .ok (.iload_n 1, 1) := by decide +kernel
theorem dX10_findParts_3 : decode cX10_findParts 3 = .ok (.aload_n 0, 1) := by decide +kernel
theorem dX10_findParts_4 : decode cX10_findParts 4 = .ok (.getfield 105, 3) := by decide +kernel
theorem dX10_findParts_7 : decode cX10_findParts 7 = .ok (.if_icmp .ge 16, 3) := by decide +kernel
theorem dX10_findParts_10 : decode cX10_findParts 10 = .ok (.aload_n 0, 1) := by decide +kernel
theorem dX10_findParts_11 : decode cX10_findParts 11 = .ok (.getfield 74, 3) := by decide +kernel
theorem dX10_findParts_14 : decode cX10_findParts 14 = .ok (.iload_n 1, 1) := by decide +kernel
theorem dX10_findParts_15 : decode cX10_findParts 15 = .ok (.iload_n 1, 1) := by decide +kernel
theorem dX10_findParts_16 : decode cX10_findParts 16 = .ok (.iastore, 1) := by decide +kernel
theorem dX10_findParts_17 : decode cX10_findParts 17 = .ok (.iinc 1 1, 3) := by decide +kernel
theorem dX10_findParts_20 : decode cX10_findParts 20 = .ok (.goto (-18), 3) := by decide +kernel
theorem dX10_findParts_23 : decode cX10_findParts 23 = .ok (.iconst 0, 1) := by decide +kernel
theorem dX10_findParts_24 : decode cX10_findParts 24 = .ok (.istore_n 1, 1) := by decide +kernel
theorem dX10_findParts_25 : decode cX10_findParts 25 = .ok (.iload_n 1, 1) := by decide +kernel
theorem dX10_findParts_26 : decode cX10_findParts 26 = .ok (.aload_n 0, 1) := by decide +kernel
theorem dX10_findParts_27 : decode cX10_findParts 27 = .ok (.getfield 105, 3) := by decide +kernel
theorem dX10_findParts_30 : decode cX10_findParts 30 = .ok (.if_icmp .ge 91, 3) := by decide +kernel
theorem dX10_findParts_33 : decode cX10_findParts 33 = .ok (.iconst 0, 1) := by decide +kernel
theorem dX10_findParts_34 : decode cX10_findParts 34 = .ok (.istore_n 2, 1) := by decide +kernel
theorem dX10_findParts_35 : decode cX10_findParts 35 = .ok (.iload_n 2, 1) := by decide +kernel
theorem dX10_findParts_36 : decode cX10_findParts 36 = .ok (.aload_n 0, 1) := by decide +kernel
theorem dX10_findParts_37 : decode cX10_findParts 37 = .ok (.getfield 105, 3) := by decide +kernel
theorem dX10_findParts_40 : decode cX10_findParts 40 = .ok (.if_icmp .ge 75, 3) := by decide +kernel
theorem dX10_findParts_43 : decode cX10_findParts 43 = .ok (.iconst 0, 1) := by decide +kernel
theorem dX10_findParts_44 : decode cX10_findParts 44 = .ok (.istore_n 3, 1) := by decide +kernel
theorem dX10_findParts_45 : decode cX10_findParts 45 = .ok (.iload_n 3, 1) := by decide +kernel
theorem dX10_findParts_46 : decode cX10_findParts 46 = .ok (.aload_n 0, 1) := by decide +kernel
theorem dX10_findParts_47 : decode cX10_findParts 47 = .ok (.getfield 105, 3) := by decide +kernel
theorem dX10_findParts_50 : decode cX10_findParts 50 = .ok (.if_icmp .ge 59, 3) := by decide +kernel
theorem dX10_findParts_53 : decode cX10_findParts 53 = .ok (.iload_n 2, 1) := by decide +kernel
theorem dX10_findParts_54 : decode cX10_findParts 54 = .ok (.iload_n 3, 1) := by decide +kernel
theorem dX10_findParts_55 : decode cX10_findParts 55 = .ok (.if_icmp .eq 48, 3) := by decide +kernel
theorem dX10_findParts_58 : decode cX10_findParts 58 = .ok (.aload_n 0, 1) := by decide +kernel
theorem dX10_findParts_59 : decode cX10_findParts 59 = .ok (.iload_n 2, 1) := by decide +kernel
theorem dX10_findParts_60 : decode cX10_findParts 60 = .ok (.iload_n 3, 1) := by decide +kernel
theorem dX10_findParts_61 : decode cX10_findParts 61 = .ok (.invokevirtual 251, 3) := by decide +kernel
theorem dX10_findParts_64 : decode cX10_findParts 64 = .ok (.ifCond .eq 39, 3) := by decide +kernel
theorem dX10_findParts_67 : decode cX10_findParts 67 = .ok (.aload_n 0, 1) := by decide +kernel
theorem dX10_findParts_68 : decode cX10_findParts 68 = .ok (.getfield 74, 3) := by decide +kernel
theorem dX10_findParts_71 : decode cX10_findParts 71 = .ok (.iload_n 3, 1) := by decide +kernel
theorem dX10_findParts_72 : decode cX10_findParts 72 = .ok (.aload_n 0, 1) := by decide +kernel
theorem dX10_findParts_73 : decode cX10_findParts 73 = .ok (.getfield 74, 3) := by decide +kernel
theorem dX10_findParts_76 : decode cX10_findParts 76 = .ok (.iload_n 2, 1) := by decide +kernel
theorem dX10_findParts_77 : decode cX10_findParts 77 = .ok (.iaload, 1) := by decide +kernel
theorem dX10_findParts_78 : decode cX10_findParts 78 = .ok (.aload_n 0, 1) := by decide +kernel
theorem dX10_findParts_79 : decode cX10_findParts 79 = .ok (.getfield 74, 3) := by decide +kernel
theorem dX10_findParts_82 : decode cX10_findParts 82 = .ok (.iload_n 3, 1) := by decide +kernel
theorem dX10_findParts_83 : decode cX10_findParts 83 = .ok (.iaload, 1) := by decide +kernel
theorem dX10_findParts_84 : decode cX10_findParts 84 = .ok (.if_icmp .ge 12, 3) := by decide +kernel
theorem dX10_findParts_87 : decode cX10_findParts 87 = .ok (.aload_n 0, 1) := by decide +kernel
theorem dX10_findParts_88 : decode cX10_findParts 88 = .ok (.getfield 74, 3) := by decide +kernel
theorem dX10_findParts_91 : decode cX10_findParts 91 = .ok (.iload_n 2, 1) := by decide +kernel
theorem dX10_findParts_92 : decode cX10_findParts 92 = .ok (.iaload, 1) := by decide +kernel
theorem dX10_findParts_93 : decode cX10_findParts 93 = .ok (.goto 9, 3) := by decide +kernel
theorem dX10_findParts_96 : decode cX10_findParts 96 = .ok (.aload_n 0, 1) := by decide +kernel
theorem dX10_findParts_97 : decode cX10_findParts 97 = .ok (.getfield 74, 3) := by decide +kernel
theorem dX10_findParts_100 : decode cX10_findParts 100 = .ok (.iload_n 3, 1) := by decide +kernel
theorem dX10_findParts_101 : decode cX10_findParts 101 = .ok (.iaload, 1) := by decide +kernel
theorem dX10_findParts_102 : decode cX10_findParts 102 = .ok (.iastore, 1) := by decide +kernel
theorem dX10_findParts_103 : decode cX10_findParts 103 = .ok (.iinc 3 1, 3) := by decide +kernel
theorem dX10_findParts_106 : decode cX10_findParts 106 = .ok (.goto (-61), 3) := by decide +kernel
theorem dX10_findParts_109 : decode cX10_findParts 109 = .ok (.iinc 2 1, 3) := by decide +kernel
theorem dX10_findParts_112 : decode cX10_findParts 112 = .ok (.goto (-77), 3) := by decide +kernel
theorem dX10_findParts_115 : decode cX10_findParts 115 = .ok (.iinc 1 1, 3) := by decide +kernel
theorem dX10_findParts_118 : decode cX10_findParts 118 = .ok (.goto (-93), 3) := by decide +kernel
theorem dX10_findParts_121 : decode cX10_findParts 121 = .ok (.iconst 0, 1) := by decide +kernel
theorem dX10_findParts_122 : decode cX10_findParts 122 = .ok (.istore_n 1, 1) := by decide +kernel
theorem dX10_findParts_123 : decode cX10_findParts 123 = .ok (.iconst 0, 1) := by decide +kernel
theorem dX10_findParts_124 : decode cX10_findParts 124 = .ok (.istore_n 2, 1) := by decide +kernel
theorem dX10_findParts_125 : decode cX10_findParts 125 = .ok (.iload_n 2, 1) := by decide +kernel
theorem dX10_findParts_126 : decode cX10_findParts 126 = .ok (.aload_n 0, 1) := by decide +kernel
theorem dX10_findParts_127 : decode cX10_findParts 127 = .ok (.getfield 105, 3) := by decide +kernel
theorem dX10_findParts_130 : decode cX10_findParts 130 = .ok (.if_icmp .ge 50, 3) := by decide +kernel
theorem dX10_findParts_133 : decode cX10_findParts 133 = .ok (.aload_n 0, 1) := by decide +kernel
theorem dX10_findParts_134 : decode cX10_findParts 134 = .ok (.getfield 74, 3) := by decide +kernel
theorem dX10_findParts_137 : decode cX10_findParts 137 = .ok (.iload_n 2, 1) := by decide +kernel
theorem dX10_findParts_138 : decode cX10_findParts 138 = .ok (.iaload, 1) := by decide +kernel
theorem dX10_findParts_139 : decode cX10_findParts 139 = .ok (.istore_n 3, 1) := by decide +kernel
theorem dX10_findParts_140 : decode cX10_findParts 140 = .ok (.aload_n 0, 1) := by decide +kernel
theorem dX10_findParts_141 : decode cX10_findParts 141 = .ok (.getfield 74, 3) := by decide +kernel
theorem dX10_findParts_144 : decode cX10_findParts 144 = .ok (.iload_n 2, 1) := by decide +kernel
theorem dX10_findParts_145 : decode cX10_findParts 145 = .ok (.iload_n 3, 1) := by decide +kernel
theorem dX10_findParts_146 : decode cX10_findParts 146 = .ok (.iload_n 2, 1) := by decide +kernel
theorem dX10_findParts_147 : decode cX10_findParts 147 = .ok (.if_icmp .ne 7, 3) := by decide +kernel
theorem dX10_findParts_150 : decode cX10_findParts 150 = .ok (.iload_n 1, 1) := by decide +kernel
theorem dX10_findParts_151 : decode cX10_findParts 151 = .ok (.goto 9, 3) := by decide +kernel
theorem dX10_findParts_154 : decode cX10_findParts 154 = .ok (.aload_n 0, 1) := by decide +kernel
theorem dX10_findParts_155 : decode cX10_findParts 155 = .ok (.getfield 74, 3) := by decide +kernel
theorem dX10_findParts_158 : decode cX10_findParts 158 = .ok (.iload_n 3, 1) := by decide +kernel
theorem dX10_findParts_159 : decode cX10_findParts 159 = .ok (.iaload, 1) := by decide +kernel
theorem dX10_findParts_160 : decode cX10_findParts 160 = .ok (.iastore, 1) := by decide +kernel
theorem dX10_findParts_161 : decode cX10_findParts 161 = .ok (.iload_n 1, 1) := by decide +kernel
theorem dX10_findParts_162 : decode cX10_findParts 162 = .ok (.iload_n 3, 1) := by decide +kernel
theorem dX10_findParts_163 : decode cX10_findParts 163 = .ok (.iload_n 2, 1) := by decide +kernel
theorem dX10_findParts_164 : decode cX10_findParts 164 = .ok (.if_icmp .ne 7, 3) := by decide +kernel
theorem dX10_findParts_167 : decode cX10_findParts 167 = .ok (.iconst 1, 1) := by decide +kernel
theorem dX10_findParts_168 : decode cX10_findParts 168 = .ok (.goto 4, 3) := by decide +kernel
theorem dX10_findParts_171 : decode cX10_findParts 171 = .ok (.iconst 0, 1) := by decide +kernel
theorem dX10_findParts_172 : decode cX10_findParts 172 = .ok (.iadd, 1) := by decide +kernel
theorem dX10_findParts_173 : decode cX10_findParts 173 = .ok (.istore_n 1, 1) := by decide +kernel
theorem dX10_findParts_174 : decode cX10_findParts 174 = .ok (.iinc 2 1, 3) := by decide +kernel
theorem dX10_findParts_177 : decode cX10_findParts 177 = .ok (.goto (-52), 3) := by decide +kernel
theorem dX10_findParts_180 : decode cX10_findParts 180 = .ok (.iload_n 1, 1) := by decide +kernel
theorem dX10_findParts_181 : decode cX10_findParts 181 = .ok (.ireturn, 1) := by decide +kernel
theorem dX10_part_0 : decode cX10_part 0 = .ok (.aload_n 0, 1) := by decide +kernel
theorem dX10_part_1 : decode cX10_part 1 = .ok (.iconst 0, 1) := by decide +kernel
theorem dX10_part_2 : decode cX10_part 2 = .ok (.putfield 102, 3) := by decide +kernel
theorem dX10_part_5 : decode cX10_part 5 = .ok (.aload_n 0, 1) := by decide +kernel
theorem dX10_part_6 : decode cX10_part 6 = .ok (.iload_n 1, 1) := by decide +kernel
theorem dX10_part_7 : decode cX10_part 7 = .ok (.invokevirtual 132, 3) := by decide +kernel
theorem dX10_part_10 : decode cX10_part 10 = .ok (.ifCond .ne 5, 3) := by decide +kernel
theorem dX10_part_13 : decode cX10_part 13 = .ok (.iconst (-1), 1) := by decide +kernel
theorem dX10_part_14 : decode cX10_part 14 = .ok (.ireturn, 1) := by decide +kernel
theorem dX10_part_15 : decode cX10_part 15 = .ok (.aload_n 0, 1) := by decide +kernel
theorem dX10_part_16 : decode cX10_part 16 = .ok (.invokevirtual 254, 3) := by decide +kernel
theorem dX10_part_19 : decode cX10_part 19 = .ok (.istore_n 2, 1) := by decide +kernel
theorem dX10_part_20 : decode cX10_part 20 = .ok (.aload_n 0, 1) := by decide +kernel
theorem dX10_part_21 : decode cX10_part 21 = .ok (.getfield 74, 3) := by decide +kernel
theorem dX10_part_24 : decode cX10_part 24 = .ok (.iload_n 1, 1) := by decide +kernel
theorem dX10_part_25 : decode cX10_part 25 = .ok (.iaload, 1) := by decide +kernel
theorem dX10_part_26 : decode cX10_part 26 = .ok (.ireturn, 1) := by decide +kernel
theorem dX10_withChannel_0 : decode cX10_withChannel 0 = .ok (.iconst 0, 1) := by decide +kernel
theorem dX10_withChannel_1 : decode cX10_withChannel 1 = .ok (.istore_n 1, 1) := by decide +kernel
theorem dX10_withChannel_2 : decode cX10_withChannel 2 = .ok (.iconst 0, 1) := by decide +kernel
theorem dX10_withChannel_3 : decode cX10_withChannel 3 = .ok (.istore_n 2, 1) := by decide +kernel
theorem dX10_withChannel_4 : decode cX10_withChannel 4 = .ok (.iload_n 2, 1) := by decide +kernel
theorem dX10_withChannel_5 : decode cX10_withChannel 5 = .ok (.aload_n 0, 1) := by decide +kernel
theorem dX10_withChannel_6 : decode cX10_withChannel 6 = .ok (.getfield 108, 3) := by decide +kernel
theorem dX10_withChannel_9 : decode cX10_withChannel 9 = .ok (.if_icmp .ge 26, 3) := by decide +kernel
theorem dX10_withChannel_12 : decode cX10_withChannel 12 = .ok (.iload_n 1, 1) := by decide +kernel
theorem dX10_withChannel_13 : decode cX10_withChannel 13 = .ok (.aload_n 0, 1) := by decide +kernel
theorem dX10_withChannel_14 : decode cX10_withChannel 14 = .ok (.getfield 40, 3) := by decide +kernel
theorem dX10_withChannel_17 : decode cX10_withChannel 17 = .ok (.iload_n 2, 1) := by decide +kernel
theorem dX10_withChannel_18 : decode cX10_withChannel 18 = .ok (.iaload, 1) := by decide +kernel
theorem dX10_withChannel_19 : decode cX10_withChannel 19 = .ok (.ifCond .lt 7, 3) := by decide +kernel
theorem dX10_withChannel_22 : decode cX10_withChannel 22 = .ok (.iconst 1, 1) := by decide +kernel
theorem dX10_withChannel_23 : decode cX10_withChannel 23 = .ok (.goto 4, 3) := by decide +kernel
theorem dX10_withChannel_26 : decode cX10_withChannel 26 = .ok (.iconst 0, 1) := by decide +kernel
theorem dX10_withChannel_27 : decode cX10_withChannel 27 = .ok (.iadd, 1) := by decide +kernel
theorem dX10_withChannel_28 : decode cX10_withChannel 28 = .ok (.istore_n 1, 1) := by decide +kernel
theorem dX10_withChannel_29 : decode cX10_withChannel 29 = .ok (.iinc 2 1, 3) := by decide +kernel
theorem dX10_withChannel_32 : decode cX10_withChannel 32 = .ok (.goto (-28), 3) := by decide +kernel
theorem dX10_withChannel_35 : decode cX10_withChannel 35 = .ok (.iload_n 1, 1) := by decide +kernel
theorem dX10_withChannel_36 : decode cX10_withChannel 36 = .ok (.ireturn, 1) := by decide +kernel
theorem dX10_image_0 : decode cX10_image 0 = .ok (.aload_n 0, 1) := by decide +kernel
theorem dX10_image_1 : decode cX10_image 1 = .ok (.iconst 0, 1) := by decide +kernel
theorem dX10_image_2 : decode cX10_image 2 = .ok (.putfield 102, 3) := by decide +kernel
theorem dX10_image_5 : decode cX10_image 5 = .ok (.aload_n 0, 1) := by decide +kernel
theorem dX10_image_6 : decode cX10_image 6 = .ok (.aload_n 0, 1) := by decide +kernel
theorem dX10_image_7 : decode cX10_image 7 = .ok (.getfield 108, 3) := by decide +kernel
theorem dX10_image_10 : decode cX10_image 10 = .ok (.putfield 77, 3) := by decide +kernel
theorem dX10_image_13 : decode cX10_image 13 = .ok (.iconst 0, 1) := by decide +kernel
theorem dX10_image_14 : decode cX10_image 14 = .ok (.istore_n 1, 1) := by decide +kernel
theorem dX10_image_15 : decode cX10_image 15 = .ok (.iload_n 1, 1) := by decide +kernel
theorem dX10_image_16 : decode cX10_image 16 = .ok (.aload_n 0, 1) := by decide +kernel
theorem dX10_image_17 : decode cX10_image 17 = .ok (.getfield 108, 3) := by decide +kernel
theorem dX10_image_20 : decode cX10_image 20 = .ok (.if_icmp .ge 21, 3) := by decide +kernel
theorem dX10_image_23 : decode cX10_image 23 = .ok (.aload_n 0, 1) := by decide +kernel
theorem dX10_image_24 : decode cX10_image 24 = .ok (.getfield 80, 3) := by decide +kernel
theorem dX10_image_27 : decode cX10_image 27 = .ok (.iload_n 1, 1) := by decide +kernel
theorem dX10_image_28 : decode cX10_image 28 = .ok (.aload_n 0, 1) := by decide +kernel
theorem dX10_image_29 : decode cX10_image 29 = .ok (.getfield 40, 3) := by decide +kernel
theorem dX10_image_32 : decode cX10_image 32 = .ok (.iload_n 1, 1) := by decide +kernel
theorem dX10_image_33 : decode cX10_image 33 = .ok (.iaload, 1) := by decide +kernel
theorem dX10_image_34 : decode cX10_image 34 = .ok (.iastore, 1) := by decide +kernel
theorem dX10_image_35 : decode cX10_image 35 = .ok (.iinc 1 1, 3) := by decide +kernel
theorem dX10_image_38 : decode cX10_image 38 = .ok (.goto (-23), 3) := by decide +kernel
theorem dX10_image_41 : decode cX10_image 41 = .ok (.aload_n 0, 1) := by decide +kernel
theorem dX10_image_42 : decode cX10_image 42 = .ok (.invokevirtual 257, 3) := by decide +kernel
theorem dX10_image_45 : decode cX10_image 45 = .ok (.ireturn, 1) := by decide +kernel
theorem dX10_restore_0 : decode cX10_restore 0 = .ok (.aload_n 0, 1) := by decide +kernel
theorem dX10_restore_1 : decode cX10_restore 1 = .ok (.iconst 0, 1) := by decide +kernel
theorem dX10_restore_2 : decode cX10_restore 2 = .ok (.putfield 102, 3) := by decide +kernel
theorem dX10_restore_5 : decode cX10_restore 5 = .ok (.aload_n 0, 1) := by decide +kernel
theorem dX10_restore_6 : decode cX10_restore 6 = .ok (.getfield 77, 3) := by decide +kernel
theorem dX10_restore_9 : decode cX10_restore 9 = .ok (.ifCond .ge 6, 3) := by decide +kernel
theorem dX10_restore_12 : decode cX10_restore 12 = .ok (.bipush (-2), 2) := by decide +kernel
theorem dX10_restore_14 : decode cX10_restore 14 = .ok (.ireturn, 1) := by decide +kernel
theorem dX10_restore_15 : decode cX10_restore 15 = .ok (.iconst 0, 1) := by decide +kernel
theorem dX10_restore_16 : decode cX10_restore 16 = .ok (.istore_n 1, 1) := by decide +kernel
theorem dX10_restore_17 : decode cX10_restore 17 = .ok (.iconst 0, 1) := by decide +kernel
theorem dX10_restore_18 : decode cX10_restore 18 = .ok (.istore_n 2, 1) := by decide +kernel
theorem dX10_restore_19 : decode cX10_restore 19 = .ok (.iload_n 2, 1) := by decide +kernel
theorem dX10_restore_20 : decode cX10_restore 20 = .ok (.aload_n 0, 1) := by decide +kernel
theorem dX10_restore_21 : decode cX10_restore 21 = .ok (.getfield 77, 3) := by decide +kernel
theorem dX10_restore_24 : decode cX10_restore 24 = .ok (.if_icmp .ge 44, 3) := by decide +kernel
theorem dX10_restore_27 : decode cX10_restore 27 = .ok (.iload_n 1, 1) := by decide +kernel
theorem dX10_restore_28 : decode cX10_restore 28 = .ok (.aload_n 0, 1) := by decide +kernel
theorem dX10_restore_29 : decode cX10_restore 29 = .ok (.getfield 40, 3) := by decide +kernel
theorem dX10_restore_32 : decode cX10_restore 32 = .ok (.iload_n 2, 1) := by decide +kernel
theorem dX10_restore_33 : decode cX10_restore 33 = .ok (.iaload, 1) := by decide +kernel
theorem dX10_restore_34 : decode cX10_restore 34 = .ok (.aload_n 0, 1) := by decide +kernel
theorem dX10_restore_35 : decode cX10_restore 35 = .ok (.getfield 80, 3) := by decide +kernel
theorem dX10_restore_38 : decode cX10_restore 38 = .ok (.iload_n 2, 1) := by decide +kernel
theorem dX10_restore_39 : decode cX10_restore 39 = .ok (.iaload, 1) := by decide +kernel
theorem dX10_restore_40 : decode cX10_restore 40 = .ok (.if_icmp .eq 7, 3) := by decide +kernel
theorem dX10_restore_43 : decode cX10_restore 43 = .ok (.iconst 1, 1) := by decide +kernel
theorem dX10_restore_44 : decode cX10_restore 44 = .ok (.goto 4, 3) := by decide +kernel
theorem dX10_restore_47 : decode cX10_restore 47 = .ok (.iconst 0, 1) := by decide +kernel
theorem dX10_restore_48 : decode cX10_restore 48 = .ok (.iadd, 1) := by decide +kernel
theorem dX10_restore_49 : decode cX10_restore 49 = .ok (.istore_n 1, 1) := by decide +kernel
theorem dX10_restore_50 : decode cX10_restore 50 = .ok (.aload_n 0, 1) := by decide +kernel
theorem dX10_restore_51 : decode cX10_restore 51 = .ok (.getfield 40, 3) := by decide +kernel
theorem dX10_restore_54 : decode cX10_restore 54 = .ok (.iload_n 2, 1) := by decide +kernel
theorem dX10_restore_55 : decode cX10_restore 55 = .ok (.aload_n 0, 1) := by decide +kernel
theorem dX10_restore_56 : decode cX10_restore 56 = .ok (.getfield 80, 3) := by decide +kernel
theorem dX10_restore_59 : decode cX10_restore 59 = .ok (.iload_n 2, 1) := by decide +kernel
theorem dX10_restore_60 : decode cX10_restore 60 = .ok (.iaload, 1) := by decide +kernel
theorem dX10_restore_61 : decode cX10_restore 61 = .ok (.iastore, 1) := by decide +kernel
theorem dX10_restore_62 : decode cX10_restore 62 = .ok (.iinc 2 1, 3) := by decide +kernel
theorem dX10_restore_65 : decode cX10_restore 65 = .ok (.goto (-46), 3) := by decide +kernel
theorem dX10_restore_68 : decode cX10_restore 68 = .ok (.iload_n 1, 1) := by decide +kernel
theorem dX10_restore_69 : decode cX10_restore 69 = .ok (.ireturn, 1) := by decide +kernel
theorem dX10_bars_0 : decode cX10_bars 0 = .ok (.iconst 0, 1) := by decide +kernel
theorem dX10_bars_1 : decode cX10_bars 1 = .ok (.istore_n 1, 1) := by decide +kernel
theorem dX10_bars_2 : decode cX10_bars 2 = .ok (.iconst 0, 1) := by decide +kernel
theorem dX10_bars_3 : decode cX10_bars 3 = .ok (.istore_n 2, 1) := by decide +kernel
theorem dX10_bars_4 : decode cX10_bars 4 = .ok (.iload_n 2, 1) := by decide +kernel
theorem dX10_bars_5 : decode cX10_bars 5 = .ok (.aload_n 0, 1) := by decide +kernel
theorem dX10_bars_6 : decode cX10_bars 6 = .ok (.getfield 105, 3) := by decide +kernel
theorem dX10_bars_9 : decode cX10_bars 9 = .ok (.if_icmp .ge 44, 3) := by decide +kernel
theorem dX10_bars_12 : decode cX10_bars 12 = .ok (.iload_n 2, 1) := by decide +kernel
theorem dX10_bars_13 : decode cX10_bars 13 = .ok (.iconst 1, 1) := by decide +kernel
theorem dX10_bars_14 : decode cX10_bars 14 = .ok (.iadd, 1) := by decide +kernel
theorem dX10_bars_15 : decode cX10_bars 15 = .ok (.istore_n 3, 1) := by decide +kernel
theorem dX10_bars_16 : decode cX10_bars 16 = .ok (.iload_n 3, 1) := by decide +kernel
theorem dX10_bars_17 : decode cX10_bars 17 = .ok (.aload_n 0, 1) := by decide +kernel
theorem dX10_bars_18 : decode cX10_bars 18 = .ok (.getfield 105, 3) := by decide +kernel
theorem dX10_bars_21 : decode cX10_bars 21 = .ok (.if_icmp .ge 26, 3) := by decide +kernel
theorem dX10_bars_24 : decode cX10_bars 24 = .ok (.iload_n 1, 1) := by decide +kernel
theorem dX10_bars_25 : decode cX10_bars 25 = .ok (.aload_n 0, 1) := by decide +kernel
theorem dX10_bars_26 : decode cX10_bars 26 = .ok (.iload_n 2, 1) := by decide +kernel
theorem dX10_bars_27 : decode cX10_bars 27 = .ok (.iload_n 3, 1) := by decide +kernel
theorem dX10_bars_28 : decode cX10_bars 28 = .ok (.invokevirtual 135, 3) := by decide +kernel
theorem dX10_bars_31 : decode cX10_bars 31 = .ok (.ifCond .le 7, 3) := by decide +kernel
theorem dX10_bars_34 : decode cX10_bars 34 = .ok (.iconst 1, 1) := by decide +kernel
theorem dX10_bars_35 : decode cX10_bars 35 = .ok (.goto 4, 3) := by decide +kernel
theorem dX10_bars_38 : decode cX10_bars 38 = .ok (.iconst 0, 1) := by decide +kernel
theorem dX10_bars_39 : decode cX10_bars 39 = .ok (.iadd, 1) := by decide +kernel
theorem dX10_bars_40 : decode cX10_bars 40 = .ok (.istore_n 1, 1) := by decide +kernel
theorem dX10_bars_41 : decode cX10_bars 41 = .ok (.iinc 3 1, 3) := by decide +kernel
theorem dX10_bars_44 : decode cX10_bars 44 = .ok (.goto (-28), 3) := by decide +kernel
theorem dX10_bars_47 : decode cX10_bars 47 = .ok (.iinc 2 1, 3) := by decide +kernel
theorem dX10_bars_50 : decode cX10_bars 50 = .ok (.goto (-46), 3) := by decide +kernel
theorem dX10_bars_53 : decode cX10_bars 53 = .ok (.iload_n 1, 1) := by decide +kernel
theorem dX10_bars_54 : decode cX10_bars 54 = .ok (.ireturn, 1) := by decide +kernel
theorem dX10_threes_0 : decode cX10_threes 0 = .ok (.iconst 0, 1) := by decide +kernel
theorem dX10_threes_1 : decode cX10_threes 1 = .ok (.istore_n 1, 1) := by decide +kernel
theorem dX10_threes_2 : decode cX10_threes 2 = .ok (.iconst 0, 1) := by decide +kernel
theorem dX10_threes_3 : decode cX10_threes 3 = .ok (.istore_n 2, 1) := by decide +kernel
theorem dX10_threes_4 : decode cX10_threes 4 = .ok (.iload_n 2, 1) := by decide +kernel
theorem dX10_threes_5 : decode cX10_threes 5 = .ok (.aload_n 0, 1) := by decide +kernel
theorem dX10_threes_6 : decode cX10_threes 6 = .ok (.getfield 105, 3) := by decide +kernel
theorem dX10_threes_9 : decode cX10_threes 9 = .ok (.if_icmp .ge 66, 3) := by decide +kernel
theorem dX10_threes_12 : decode cX10_threes 12 = .ok (.iload_n 2, 1) := by decide +kernel
theorem dX10_threes_13 : decode cX10_threes 13 = .ok (.iconst 1, 1) := by decide +kernel
theorem dX10_threes_14 : decode cX10_threes 14 = .ok (.iadd, 1) := by decide +kernel
theorem dX10_threes_15 : decode cX10_threes 15 = .ok (.istore_n 3, 1) := by decide +kernel
theorem dX10_threes_16 : decode cX10_threes 16 = .ok (.iload_n 3, 1) := by decide +kernel
theorem dX10_threes_17 : decode cX10_threes 17 = .ok (.aload_n 0, 1) := by decide +kernel
theorem dX10_threes_18 : decode cX10_threes 18 = .ok (.getfield 105, 3) := by decide +kernel
theorem dX10_threes_21 : decode cX10_threes 21 = .ok (.if_icmp .ge 48, 3) := by decide +kernel
theorem dX10_threes_24 : decode cX10_threes 24 = .ok (.iload_n 3, 1) := by decide +kernel
theorem dX10_threes_25 : decode cX10_threes 25 = .ok (.iconst 1, 1) := by decide +kernel
theorem dX10_threes_26 : decode cX10_threes 26 = .ok (.iadd, 1) := by decide +kernel
theorem dX10_threes_27 : decode cX10_threes 27 = .ok (.istore 4, 2) := by decide +kernel
theorem dX10_threes_29 : decode cX10_threes 29 = .ok (.iload 4, 2) := by decide +kernel
theorem dX10_threes_31 : decode cX10_threes 31 = .ok (.aload_n 0, 1) := by decide +kernel
theorem dX10_threes_32 : decode cX10_threes 32 = .ok (.getfield 105, 3) := by decide +kernel
theorem dX10_threes_35 : decode cX10_threes 35 = .ok (.if_icmp .ge 28, 3) := by decide +kernel
theorem dX10_threes_38 : decode cX10_threes 38 = .ok (.iload_n 1, 1) := by decide +kernel
theorem dX10_threes_39 : decode cX10_threes 39 = .ok (.aload_n 0, 1) := by decide +kernel
theorem dX10_threes_40 : decode cX10_threes 40 = .ok (.iload_n 2, 1) := by decide +kernel
theorem dX10_threes_41 : decode cX10_threes 41 = .ok (.iload_n 3, 1) := by decide +kernel
theorem dX10_threes_42 : decode cX10_threes 42 = .ok (.iload 4, 2) := by decide +kernel
theorem dX10_threes_44 : decode cX10_threes 44 = .ok (.invokevirtual 188, 3) := by decide +kernel
theorem dX10_threes_47 : decode cX10_threes 47 = .ok (.ifCond .eq 7, 3) := by decide +kernel
theorem dX10_threes_50 : decode cX10_threes 50 = .ok (.iconst 1, 1) := by decide +kernel
theorem dX10_threes_51 : decode cX10_threes 51 = .ok (.goto 4, 3) := by decide +kernel
theorem dX10_threes_54 : decode cX10_threes 54 = .ok (.iconst 0, 1) := by decide +kernel
theorem dX10_threes_55 : decode cX10_threes 55 = .ok (.iadd, 1) := by decide +kernel
theorem dX10_threes_56 : decode cX10_threes 56 = .ok (.istore_n 1, 1) := by decide +kernel
theorem dX10_threes_57 : decode cX10_threes 57 = .ok (.iinc 4 1, 3) := by decide +kernel
theorem dX10_threes_60 : decode cX10_threes 60 = .ok (.goto (-31), 3) := by decide +kernel
theorem dX10_threes_63 : decode cX10_threes 63 = .ok (.iinc 3 1, 3) := by decide +kernel
theorem dX10_threes_66 : decode cX10_threes 66 = .ok (.goto (-50), 3) := by decide +kernel
theorem dX10_threes_69 : decode cX10_threes 69 = .ok (.iinc 2 1, 3) := by decide +kernel
theorem dX10_threes_72 : decode cX10_threes 72 = .ok (.goto (-68), 3) := by decide +kernel
theorem dX10_threes_75 : decode cX10_threes 75 = .ok (.iload_n 1, 1) := by decide +kernel
theorem dX10_threes_76 : decode cX10_threes 76 = .ok (.ireturn, 1) := by decide +kernel
theorem dX10_count_0 : decode cX10_count 0 = .ok (.aload_n 0, 1) := by decide +kernel
theorem dX10_count_1 : decode cX10_count 1 = .ok (.iconst 0, 1) := by decide +kernel
theorem dX10_count_2 : decode cX10_count 2 = .ok (.putfield 102, 3) := by decide +kernel
theorem dX10_count_5 : decode cX10_count 5 = .ok (.iload_n 1, 1) := by decide +kernel
theorem dX10_count_6 : decode cX10_count 6 = .ok (.tableswitch 77 0 6 #[42, 47, 52, 57, 62, 67, 72], 42) := by decide +kernel
theorem dX10_count_48 : decode cX10_count 48 = .ok (.aload_n 0, 1) := by decide +kernel
theorem dX10_count_49 : decode cX10_count 49 = .ok (.getfield 105, 3) := by decide +kernel
theorem dX10_count_52 : decode cX10_count 52 = .ok (.ireturn, 1) := by decide +kernel
theorem dX10_count_53 : decode cX10_count 53 = .ok (.aload_n 0, 1) := by decide +kernel
theorem dX10_count_54 : decode cX10_count 54 = .ok (.getfield 108, 3) := by decide +kernel
theorem dX10_count_57 : decode cX10_count 57 = .ok (.ireturn, 1) := by decide +kernel
theorem dX10_count_58 : decode cX10_count 58 = .ok (.aload_n 0, 1) := by decide +kernel
theorem dX10_count_59 : decode cX10_count 59 = .ok (.getfield 125, 3) := by decide +kernel
theorem dX10_count_62 : decode cX10_count 62 = .ok (.ireturn, 1) := by decide +kernel
theorem dX10_count_63 : decode cX10_count 63 = .ok (.aload_n 0, 1) := by decide +kernel
theorem dX10_count_64 : decode cX10_count 64 = .ok (.invokevirtual 260, 3) := by decide +kernel
theorem dX10_count_67 : decode cX10_count 67 = .ok (.ireturn, 1) := by decide +kernel
theorem dX10_count_68 : decode cX10_count 68 = .ok (.aload_n 0, 1) := by decide +kernel
theorem dX10_count_69 : decode cX10_count 69 = .ok (.invokevirtual 263, 3) := by decide +kernel
theorem dX10_count_72 : decode cX10_count 72 = .ok (.ireturn, 1) := by decide +kernel
theorem dX10_count_73 : decode cX10_count 73 = .ok (.aload_n 0, 1) := by decide +kernel
theorem dX10_count_74 : decode cX10_count 74 = .ok (.invokevirtual 254, 3) := by decide +kernel
theorem dX10_count_77 : decode cX10_count 77 = .ok (.ireturn, 1) := by decide +kernel
theorem dX10_count_78 : decode cX10_count 78 = .ok (.aload_n 0, 1) := by decide +kernel
theorem dX10_count_79 : decode cX10_count 79 = .ok (.invokevirtual 257, 3) := by decide +kernel
theorem dX10_count_82 : decode cX10_count 82 = .ok (.ireturn, 1) := by decide +kernel
theorem dX10_count_83 : decode cX10_count 83 = .ok (.iconst (-1), 1) := by decide +kernel
theorem dX10_count_84 : decode cX10_count 84 = .ok (.ireturn, 1) := by decide +kernel
theorem dX10_look_0 : decode cX10_look 0 = .ok (.aload_n 0, 1) := by decide +kernel
theorem dX10_look_1 : decode cX10_look 1 = .ok (.iconst 0, 1) := by decide +kernel
theorem dX10_look_2 : decode cX10_look 2 = .ok (.putfield 102, 3) := by decide +kernel
theorem dX10_look_5 : decode cX10_look 5 = .ok (.aload_n 0, 1) := by decide +kernel
theorem dX10_look_6 : decode cX10_look 6 = .ok (.iload_n 1, 1) := by decide +kernel
theorem dX10_look_7 : decode cX10_look 7 = .ok (.invokevirtual 132, 3) := by decide +kernel
theorem dX10_look_10 : decode cX10_look 10 = .ok (.ifCond .ne 5, 3) := by decide +kernel
theorem dX10_look_13 : decode cX10_look 13 = .ok (.iconst (-1), 1) := by decide +kernel
theorem dX10_look_14 : decode cX10_look 14 = .ok (.ireturn, 1) := by decide +kernel
theorem dX10_look_15 : decode cX10_look 15 = .ok (.iload_n 2, 1) := by decide +kernel
theorem dX10_look_16 : decode cX10_look 16 = .ok (.tableswitch 123 0 7 #[48, 55, 62, 69, 76, 83, 90, 101], 48) := by decide +kernel
theorem dX10_look_64 : decode cX10_look 64 = .ok (.aload_n 0, 1) := by decide +kernel
theorem dX10_look_65 : decode cX10_look 65 = .ok (.getfield 7, 3) := by decide +kernel
theorem dX10_look_68 : decode cX10_look 68 = .ok (.iload_n 1, 1) := by decide +kernel
theorem dX10_look_69 : decode cX10_look 69 = .ok (.iaload, 1) := by decide +kernel
theorem dX10_look_70 : decode cX10_look 70 = .ok (.ireturn, 1) := by decide +kernel
theorem dX10_look_71 : decode cX10_look 71 = .ok (.aload_n 0, 1) := by decide +kernel
theorem dX10_look_72 : decode cX10_look 72 = .ok (.getfield 13, 3) := by decide +kernel
theorem dX10_look_75 : decode cX10_look 75 = .ok (.iload_n 1, 1) := by decide +kernel
theorem dX10_look_76 : decode cX10_look 76 = .ok (.iaload, 1) := by decide +kernel
theorem dX10_look_77 : decode cX10_look 77 = .ok (.ireturn, 1) := by decide +kernel
theorem dX10_look_78 : decode cX10_look 78 = .ok (.aload_n 0, 1) := by decide +kernel
theorem dX10_look_79 : decode cX10_look 79 = .ok (.getfield 16, 3) := by decide +kernel
theorem dX10_look_82 : decode cX10_look 82 = .ok (.iload_n 1, 1) := by decide +kernel
theorem dX10_look_83 : decode cX10_look 83 = .ok (.iaload, 1) := by decide +kernel
theorem dX10_look_84 : decode cX10_look 84 = .ok (.ireturn, 1) := by decide +kernel
theorem dX10_look_85 : decode cX10_look 85 = .ok (.aload_n 0, 1) := by decide +kernel
theorem dX10_look_86 : decode cX10_look 86 = .ok (.getfield 19, 3) := by decide +kernel
theorem dX10_look_89 : decode cX10_look 89 = .ok (.iload_n 1, 1) := by decide +kernel
theorem dX10_look_90 : decode cX10_look 90 = .ok (.iaload, 1) := by decide +kernel
theorem dX10_look_91 : decode cX10_look 91 = .ok (.ireturn, 1) := by decide +kernel
theorem dX10_look_92 : decode cX10_look 92 = .ok (.aload_n 0, 1) := by decide +kernel
theorem dX10_look_93 : decode cX10_look 93 = .ok (.getfield 22, 3) := by decide +kernel
theorem dX10_look_96 : decode cX10_look 96 = .ok (.iload_n 1, 1) := by decide +kernel
theorem dX10_look_97 : decode cX10_look 97 = .ok (.iaload, 1) := by decide +kernel
theorem dX10_look_98 : decode cX10_look 98 = .ok (.ireturn, 1) := by decide +kernel
theorem dX10_look_99 : decode cX10_look 99 = .ok (.aload_n 0, 1) := by decide +kernel
theorem dX10_look_100 : decode cX10_look 100 = .ok (.getfield 25, 3) := by decide +kernel
theorem dX10_look_103 : decode cX10_look 103 = .ok (.iload_n 1, 1) := by decide +kernel
theorem dX10_look_104 : decode cX10_look 104 = .ok (.iaload, 1) := by decide +kernel
theorem dX10_look_105 : decode cX10_look 105 = .ok (.ireturn, 1) := by decide +kernel
theorem dX10_look_106 : decode cX10_look 106 = .ok (.aload_n 0, 1) := by decide +kernel
theorem dX10_look_107 : decode cX10_look 107 = .ok (.aload_n 0, 1) := by decide +kernel
theorem dX10_look_108 : decode cX10_look 108 = .ok (.getfield 28, 3) := by decide +kernel
theorem dX10_look_111 : decode cX10_look 111 = .ok (.iload_n 1, 1) := by decide +kernel
theorem dX10_look_112 : decode cX10_look 112 = .ok (.iaload, 1) := by decide +kernel
theorem dX10_look_113 : decode cX10_look 113 = .ok (.invokevirtual 141, 3) := by decide +kernel
theorem dX10_look_116 : decode cX10_look 116 = .ok (.ireturn, 1) := by decide +kernel
theorem dX10_look_117 : decode cX10_look 117 = .ok (.aload_n 0, 1) := by decide +kernel
theorem dX10_look_118 : decode cX10_look 118 = .ok (.getfield 7, 3) := by decide +kernel
theorem dX10_look_121 : decode cX10_look 121 = .ok (.iload_n 1, 1) := by decide +kernel
theorem dX10_look_122 : decode cX10_look 122 = .ok (.iaload, 1) := by decide +kernel
theorem dX10_look_123 : decode cX10_look 123 = .ok (.iconst 1, 1) := by decide +kernel
theorem dX10_look_124 : decode cX10_look 124 = .ok (.if_icmp .ne 12, 3) := by decide +kernel
theorem dX10_look_127 : decode cX10_look 127 = .ok (.aload_n 0, 1) := by decide +kernel
theorem dX10_look_128 : decode cX10_look 128 = .ok (.getfield 31, 3) := by decide +kernel
theorem dX10_look_131 : decode cX10_look 131 = .ok (.iload_n 1, 1) := by decide +kernel
theorem dX10_look_132 : decode cX10_look 132 = .ok (.iaload, 1) := by decide +kernel
theorem dX10_look_133 : decode cX10_look 133 = .ok (.goto 5, 3) := by decide +kernel
theorem dX10_look_136 : decode cX10_look 136 = .ok (.bipush (-2), 2) := by decide +kernel
theorem dX10_look_138 : decode cX10_look 138 = .ok (.ireturn, 1) := by decide +kernel
theorem dX10_look_139 : decode cX10_look 139 = .ok (.iconst (-1), 1) := by decide +kernel
theorem dX10_look_140 : decode cX10_look 140 = .ok (.ireturn, 1) := by decide +kernel
theorem dX10_isShelf_0 : decode cX10_isShelf 0 = .ok (.iload_n 0, 1) := by decide +kernel
theorem dX10_isShelf_1 : decode cX10_isShelf 1 = .ok (.ifCond .lt 13, 3) := by decide +kernel
theorem dX10_isShelf_4 : decode cX10_isShelf 4 = .ok (.iload_n 0, 1) := by decide +kernel
theorem dX10_isShelf_5 : decode cX10_isShelf 5 = .ok (.bipush 8, 2) := by decide +kernel
theorem dX10_isShelf_7 : decode cX10_isShelf 7 = .ok (.if_icmp .ge 7, 3) := by decide +kernel
theorem dX10_isShelf_10 : decode cX10_isShelf 10 = .ok (.iconst 1, 1) := by decide +kernel
theorem dX10_isShelf_11 : decode cX10_isShelf 11 = .ok (.goto 4, 3) := by decide +kernel
theorem dX10_isShelf_14 : decode cX10_isShelf 14 = .ok (.iconst 0, 1) := by decide +kernel
theorem dX10_isShelf_15 : decode cX10_isShelf 15 = .ok (.ireturn, 1) := by decide +kernel
theorem dX10_weightOf_0 : decode cX10_weightOf 0 = .ok (.iload_n 1, 1) := by decide +kernel
theorem dX10_weightOf_1 : decode cX10_weightOf 1 = .ok (.iconst 5, 1) := by decide +kernel
theorem dX10_weightOf_2 : decode cX10_weightOf 2 = .ok (.aload_n 0, 1) := by decide +kernel
theorem dX10_weightOf_3 : decode cX10_weightOf 3 = .ok (.getfield 22, 3) := by decide +kernel
theorem dX10_weightOf_6 : decode cX10_weightOf 6 = .ok (.iload_n 1, 1) := by decide +kernel
theorem dX10_weightOf_7 : decode cX10_weightOf 7 = .ok (.iaload, 1) := by decide +kernel
theorem dX10_weightOf_8 : decode cX10_weightOf 8 = .ok (.imul, 1) := by decide +kernel
theorem dX10_weightOf_9 : decode cX10_weightOf 9 = .ok (.iadd, 1) := by decide +kernel
theorem dX10_weightOf_10 : decode cX10_weightOf 10 = .ok (.aload_n 0, 1) := by decide +kernel
theorem dX10_weightOf_11 : decode cX10_weightOf 11 = .ok (.getfield 19, 3) := by decide +kernel
theorem dX10_weightOf_14 : decode cX10_weightOf 14 = .ok (.iload_n 1, 1) := by decide +kernel
theorem dX10_weightOf_15 : decode cX10_weightOf 15 = .ok (.iaload, 1) := by decide +kernel
theorem dX10_weightOf_16 : decode cX10_weightOf 16 = .ok (.iadd, 1) := by decide +kernel
theorem dX10_weightOf_17 : decode cX10_weightOf 17 = .ok (.istore_n 2, 1) := by decide +kernel
theorem dX10_weightOf_18 : decode cX10_weightOf 18 = .ok (.aload_n 0, 1) := by decide +kernel
theorem dX10_weightOf_19 : decode cX10_weightOf 19 = .ok (.getfield 7, 3) := by decide +kernel
theorem dX10_weightOf_22 : decode cX10_weightOf 22 = .ok (.iload_n 1, 1) := by decide +kernel
theorem dX10_weightOf_23 : decode cX10_weightOf 23 = .ok (.iaload, 1) := by decide +kernel
theorem dX10_weightOf_24 : decode cX10_weightOf 24 = .ok (.ifCond .ne 7, 3) := by decide +kernel
theorem dX10_weightOf_27 : decode cX10_weightOf 27 = .ok (.iload_n 2, 1) := by decide +kernel
theorem dX10_weightOf_28 : decode cX10_weightOf 28 = .ok (.goto 44, 3) := by decide +kernel
theorem dX10_weightOf_31 : decode cX10_weightOf 31 = .ok (.aload_n 0, 1) := by decide +kernel
theorem dX10_weightOf_32 : decode cX10_weightOf 32 = .ok (.getfield 7, 3) := by decide +kernel
theorem dX10_weightOf_35 : decode cX10_weightOf 35 = .ok (.iload_n 1, 1) := by decide +kernel
theorem dX10_weightOf_36 : decode cX10_weightOf 36 = .ok (.iaload, 1) := by decide +kernel
theorem dX10_weightOf_37 : decode cX10_weightOf 37 = .ok (.iconst 1, 1) := by decide +kernel
