theorem dX10_channelsOf_4 : decode cX10_channelsOf 4 = .ok (.iload_n 1, 1) := by decide +kernel
theorem dX10_channelsOf_5 : decode cX10_channelsOf 5 = .ok (.iaload, 1) := by decide +kernel
theorem dX10_channelsOf_6 : decode cX10_channelsOf 6 = .ok (.ifCond .ge 7, 3) := by decide +kernel
theorem dX10_channelsOf_9 : decode cX10_channelsOf 9 = .ok (.iconst 0, 1) := by decide +kernel
theorem dX10_channelsOf_10 : decode cX10_channelsOf 10 = .ok (.goto 23, 3) := by decide +kernel
theorem dX10_channelsOf_13 : decode cX10_channelsOf 13 = .ok (.aload_n 0, 1) := by decide +kernel
theorem dX10_channelsOf_14 : decode cX10_channelsOf 14 = .ok (.getfield 7, 3) := by decide +kernel
theorem dX10_channelsOf_17 : decode cX10_channelsOf 17 = .ok (.aload_n 0, 1) := by decide +kernel
theorem dX10_channelsOf_18 : decode cX10_channelsOf 18 = .ok (.getfield 34, 3) := by decide +kernel
theorem dX10_channelsOf_21 : decode cX10_channelsOf 21 = .ok (.iload_n 1, 1) := by decide +kernel
theorem dX10_channelsOf_22 : decode cX10_channelsOf 22 = .ok (.iaload, 1) := by decide +kernel
theorem dX10_channelsOf_23 : decode cX10_channelsOf 23 = .ok (.iaload, 1) := by decide +kernel
theorem dX10_channelsOf_24 : decode cX10_channelsOf 24 = .ok (.iconst 1, 1) := by decide +kernel
theorem dX10_channelsOf_25 : decode cX10_channelsOf 25 = .ok (.if_icmp .ne 7, 3) := by decide +kernel
theorem dX10_channelsOf_28 : decode cX10_channelsOf 28 = .ok (.iconst 2, 1) := by decide +kernel
theorem dX10_channelsOf_29 : decode cX10_channelsOf 29 = .ok (.goto 4, 3) := by decide +kernel
theorem dX10_channelsOf_32 : decode cX10_channelsOf 32 = .ok (.iconst 1, 1) := by decide +kernel
theorem dX10_channelsOf_33 : decode cX10_channelsOf 33 = .ok (.ireturn, 1) := by decide +kernel
theorem dX10_lack_0 : decode cX10_lack 0 = .ok (.aload_n 0, 1) := by decide +kernel
theorem dX10_lack_1 : decode cX10_lack 1 = .ok (.aload_n 0, 1) := by decide +kernel
theorem dX10_lack_2 : decode cX10_lack 2 = .ok (.getfield 34, 3) := by decide +kernel
theorem dX10_lack_5 : decode cX10_lack 5 = .ok (.iload_n 1, 1) := by decide +kernel
theorem dX10_lack_6 : decode cX10_lack 6 = .ok (.iaload, 1) := by decide +kernel
theorem dX10_lack_7 : decode cX10_lack 7 = .ok (.aload_n 0, 1) := by decide +kernel
theorem dX10_lack_8 : decode cX10_lack 8 = .ok (.getfield 34, 3) := by decide +kernel
theorem dX10_lack_11 : decode cX10_lack 11 = .ok (.iload_n 2, 1) := by decide +kernel
theorem dX10_lack_12 : decode cX10_lack 12 = .ok (.iaload, 1) := by decide +kernel
theorem dX10_lack_13 : decode cX10_lack 13 = .ok (.invokevirtual 135, 3) := by decide +kernel
theorem dX10_lack_16 : decode cX10_lack 16 = .ok (.istore_n 3, 1) := by decide +kernel
theorem dX10_lack_17 : decode cX10_lack 17 = .ok (.iconst 0, 1) := by decide +kernel
theorem dX10_lack_18 : decode cX10_lack 18 = .ok (.istore 4, 2) := by decide +kernel
theorem dX10_lack_20 : decode cX10_lack 20 = .ok (.iconst 0, 1) := by decide +kernel
theorem dX10_lack_21 : decode cX10_lack 21 = .ok (.istore 5, 2) := by decide +kernel
theorem dX10_lack_23 : decode cX10_lack 23 = .ok (.iload 5, 2) := by decide +kernel
theorem dX10_lack_25 : decode cX10_lack 25 = .ok (.aload_n 0, 1) := by decide +kernel
theorem dX10_lack_26 : decode cX10_lack 26 = .ok (.iload_n 1, 1) := by decide +kernel
theorem dX10_lack_27 : decode cX10_lack 27 = .ok (.invokevirtual 179, 3) := by decide +kernel
theorem dX10_lack_30 : decode cX10_lack 30 = .ok (.if_icmp .ge 78, 3) := by decide +kernel
theorem dX10_lack_33 : decode cX10_lack 33 = .ok (.iconst 0, 1) := by decide +kernel
theorem dX10_lack_34 : decode cX10_lack 34 = .ok (.istore 6, 2) := by decide +kernel
theorem dX10_lack_36 : decode cX10_lack 36 = .ok (.iload 6, 2) := by decide +kernel
theorem dX10_lack_38 : decode cX10_lack 38 = .ok (.aload_n 0, 1) := by decide +kernel
theorem dX10_lack_39 : decode cX10_lack 39 = .ok (.iload_n 2, 1) := by decide +kernel
theorem dX10_lack_40 : decode cX10_lack 40 = .ok (.invokevirtual 179, 3) := by decide +kernel
theorem dX10_lack_43 : decode cX10_lack 43 = .ok (.if_icmp .ge 59, 3) := by decide +kernel
theorem dX10_lack_46 : decode cX10_lack 46 = .ok (.aload_n 0, 1) := by decide +kernel
theorem dX10_lack_47 : decode cX10_lack 47 = .ok (.iload_n 1, 1) := by decide +kernel
theorem dX10_lack_48 : decode cX10_lack 48 = .ok (.iload 5, 2) := by decide +kernel
theorem dX10_lack_50 : decode cX10_lack 50 = .ok (.invokevirtual 182, 3) := by decide +kernel
theorem dX10_lack_53 : decode cX10_lack 53 = .ok (.aload_n 0, 1) := by decide +kernel
theorem dX10_lack_54 : decode cX10_lack 54 = .ok (.iload_n 2, 1) := by decide +kernel
theorem dX10_lack_55 : decode cX10_lack 55 = .ok (.iload 6, 2) := by decide +kernel
theorem dX10_lack_57 : decode cX10_lack 57 = .ok (.invokevirtual 182, 3) := by decide +kernel
theorem dX10_lack_60 : decode cX10_lack 60 = .ok (.isub, 1) := by decide +kernel
theorem dX10_lack_61 : decode cX10_lack 61 = .ok (.istore 7, 2) := by decide +kernel
theorem dX10_lack_63 : decode cX10_lack 63 = .ok (.iload_n 3, 1) := by decide +kernel
theorem dX10_lack_64 : decode cX10_lack 64 = .ok (.iload 7, 2) := by decide +kernel
theorem dX10_lack_66 : decode cX10_lack 66 = .ok (.ifCond .ge 9, 3) := by decide +kernel
theorem dX10_lack_69 : decode cX10_lack 69 = .ok (.iload 7, 2) := by decide +kernel
theorem dX10_lack_71 : decode cX10_lack 71 = .ok (.ineg, 1) := by decide +kernel
theorem dX10_lack_72 : decode cX10_lack 72 = .ok (.goto 5, 3) := by decide +kernel
theorem dX10_lack_75 : decode cX10_lack 75 = .ok (.iload 7, 2) := by decide +kernel
theorem dX10_lack_77 : decode cX10_lack 77 = .ok (.isub, 1) := by decide +kernel
theorem dX10_lack_78 : decode cX10_lack 78 = .ok (.istore 8, 2) := by decide +kernel
theorem dX10_lack_80 : decode cX10_lack 80 = .ok (.iload 8, 2) := by decide +kernel
theorem dX10_lack_82 : decode cX10_lack 82 = .ok (.iload 4, 2) := by decide +kernel
theorem dX10_lack_84 : decode cX10_lack 84 = .ok (.if_icmp .le 8, 3) := by decide +kernel
theorem dX10_lack_87 : decode cX10_lack 87 = .ok (.iload 8, 2) := by decide +kernel
theorem dX10_lack_89 : decode cX10_lack 89 = .ok (.goto 5, 3) := by decide +kernel
theorem dX10_lack_92 : decode cX10_lack 92 = .ok (.iload 4, 2) := by decide +kernel
theorem dX10_lack_94 : decode cX10_lack 94 = .ok (.istore 4, 2) := by decide +kernel
theorem dX10_lack_96 : decode cX10_lack 96 = .ok (.iinc 6 1, 3) := by decide +kernel
theorem dX10_lack_99 : decode cX10_lack 99 = .ok (.goto (-63), 3) := by decide +kernel
theorem dX10_lack_102 : decode cX10_lack 102 = .ok (.iinc 5 1, 3) := by decide +kernel
theorem dX10_lack_105 : decode cX10_lack 105 = .ok (.goto (-82), 3) := by decide +kernel
theorem dX10_lack_108 : decode cX10_lack 108 = .ok (.iload 4, 2) := by decide +kernel
theorem dX10_lack_110 : decode cX10_lack 110 = .ok (.ireturn, 1) := by decide +kernel
theorem dX10_areIn_0 : decode cX10_areIn 0 = .ok (.iload_n 1, 1) := by decide +kernel
theorem dX10_areIn_1 : decode cX10_areIn 1 = .ok (.iload_n 2, 1) := by decide +kernel
theorem dX10_areIn_2 : decode cX10_areIn 2 = .ok (.if_icmp .eq 56, 3) := by decide +kernel
theorem dX10_areIn_5 : decode cX10_areIn 5 = .ok (.iload_n 2, 1) := by decide +kernel
theorem dX10_areIn_6 : decode cX10_areIn 6 = .ok (.iload_n 3, 1) := by decide +kernel
theorem dX10_areIn_7 : decode cX10_areIn 7 = .ok (.if_icmp .eq 51, 3) := by decide +kernel
theorem dX10_areIn_10 : decode cX10_areIn 10 = .ok (.iload_n 1, 1) := by decide +kernel
theorem dX10_areIn_11 : decode cX10_areIn 11 = .ok (.iload_n 3, 1) := by decide +kernel
theorem dX10_areIn_12 : decode cX10_areIn 12 = .ok (.if_icmp .eq 46, 3) := by decide +kernel
theorem dX10_areIn_15 : decode cX10_areIn 15 = .ok (.aload_n 0, 1) := by decide +kernel
theorem dX10_areIn_16 : decode cX10_areIn 16 = .ok (.iload_n 1, 1) := by decide +kernel
theorem dX10_areIn_17 : decode cX10_areIn 17 = .ok (.iload_n 2, 1) := by decide +kernel
theorem dX10_areIn_18 : decode cX10_areIn 18 = .ok (.invokevirtual 128, 3) := by decide +kernel
theorem dX10_areIn_21 : decode cX10_areIn 21 = .ok (.aload_n 0, 1) := by decide +kernel
theorem dX10_areIn_22 : decode cX10_areIn 22 = .ok (.getfield 56, 3) := by decide +kernel
theorem dX10_areIn_25 : decode cX10_areIn 25 = .ok (.if_icmp .gt 33, 3) := by decide +kernel
theorem dX10_areIn_28 : decode cX10_areIn 28 = .ok (.aload_n 0, 1) := by decide +kernel
theorem dX10_areIn_29 : decode cX10_areIn 29 = .ok (.iload_n 2, 1) := by decide +kernel
theorem dX10_areIn_30 : decode cX10_areIn 30 = .ok (.iload_n 3, 1) := by decide +kernel
theorem dX10_areIn_31 : decode cX10_areIn 31 = .ok (.invokevirtual 128, 3) := by decide +kernel
theorem dX10_areIn_34 : decode cX10_areIn 34 = .ok (.aload_n 0, 1) := by decide +kernel
theorem dX10_areIn_35 : decode cX10_areIn 35 = .ok (.getfield 56, 3) := by decide +kernel
theorem dX10_areIn_38 : decode cX10_areIn 38 = .ok (.if_icmp .gt 20, 3) := by decide +kernel
theorem dX10_areIn_41 : decode cX10_areIn 41 = .ok (.aload_n 0, 1) := by decide +kernel
theorem dX10_areIn_42 : decode cX10_areIn 42 = .ok (.iload_n 1, 1) := by decide +kernel
theorem dX10_areIn_43 : decode cX10_areIn 43 = .ok (.iload_n 3, 1) := by decide +kernel
theorem dX10_areIn_44 : decode cX10_areIn 44 = .ok (.invokevirtual 128, 3) := by decide +kernel
theorem dX10_areIn_47 : decode cX10_areIn 47 = .ok (.aload_n 0, 1) := by decide +kernel
theorem dX10_areIn_48 : decode cX10_areIn 48 = .ok (.getfield 56, 3) := by decide +kernel
theorem dX10_areIn_51 : decode cX10_areIn 51 = .ok (.if_icmp .gt 7, 3) := by decide +kernel
theorem dX10_areIn_54 : decode cX10_areIn 54 = .ok (.iconst 1, 1) := by decide +kernel
theorem dX10_areIn_55 : decode cX10_areIn 55 = .ok (.goto 4, 3) := by decide +kernel
theorem dX10_areIn_58 : decode cX10_areIn 58 = .ok (.iconst 0, 1) := by decide +kernel
theorem dX10_areIn_59 : decode cX10_areIn 59 = .ok (.ireturn, 1) := by decide +kernel
theorem dX10_middles_0 : decode cX10_middles 0 = .ok (.iconst 0, 1) := by decide +kernel
theorem dX10_middles_1 : decode cX10_middles 1 = .ok (.istore 4, 2) := by decide +kernel
theorem dX10_middles_3 : decode cX10_middles 3 = .ok (.iconst 0, 1) := by decide +kernel
theorem dX10_middles_4 : decode cX10_middles 4 = .ok (.istore 5, 2) := by decide +kernel
theorem dX10_middles_6 : decode cX10_middles 6 = .ok (.iload 5, 2) := by decide +kernel
theorem dX10_middles_8 : decode cX10_middles 8 = .ok (.aload_n 0, 1) := by decide +kernel
theorem dX10_middles_9 : decode cX10_middles 9 = .ok (.iload_n 1, 1) := by decide +kernel
theorem dX10_middles_10 : decode cX10_middles 10 = .ok (.invokevirtual 179, 3) := by decide +kernel
theorem dX10_middles_13 : decode cX10_middles 13 = .ok (.if_icmp .ge 84, 3) := by decide +kernel
theorem dX10_middles_16 : decode cX10_middles 16 = .ok (.iconst 0, 1) := by decide +kernel
theorem dX10_middles_17 : decode cX10_middles 17 = .ok (.istore 6, 2) := by decide +kernel
theorem dX10_middles_19 : decode cX10_middles 19 = .ok (.iload 6, 2) := by decide +kernel
theorem dX10_middles_21 : decode cX10_middles 21 = .ok (.aload_n 0, 1) := by decide +kernel
theorem dX10_middles_22 : decode cX10_middles 22 = .ok (.iload_n 2, 1) := by decide +kernel
theorem dX10_middles_23 : decode cX10_middles 23 = .ok (.invokevirtual 179, 3) := by decide +kernel
theorem dX10_middles_26 : decode cX10_middles 26 = .ok (.if_icmp .ge 65, 3) := by decide +kernel
theorem dX10_middles_29 : decode cX10_middles 29 = .ok (.iconst 0, 1) := by decide +kernel
theorem dX10_middles_30 : decode cX10_middles 30 = .ok (.istore 7, 2) := by decide +kernel
theorem dX10_middles_32 : decode cX10_middles 32 = .ok (.iload 7, 2) := by decide +kernel
theorem dX10_middles_34 : decode cX10_middles 34 = .ok (.aload_n 0, 1) := by decide +kernel
theorem dX10_middles_35 : decode cX10_middles 35 = .ok (.iload_n 3, 1) := by decide +kernel
theorem dX10_middles_36 : decode cX10_middles 36 = .ok (.invokevirtual 179, 3) := by decide +kernel
theorem dX10_middles_39 : decode cX10_middles 39 = .ok (.if_icmp .ge 46, 3) := by decide +kernel
theorem dX10_middles_42 : decode cX10_middles 42 = .ok (.iload 4, 2) := by decide +kernel
theorem dX10_middles_44 : decode cX10_middles 44 = .ok (.aload_n 0, 1) := by decide +kernel
theorem dX10_middles_45 : decode cX10_middles 45 = .ok (.iload_n 2, 1) := by decide +kernel
theorem dX10_middles_46 : decode cX10_middles 46 = .ok (.iload 6, 2) := by decide +kernel
theorem dX10_middles_48 : decode cX10_middles 48 = .ok (.invokevirtual 182, 3) := by decide +kernel
theorem dX10_middles_51 : decode cX10_middles 51 = .ok (.aload_n 0, 1) := by decide +kernel
theorem dX10_middles_52 : decode cX10_middles 52 = .ok (.iload_n 3, 1) := by decide +kernel
theorem dX10_middles_53 : decode cX10_middles 53 = .ok (.iload 7, 2) := by decide +kernel
theorem dX10_middles_55 : decode cX10_middles 55 = .ok (.invokevirtual 182, 3) := by decide +kernel
theorem dX10_middles_58 : decode cX10_middles 58 = .ok (.iadd, 1) := by decide +kernel
theorem dX10_middles_59 : decode cX10_middles 59 = .ok (.iconst 2, 1) := by decide +kernel
theorem dX10_middles_60 : decode cX10_middles 60 = .ok (.aload_n 0, 1) := by decide +kernel
theorem dX10_middles_61 : decode cX10_middles 61 = .ok (.iload_n 1, 1) := by decide +kernel
theorem dX10_middles_62 : decode cX10_middles 62 = .ok (.iload 5, 2) := by decide +kernel
theorem dX10_middles_64 : decode cX10_middles 64 = .ok (.invokevirtual 182, 3) := by decide +kernel
theorem dX10_middles_67 : decode cX10_middles 67 = .ok (.imul, 1) := by decide +kernel
theorem dX10_middles_68 : decode cX10_middles 68 = .ok (.if_icmp .ne 7, 3) := by decide +kernel
theorem dX10_middles_71 : decode cX10_middles 71 = .ok (.iconst 1, 1) := by decide +kernel
theorem dX10_middles_72 : decode cX10_middles 72 = .ok (.goto 4, 3) := by decide +kernel
theorem dX10_middles_75 : decode cX10_middles 75 = .ok (.iconst 0, 1) := by decide +kernel
theorem dX10_middles_76 : decode cX10_middles 76 = .ok (.iadd, 1) := by decide +kernel
theorem dX10_middles_77 : decode cX10_middles 77 = .ok (.istore 4, 2) := by decide +kernel
theorem dX10_middles_79 : decode cX10_middles 79 = .ok (.iinc 7 1, 3) := by decide +kernel
theorem dX10_middles_82 : decode cX10_middles 82 = .ok (.goto (-50), 3) := by decide +kernel
theorem dX10_middles_85 : decode cX10_middles 85 = .ok (.iinc 6 1, 3) := by decide +kernel
theorem dX10_middles_88 : decode cX10_middles 88 = .ok (.goto (-69), 3) := by decide +kernel
theorem dX10_middles_91 : decode cX10_middles 91 = .ok (.iinc 5 1, 3) := by decide +kernel
theorem dX10_middles_94 : decode cX10_middles 94 = .ok (.goto (-88), 3) := by decide +kernel
theorem dX10_middles_97 : decode cX10_middles 97 = .ok (.iload 4, 2) := by decide +kernel
theorem dX10_middles_99 : decode cX10_middles 99 = .ok (.ireturn, 1) := by decide +kernel
theorem dX10_brokenOf_0 : decode cX10_brokenOf 0 = .ok (.iconst 0, 1) := by decide +kernel
theorem dX10_brokenOf_1 : decode cX10_brokenOf 1 = .ok (.istore_n 2, 1) := by decide +kernel
theorem dX10_brokenOf_2 : decode cX10_brokenOf 2 = .ok (.iconst 0, 1) := by decide +kernel
theorem dX10_brokenOf_3 : decode cX10_brokenOf 3 = .ok (.istore_n 3, 1) := by decide +kernel
theorem dX10_brokenOf_4 : decode cX10_brokenOf 4 = .ok (.iload_n 3, 1) := by decide +kernel
theorem dX10_brokenOf_5 : decode cX10_brokenOf 5 = .ok (.aload_n 0, 1) := by decide +kernel
theorem dX10_brokenOf_6 : decode cX10_brokenOf 6 = .ok (.getfield 108, 3) := by decide +kernel
theorem dX10_brokenOf_9 : decode cX10_brokenOf 9 = .ok (.if_icmp .ge 191, 3) := by decide +kernel
theorem dX10_brokenOf_12 : decode cX10_brokenOf 12 = .ok (.iload_n 2, 1) := by decide +kernel
theorem dX10_brokenOf_13 : decode cX10_brokenOf 13 = .ok (.iload_n 1, 1) := by decide +kernel
theorem dX10_brokenOf_14 : decode cX10_brokenOf 14 = .ok (.iconst 3, 1) := by decide +kernel
theorem dX10_brokenOf_15 : decode cX10_brokenOf 15 = .ok (.if_icmp .ne 30, 3) := by decide +kernel
theorem dX10_brokenOf_18 : decode cX10_brokenOf 18 = .ok (.aload_n 0, 1) := by decide +kernel
theorem dX10_brokenOf_19 : decode cX10_brokenOf 19 = .ok (.getfield 40, 3) := by decide +kernel
theorem dX10_brokenOf_22 : decode cX10_brokenOf 22 = .ok (.iload_n 3, 1) := by decide +kernel
theorem dX10_brokenOf_23 : decode cX10_brokenOf 23 = .ok (.iaload, 1) := by decide +kernel
theorem dX10_brokenOf_24 : decode cX10_brokenOf 24 = .ok (.ifCond .lt 21, 3) := by decide +kernel
theorem dX10_brokenOf_27 : decode cX10_brokenOf 27 = .ok (.aload_n 0, 1) := by decide +kernel
theorem dX10_brokenOf_28 : decode cX10_brokenOf 28 = .ok (.iload_n 3, 1) := by decide +kernel
theorem dX10_brokenOf_29 : decode cX10_brokenOf 29 = .ok (.aload_n 0, 1) := by decide +kernel
theorem dX10_brokenOf_30 : decode cX10_brokenOf 30 = .ok (.getfield 40, 3) := by decide +kernel
theorem dX10_brokenOf_33 : decode cX10_brokenOf 33 = .ok (.iload_n 3, 1) := by decide +kernel
theorem dX10_brokenOf_34 : decode cX10_brokenOf 34 = .ok (.iaload, 1) := by decide +kernel
theorem dX10_brokenOf_35 : decode cX10_brokenOf 35 = .ok (.invokevirtual 176, 3) := by decide +kernel
theorem dX10_brokenOf_38 : decode cX10_brokenOf 38 = .ok (.ifCond .ne 7, 3) := by decide +kernel
theorem dX10_brokenOf_41 : decode cX10_brokenOf 41 = .ok (.iconst 1, 1) := by decide +kernel
theorem dX10_brokenOf_42 : decode cX10_brokenOf 42 = .ok (.goto 4, 3) := by decide +kernel
theorem dX10_brokenOf_45 : decode cX10_brokenOf 45 = .ok (.iconst 0, 1) := by decide +kernel
theorem dX10_brokenOf_46 : decode cX10_brokenOf 46 = .ok (.iadd, 1) := by decide +kernel
theorem dX10_brokenOf_47 : decode cX10_brokenOf 47 = .ok (.istore_n 2, 1) := by decide +kernel
theorem dX10_brokenOf_48 : decode cX10_brokenOf 48 = .ok (.iload_n 3, 1) := by decide +kernel
theorem dX10_brokenOf_49 : decode cX10_brokenOf 49 = .ok (.iconst 1, 1) := by decide +kernel
theorem dX10_brokenOf_50 : decode cX10_brokenOf 50 = .ok (.iadd, 1) := by decide +kernel
theorem dX10_brokenOf_51 : decode cX10_brokenOf 51 = .ok (.istore 4, 2) := by decide +kernel
theorem dX10_brokenOf_53 : decode cX10_brokenOf 53 = .ok (.iload 4, 2) := by decide +kernel
theorem dX10_brokenOf_55 : decode cX10_brokenOf 55 = .ok (.aload_n 0, 1) := by decide +kernel
theorem dX10_brokenOf_56 : decode cX10_brokenOf 56 = .ok (.getfield 108, 3) := by decide +kernel
theorem dX10_brokenOf_59 : decode cX10_brokenOf 59 = .ok (.if_icmp .ge 135, 3) := by decide +kernel
theorem dX10_brokenOf_62 : decode cX10_brokenOf 62 = .ok (.iload_n 1, 1) := by decide +kernel
theorem dX10_brokenOf_63 : decode cX10_brokenOf 63 = .ok (.iconst 2, 1) := by decide +kernel
theorem dX10_brokenOf_64 : decode cX10_brokenOf 64 = .ok (.if_icmp .ge 13, 3) := by decide +kernel
theorem dX10_brokenOf_67 : decode cX10_brokenOf 67 = .ok (.aload_n 0, 1) := by decide +kernel
theorem dX10_brokenOf_68 : decode cX10_brokenOf 68 = .ok (.iload_n 3, 1) := by decide +kernel
theorem dX10_brokenOf_69 : decode cX10_brokenOf 69 = .ok (.iload 4, 2) := by decide +kernel
theorem dX10_brokenOf_71 : decode cX10_brokenOf 71 = .ok (.invokevirtual 185, 3) := by decide +kernel
theorem dX10_brokenOf_74 : decode cX10_brokenOf 74 = .ok (.goto 4, 3) := by decide +kernel
theorem dX10_brokenOf_77 : decode cX10_brokenOf 77 = .ok (.iconst 0, 1) := by decide +kernel
theorem dX10_brokenOf_78 : decode cX10_brokenOf 78 = .ok (.istore 5, 2) := by decide +kernel
theorem dX10_brokenOf_80 : decode cX10_brokenOf 80 = .ok (.iload_n 2, 1) := by decide +kernel
theorem dX10_brokenOf_81 : decode cX10_brokenOf 81 = .ok (.iload_n 1, 1) := by decide +kernel
theorem dX10_brokenOf_82 : decode cX10_brokenOf 82 = .ok (.iconst 1, 1) := by decide +kernel
theorem dX10_brokenOf_83 : decode cX10_brokenOf 83 = .ok (.if_icmp .ne 8, 3) := by decide +kernel
theorem dX10_brokenOf_86 : decode cX10_brokenOf 86 = .ok (.iload 5, 2) := by decide +kernel
theorem dX10_brokenOf_88 : decode cX10_brokenOf 88 = .ok (.goto 13, 3) := by decide +kernel
theorem dX10_brokenOf_91 : decode cX10_brokenOf 91 = .ok (.iload 5, 2) := by decide +kernel
theorem dX10_brokenOf_93 : decode cX10_brokenOf 93 = .ok (.ifCond .le 7, 3) := by decide +kernel
theorem dX10_brokenOf_96 : decode cX10_brokenOf 96 = .ok (.iconst 1, 1) := by decide +kernel
theorem dX10_brokenOf_97 : decode cX10_brokenOf 97 = .ok (.goto 4, 3) := by decide +kernel
theorem dX10_brokenOf_100 : decode cX10_brokenOf 100 = .ok (.iconst 0, 1) := by decide +kernel
theorem dX10_brokenOf_101 : decode cX10_brokenOf 101 = .ok (.iadd, 1) := by decide +kernel
theorem dX10_brokenOf_102 : decode cX10_brokenOf 102 = .ok (.istore_n 2, 1) := by decide +kernel
theorem dX10_brokenOf_103 : decode cX10_brokenOf 103 = .ok (.iload 4, 2) := by decide +kernel
theorem dX10_brokenOf_105 : decode cX10_brokenOf 105 = .ok (.iconst 1, 1) := by decide +kernel
theorem dX10_brokenOf_106 : decode cX10_brokenOf 106 = .ok (.iadd, 1) := by decide +kernel
theorem dX10_brokenOf_107 : decode cX10_brokenOf 107 = .ok (.istore 6, 2) := by decide +kernel
theorem dX10_brokenOf_109 : decode cX10_brokenOf 109 = .ok (.iload 6, 2) := by decide +kernel
theorem dX10_brokenOf_111 : decode cX10_brokenOf 111 = .ok (.aload_n 0, 1) := by decide +kernel
theorem dX10_brokenOf_112 : decode cX10_brokenOf 112 = .ok (.getfield 108, 3) := by decide +kernel
theorem dX10_brokenOf_115 : decode cX10_brokenOf 115 = .ok (.if_icmp .ge 73, 3) := by decide +kernel
theorem dX10_brokenOf_118 : decode cX10_brokenOf 118 = .ok (.iload_n 1, 1) := by decide +kernel
theorem dX10_brokenOf_119 : decode cX10_brokenOf 119 = .ok (.iconst 2, 1) := by decide +kernel
theorem dX10_brokenOf_120 : decode cX10_brokenOf 120 = .ok (.if_icmp .ne 68, 3) := by decide +kernel
theorem dX10_brokenOf_123 : decode cX10_brokenOf 123 = .ok (.aload_n 0, 1) := by decide +kernel
theorem dX10_brokenOf_124 : decode cX10_brokenOf 124 = .ok (.aload_n 0, 1) := by decide +kernel
theorem dX10_brokenOf_125 : decode cX10_brokenOf 125 = .ok (.getfield 34, 3) := by decide +kernel
theorem dX10_brokenOf_128 : decode cX10_brokenOf 128 = .ok (.iload 6, 2) := by decide +kernel
theorem dX10_brokenOf_130 : decode cX10_brokenOf 130 = .ok (.iaload, 1) := by decide +kernel
theorem dX10_brokenOf_131 : decode cX10_brokenOf 131 = .ok (.aload_n 0, 1) := by decide +kernel
theorem dX10_brokenOf_132 : decode cX10_brokenOf 132 = .ok (.getfield 34, 3) := by decide +kernel
theorem dX10_brokenOf_135 : decode cX10_brokenOf 135 = .ok (.iload_n 3, 1) := by decide +kernel
theorem dX10_brokenOf_136 : decode cX10_brokenOf 136 = .ok (.iaload, 1) := by decide +kernel
theorem dX10_brokenOf_137 : decode cX10_brokenOf 137 = .ok (.aload_n 0, 1) := by decide +kernel
theorem dX10_brokenOf_138 : decode cX10_brokenOf 138 = .ok (.getfield 34, 3) := by decide +kernel
theorem dX10_brokenOf_141 : decode cX10_brokenOf 141 = .ok (.iload 4, 2) := by decide +kernel
theorem dX10_brokenOf_143 : decode cX10_brokenOf 143 = .ok (.iaload, 1) := by decide +kernel
theorem dX10_brokenOf_144 : decode cX10_brokenOf 144 = .ok (.invokevirtual 188, 3) := by decide +kernel
theorem dX10_brokenOf_147 : decode cX10_brokenOf 147 = .ok (.ifCond .eq 35, 3) := by decide +kernel
theorem dX10_brokenOf_150 : decode cX10_brokenOf 150 = .ok (.iload_n 2, 1) := by decide +kernel
theorem dX10_brokenOf_151 : decode cX10_brokenOf 151 = .ok (.aload_n 0, 1) := by decide +kernel
theorem dX10_brokenOf_152 : decode cX10_brokenOf 152 = .ok (.iload 6, 2) := by decide +kernel
theorem dX10_brokenOf_154 : decode cX10_brokenOf 154 = .ok (.iload_n 3, 1) := by decide +kernel
theorem dX10_brokenOf_155 : decode cX10_brokenOf 155 = .ok (.iload 4, 2) := by decide +kernel
theorem dX10_brokenOf_157 : decode cX10_brokenOf 157 = .ok (.invokevirtual 192, 3) := by decide +kernel
theorem dX10_brokenOf_160 : decode cX10_brokenOf 160 = .ok (.aload_n 0, 1) := by decide +kernel
theorem dX10_brokenOf_161 : decode cX10_brokenOf 161 = .ok (.iload_n 3, 1) := by decide +kernel
theorem dX10_brokenOf_162 : decode cX10_brokenOf 162 = .ok (.iload 6, 2) := by decide +kernel
theorem dX10_brokenOf_164 : decode cX10_brokenOf 164 = .ok (.iload 4, 2) := by decide +kernel
theorem dX10_brokenOf_166 : decode cX10_brokenOf 166 = .ok (.invokevirtual 192, 3) := by decide +kernel
theorem dX10_brokenOf_169 : decode cX10_brokenOf 169 = .ok (.iadd, 1) := by decide +kernel
theorem dX10_brokenOf_170 : decode cX10_brokenOf 170 = .ok (.aload_n 0, 1) := by decide +kernel
theorem dX10_brokenOf_171 : decode cX10_brokenOf 171 = .ok (.iload 4, 2) := by decide +kernel
theorem dX10_brokenOf_173 : decode cX10_brokenOf 173 = .ok (.iload 6, 2) := by decide +kernel
theorem dX10_brokenOf_175 : decode cX10_brokenOf 175 = .ok (.iload_n 3, 1) := by decide +kernel
theorem dX10_brokenOf_176 : decode cX10_brokenOf 176 = .ok (.invokevirtual 192, 3) := by decide +kernel
theorem dX10_brokenOf_179 : decode cX10_brokenOf 179 = .ok (.iadd, 1) := by decide +kernel
theorem dX10_brokenOf_180 : decode cX10_brokenOf 180 = .ok (.iadd, 1) := by decide +kernel
theorem dX10_brokenOf_181 : decode cX10_brokenOf 181 = .ok (.istore_n 2, 1) := by decide +kernel
theorem dX10_brokenOf_182 : decode cX10_brokenOf 182 = .ok (.iinc 6 1, 3) := by decide +kernel
theorem dX10_brokenOf_185 : decode cX10_brokenOf 185 = .ok (.goto (-76), 3) := by decide +kernel
theorem dX10_brokenOf_188 : decode cX10_brokenOf 188 = .ok (.iinc 4 1, 3) := by decide +kernel
theorem dX10_brokenOf_191 : decode cX10_brokenOf 191 = .ok (.goto (-138), 3) := by decide +kernel
theorem dX10_brokenOf_194 : decode cX10_brokenOf 194 = .ok (.iinc 3 1, 3) := by decide +kernel
theorem dX10_brokenOf_197 : decode cX10_brokenOf 197 = .ok (.goto (-193), 3) := by decide +kernel
theorem dX10_brokenOf_200 : decode cX10_brokenOf 200 = .ok (.iload_n 2, 1) := by decide +kernel
theorem dX10_brokenOf_201 : decode cX10_brokenOf 201 = .ok (.ireturn, 1) := by decide +kernel
theorem dX10_harmNow_0 : decode cX10_harmNow 0 = .ok (.aload_n 0, 1) := by decide +kernel
theorem dX10_harmNow_1 : decode cX10_harmNow 1 = .ok (.iconst 1, 1) := by decide +kernel
theorem dX10_harmNow_2 : decode cX10_harmNow 2 = .ok (.invokevirtual 196, 3) := by decide +kernel
theorem dX10_harmNow_5 : decode cX10_harmNow 5 = .ok (.iconst 5, 1) := by decide +kernel
theorem dX10_harmNow_6 : decode cX10_harmNow 6 = .ok (.aload_n 0, 1) := by decide +kernel
theorem dX10_harmNow_7 : decode cX10_harmNow 7 = .ok (.iconst 2, 1) := by decide +kernel
theorem dX10_harmNow_8 : decode cX10_harmNow 8 = .ok (.invokevirtual 196, 3) := by decide +kernel
theorem dX10_harmNow_11 : decode cX10_harmNow 11 = .ok (.imul, 1) := by decide +kernel
theorem dX10_harmNow_12 : decode cX10_harmNow 12 = .ok (.iadd, 1) := by decide +kernel
theorem dX10_harmNow_13 : decode cX10_harmNow 13 = .ok (.bipush 10, 2) := by decide +kernel
theorem dX10_harmNow_15 : decode cX10_harmNow 15 = .ok (.aload_n 0, 1) := by decide +kernel
theorem dX10_harmNow_16 : decode cX10_harmNow 16 = .ok (.iconst 3, 1) := by decide +kernel
theorem dX10_harmNow_17 : decode cX10_harmNow 17 = .ok (.invokevirtual 196, 3) := by decide +kernel
theorem dX10_harmNow_20 : decode cX10_harmNow 20 = .ok (.imul, 1) := by decide +kernel
theorem dX10_harmNow_21 : decode cX10_harmNow 21 = .ok (.iadd, 1) := by decide +kernel
theorem dX10_harmNow_22 : decode cX10_harmNow 22 = .ok (.ireturn, 1) := by decide +kernel
theorem dX10_harm_0 : decode cX10_harm 0 = .ok (.aload_n 0, 1) := by decide +kernel
theorem dX10_harm_1 : decode cX10_harm 1 = .ok (.iconst 0, 1) := by decide +kernel
theorem dX10_harm_2 : decode cX10_harm 2 = .ok (.putfield 102, 3) := by decide +kernel
theorem dX10_harm_5 : decode cX10_harm 5 = .ok (.aload_n 0, 1) := by decide +kernel
theorem dX10_harm_6 : decode cX10_harm 6 = .ok (.invokevirtual 199, 3) := by decide +kernel
theorem dX10_harm_9 : decode cX10_harm 9 = .ok (.ireturn, 1) := by decide +kernel
theorem dX10_kept_0 : decode cX10_kept 0 = .ok (.aload_n 0, 1) := by decide +kernel
theorem dX10_kept_1 : decode cX10_kept 1 = .ok (.iconst 0, 1) := by decide +kernel
theorem dX10_kept_2 : decode cX10_kept 2 = .ok (.putfield 102, 3) := by decide +kernel
theorem dX10_kept_5 : decode cX10_kept 5 = .ok (.iconst 1, 1) := by decide +kernel
theorem dX10_kept_6 : decode cX10_kept 6 = .ok (.istore_n 1, 1) := by decide +kernel
theorem dX10_kept_7 : decode cX10_kept 7 = .ok (.iconst 0, 1) := by decide +kernel
theorem dX10_kept_8 : decode cX10_kept 8 = .ok (.istore_n 2, 1) := by decide +kernel
theorem dX10_kept_9 : decode cX10_kept 9 = .ok (.iload_n 2, 1) := by decide +kernel
theorem dX10_kept_10 : decode cX10_kept 10 = .ok (.aload_n 0, 1) := by decide +kernel
theorem dX10_kept_11 : decode cX10_kept 11 = .ok (.getfield 108, 3) := by decide +kernel
theorem dX10_kept_14 : decode cX10_kept 14 = .ok (.if_icmp .ge 28, 3) := by decide +kernel
theorem dX10_kept_17 : decode cX10_kept 17 = .ok (.iload_n 1, 1) := by decide +kernel
theorem dX10_kept_18 : decode cX10_kept 18 = .ok (.ifCond .eq 16, 3) := by decide +kernel
theorem dX10_kept_21 : decode cX10_kept 21 = .ok (.aload_n 0, 1) := by decide +kernel
theorem dX10_kept_22 : decode cX10_kept 22 = .ok (.getfield 40, 3) := by decide +kernel
theorem dX10_kept_25 : decode cX10_kept 25 = .ok (.iload_n 2, 1) := by decide +kernel
theorem dX10_kept_26 : decode cX10_kept 26 = .ok (.iaload, 1) := by decide +kernel
theorem dX10_kept_27 : decode cX10_kept 27 = .ok (.ifCond .lt 7, 3) := by decide +kernel
theorem dX10_kept_30 : decode cX10_kept 30 = .ok (.iconst 1, 1) := by decide +kernel
theorem dX10_kept_31 : decode cX10_kept 31 = .ok (.goto 4, 3) := by decide +kernel
theorem dX10_kept_34 : decode cX10_kept 34 = .ok (.iconst 0, 1) := by decide +kernel
theorem dX10_kept_35 : decode cX10_kept 35 = .ok (.istore_n 1, 1) := by decide +kernel
theorem dX10_kept_36 : decode cX10_kept 36 = .ok (.iinc 2 1, 3) := by decide +kernel
theorem dX10_kept_39 : decode cX10_kept 39 = .ok (.goto (-30), 3) := by decide +kernel
theorem dX10_kept_42 : decode cX10_kept 42 = .ok (.iload_n 1, 1) := by decide +kernel
theorem dX10_kept_43 : decode cX10_kept 43 = .ok (.ifCond .eq 14, 3) := by decide +kernel
theorem dX10_kept_46 : decode cX10_kept 46 = .ok (.aload_n 0, 1) := by decide +kernel
theorem dX10_kept_47 : decode cX10_kept 47 = .ok (.invokevirtual 199, 3) := by decide +kernel
theorem dX10_kept_50 : decode cX10_kept 50 = .ok (.ifCond .ne 7, 3) := by decide +kernel
theorem dX10_kept_53 : decode cX10_kept 53 = .ok (.iconst 1, 1) := by decide +kernel
theorem dX10_kept_54 : decode cX10_kept 54 = .ok (.goto 4, 3) := by decide +kernel
theorem dX10_kept_57 : decode cX10_kept 57 = .ok (.iconst 0, 1) := by decide +kernel
theorem dX10_kept_58 : decode cX10_kept 58 = .ok (.ireturn, 1) := by decide +kernel
theorem dX10_broken_0 : decode cX10_broken 0 = .ok (.aload_n 0, 1) := by decide +kernel
theorem dX10_broken_1 : decode cX10_broken 1 = .ok (.iconst 0, 1) := by decide +kernel
theorem dX10_broken_2 : decode cX10_broken 2 = .ok (.putfield 102, 3) := by decide +kernel
theorem dX10_broken_5 : decode cX10_broken 5 = .ok (.iload_n 1, 1) := by decide +kernel
theorem dX10_broken_6 : decode cX10_broken 6 = .ok (.i2l, 1) := by decide +kernel
theorem dX10_broken_7 : decode cX10_broken 7 = .ok (.lconst 0, 1) := by decide +kernel
theorem dX10_broken_8 : decode cX10_broken 8 = .ok (.ldc2_w 118, 3) := by decide +kernel
theorem dX10_broken_11 : decode cX10_broken 11 = .ok (.invokestatic 113, 3) := by decide +kernel
theorem dX10_broken_14 : decode cX10_broken 14 = .ok (.ifCond .eq 11, 3) := by decide +kernel
theorem dX10_broken_17 : decode cX10_broken 17 = .ok (.aload_n 0, 1) := by decide +kernel
theorem dX10_broken_18 : decode cX10_broken 18 = .ok (.iload_n 1, 1) := by decide +kernel
theorem dX10_broken_19 : decode cX10_broken 19 = .ok (.invokevirtual 196, 3) := by decide +kernel
theorem dX10_broken_22 : decode cX10_broken 22 = .ok (.goto 4, 3) := by decide +kernel
theorem dX10_broken_25 : decode cX10_broken 25 = .ok (.iconst (-1), 1) := by decide +kernel
theorem dX10_broken_26 : decode cX10_broken 26 = .ok (.ireturn, 1) := by decide +kernel
theorem dX10_pair_0 : decode cX10_pair 0 = .ok (.aload_n 0, 1) := by decide +kernel
theorem dX10_pair_1 : decode cX10_pair 1 = .ok (.iconst 0, 1) := by decide +kernel
theorem dX10_pair_2 : decode cX10_pair 2 = .ok (.putfield 102, 3) := by decide +kernel
theorem dX10_pair_5 : decode cX10_pair 5 = .ok (.iload_n 1, 1) := by decide +kernel
theorem dX10_pair_6 : decode cX10_pair 6 = .ok (.ifCond .lt 15, 3) := by decide +kernel
theorem dX10_pair_9 : decode cX10_pair 9 = .ok (.iload_n 2, 1) := by decide +kernel
theorem dX10_pair_10 : decode cX10_pair 10 = .ok (.i2l, 1) := by decide +kernel
theorem dX10_pair_11 : decode cX10_pair 11 = .ok (.lconst 0, 1) := by decide +kernel
theorem dX10_pair_12 : decode cX10_pair 12 = .ok (.ldc2_w 203, 3) := by decide +kernel
theorem dX10_pair_15 : decode cX10_pair 15 = .ok (.invokestatic 113, 3) := by decide +kernel
theorem dX10_pair_18 : decode cX10_pair 18 = .ok (.ifCond .ne 5, 3) := by decide +kernel
theorem dX10_pair_21 : decode cX10_pair 21 = .ok (.iconst (-1), 1) := by decide +kernel
theorem dX10_pair_22 : decode cX10_pair 22 = .ok (.ireturn, 1) := by decide +kernel
theorem dX10_pair_23 : decode cX10_pair 23 = .ok (.iconst 0, 1) := by decide +kernel
theorem dX10_pair_24 : decode cX10_pair 24 = .ok (.istore_n 3, 1) := by decide +kernel
theorem dX10_pair_25 : decode cX10_pair 25 = .ok (.iconst 0, 1) := by decide +kernel
theorem dX10_pair_26 : decode cX10_pair 26 = .ok (.istore 4, 2) := by decide +kernel
theorem dX10_pair_28 : decode cX10_pair 28 = .ok (.iload 4, 2) := by decide +kernel
theorem dX10_pair_30 : decode cX10_pair 30 = .ok (.aload_n 0, 1) := by decide +kernel
theorem dX10_pair_31 : decode cX10_pair 31 = .ok (.getfield 108, 3) := by decide +kernel
theorem dX10_pair_34 : decode cX10_pair 34 = .ok (.if_icmp .ge 85, 3) := by decide +kernel
theorem dX10_pair_37 : decode cX10_pair 37 = .ok (.iload 4, 2) := by decide +kernel
theorem dX10_pair_39 : decode cX10_pair 39 = .ok (.iconst 1, 1) := by decide +kernel
theorem dX10_pair_40 : decode cX10_pair 40 = .ok (.iadd, 1) := by decide +kernel
theorem dX10_pair_41 : decode cX10_pair 41 = .ok (.istore 5, 2) := by decide +kernel
theorem dX10_pair_43 : decode cX10_pair 43 = .ok (.iload 5, 2) := by decide +kernel
theorem dX10_pair_45 : decode cX10_pair 45 = .ok (.aload_n 0, 1) := by decide +kernel
theorem dX10_pair_46 : decode cX10_pair 46 = .ok (.getfield 108, 3) := by decide +kernel
theorem dX10_pair_49 : decode cX10_pair 49 = .ok (.if_icmp .ge 64, 3) := by decide +kernel
theorem dX10_pair_52 : decode cX10_pair 52 = .ok (.aload_n 0, 1) := by decide +kernel
theorem dX10_pair_53 : decode cX10_pair 53 = .ok (.iload 4, 2) := by decide +kernel
theorem dX10_pair_55 : decode cX10_pair 55 = .ok (.iload 5, 2) := by decide +kernel
theorem dX10_pair_57 : decode cX10_pair 57 = .ok (.invokevirtual 185, 3) := by decide +kernel
theorem dX10_pair_60 : decode cX10_pair 60 = .ok (.istore 6, 2) := by decide +kernel
theorem dX10_pair_62 : decode cX10_pair 62 = .ok (.iload 6, 2) := by decide +kernel
theorem dX10_pair_64 : decode cX10_pair 64 = .ok (.ifCond .le 30, 3) := by decide +kernel
theorem dX10_pair_67 : decode cX10_pair 67 = .ok (.iload_n 3, 1) := by decide +kernel
theorem dX10_pair_68 : decode cX10_pair 68 = .ok (.iload_n 1, 1) := by decide +kernel
theorem dX10_pair_69 : decode cX10_pair 69 = .ok (.if_icmp .ne 25, 3) := by decide +kernel
theorem dX10_pair_72 : decode cX10_pair 72 = .ok (.iload_n 2, 1) := by decide +kernel
theorem dX10_pair_73 : decode cX10_pair 73 = .ok (.ifCond .ne 8, 3) := by decide +kernel
theorem dX10_pair_76 : decode cX10_pair 76 = .ok (.iload 4, 2) := by decide +kernel
theorem dX10_pair_78 : decode cX10_pair 78 = .ok (.goto 15, 3) := by decide +kernel
theorem dX10_pair_81 : decode cX10_pair 81 = .ok (.iload_n 2, 1) := by decide +kernel
theorem dX10_pair_82 : decode cX10_pair 82 = .ok (.iconst 1, 1) := by decide +kernel
theorem dX10_pair_83 : decode cX10_pair 83 = .ok (.if_icmp .ne 8, 3) := by decide +kernel
theorem dX10_pair_86 : decode cX10_pair 86 = .ok (.iload 5, 2) := by decide +kernel
theorem dX10_pair_88 : decode cX10_pair 88 = .ok (.goto 5, 3) := by decide +kernel
theorem dX10_pair_91 : decode cX10_pair 91 = .ok (.iload 6, 2) := by decide +kernel
theorem dX10_pair_93 : decode cX10_pair 93 = .ok (.ireturn, 1) := by decide +kernel
theorem dX10_pair_94 : decode cX10_pair 94 = .ok (.iload_n 3, 1) := by decide +kernel
theorem dX10_pair_95 : decode cX10_pair 95 = .ok (.iload 6, 2) := by decide +kernel
theorem dX10_pair_97 : decode cX10_pair 97 = .ok (.ifCond .le 7, 3) := by decide +kernel
theorem dX10_pair_100 : decode cX10_pair 100 = .ok (.iconst 1, 1) := by decide +kernel
theorem dX10_pair_101 : decode cX10_pair 101 = .ok (.goto 4, 3) := by decide +kernel
theorem dX10_pair_104 : decode cX10_pair 104 = .ok (.iconst 0, 1) := by decide +kernel
theorem dX10_pair_105 : decode cX10_pair 105 = .ok (.iadd, 1) := by decide +kernel
theorem dX10_pair_106 : decode cX10_pair 106 = .ok (.istore_n 3, 1) := by decide +kernel
theorem dX10_pair_107 : decode cX10_pair 107 = .ok (.iinc 5 1, 3) := by decide +kernel
theorem dX10_pair_110 : decode cX10_pair 110 = .ok (.goto (-67), 3) := by decide +kernel
theorem dX10_pair_113 : decode cX10_pair 113 = .ok (.iinc 4 1, 3) := by decide +kernel
theorem dX10_pair_116 : decode cX10_pair 116 = .ok (.goto (-88), 3) := by decide +kernel
theorem dX10_pair_119 : decode cX10_pair 119 = .ok (.iconst (-1), 1) := by decide +kernel
theorem dX10_pair_120 : decode cX10_pair 120 = .ok (.ireturn, 1) := by decide +kernel
theorem dX10_isFine_0 : decode cX10_isFine 0 = .ok (.iconst 0, 1) := by decide +kernel
theorem dX10_isFine_1 : decode cX10_isFine 1 = .ok (.istore_n 2, 1) := by decide +kernel
theorem dX10_isFine_2 : decode cX10_isFine 2 = .ok (.iload_n 2, 1) := by decide +kernel
theorem dX10_isFine_3 : decode cX10_isFine 3 = .ok (.iload_n 1, 1) := by decide +kernel
theorem dX10_isFine_4 : decode cX10_isFine 4 = .ok (.if_icmp .ge 86, 3) := by decide +kernel
theorem dX10_isFine_7 : decode cX10_isFine 7 = .ok (.aload_n 0, 1) := by decide +kernel
theorem dX10_isFine_8 : decode cX10_isFine 8 = .ok (.iload_n 2, 1) := by decide +kernel
theorem dX10_isFine_9 : decode cX10_isFine 9 = .ok (.iload_n 1, 1) := by decide +kernel
theorem dX10_isFine_10 : decode cX10_isFine 10 = .ok (.invokevirtual 185, 3) := by decide +kernel
theorem dX10_isFine_13 : decode cX10_isFine 13 = .ok (.ifCond .le 5, 3) := by decide +kernel
theorem dX10_isFine_16 : decode cX10_isFine 16 = .ok (.iconst 0, 1) := by decide +kernel
theorem dX10_isFine_17 : decode cX10_isFine 17 = .ok (.ireturn, 1) := by decide +kernel
theorem dX10_isFine_18 : decode cX10_isFine 18 = .ok (.iconst 0, 1) := by decide +kernel
theorem dX10_isFine_19 : decode cX10_isFine 19 = .ok (.istore_n 3, 1) := by decide +kernel
theorem dX10_isFine_20 : decode cX10_isFine 20 = .ok (.iload_n 3, 1) := by decide +kernel
theorem dX10_isFine_21 : decode cX10_isFine 21 = .ok (.iload_n 2, 1) := by decide +kernel
theorem dX10_isFine_22 : decode cX10_isFine 22 = .ok (.if_icmp .ge 62, 3) := by decide +kernel
theorem dX10_isFine_25 : decode cX10_isFine 25 = .ok (.aload_n 0, 1) := by decide +kernel
theorem dX10_isFine_26 : decode cX10_isFine 26 = .ok (.aload_n 0, 1) := by decide +kernel
theorem dX10_isFine_27 : decode cX10_isFine 27 = .ok (.getfield 34, 3) := by decide +kernel
theorem dX10_isFine_30 : decode cX10_isFine 30 = .ok (.iload_n 3, 1) := by decide +kernel
theorem dX10_isFine_31 : decode cX10_isFine 31 = .ok (.iaload, 1) := by decide +kernel
theorem dX10_isFine_32 : decode cX10_isFine 32 = .ok (.aload_n 0, 1) := by decide +kernel
theorem dX10_isFine_33 : decode cX10_isFine 33 = .ok (.getfield 34, 3) := by decide +kernel
theorem dX10_isFine_36 : decode cX10_isFine 36 = .ok (.iload_n 2, 1) := by decide +kernel
theorem dX10_isFine_37 : decode cX10_isFine 37 = .ok (.iaload, 1) := by decide +kernel
theorem dX10_isFine_38 : decode cX10_isFine 38 = .ok (.aload_n 0, 1) := by decide +kernel
theorem dX10_isFine_39 : decode cX10_isFine 39 = .ok (.getfield 34, 3) := by decide +kernel
theorem dX10_isFine_42 : decode cX10_isFine 42 = .ok (.iload_n 1, 1) := by decide +kernel
theorem dX10_isFine_43 : decode cX10_isFine 43 = .ok (.iaload, 1) := by decide +kernel
theorem dX10_isFine_44 : decode cX10_isFine 44 = .ok (.invokevirtual 188, 3) := by decide +kernel
theorem dX10_isFine_47 : decode cX10_isFine 47 = .ok (.ifCond .eq 31, 3) := by decide +kernel
theorem dX10_isFine_50 : decode cX10_isFine 50 = .ok (.aload_n 0, 1) := by decide +kernel
theorem dX10_isFine_51 : decode cX10_isFine 51 = .ok (.iload_n 3, 1) := by decide +kernel
theorem dX10_isFine_52 : decode cX10_isFine 52 = .ok (.iload_n 2, 1) := by decide +kernel
theorem dX10_isFine_53 : decode cX10_isFine 53 = .ok (.iload_n 1, 1) := by decide +kernel
theorem dX10_isFine_54 : decode cX10_isFine 54 = .ok (.invokevirtual 192, 3) := by decide +kernel
theorem dX10_isFine_57 : decode cX10_isFine 57 = .ok (.aload_n 0, 1) := by decide +kernel
theorem dX10_isFine_58 : decode cX10_isFine 58 = .ok (.iload_n 2, 1) := by decide +kernel
theorem dX10_isFine_59 : decode cX10_isFine 59 = .ok (.iload_n 3, 1) := by decide +kernel
theorem dX10_isFine_60 : decode cX10_isFine 60 = .ok (.iload_n 1, 1) := by decide +kernel
theorem dX10_isFine_61 : decode cX10_isFine 61 = .ok (.invokevirtual 192, 3) := by decide +kernel
theorem dX10_isFine_64 : decode cX10_isFine 64 = .ok (.iadd, 1) := by decide +kernel
theorem dX10_isFine_65 : decode cX10_isFine 65 = .ok (.aload_n 0, 1) := by decide +kernel
theorem dX10_isFine_66 : decode cX10_isFine 66 = .ok (.iload_n 1, 1) := by decide +kernel
theorem dX10_isFine_67 : decode cX10_isFine 67 = .ok (.iload_n 3, 1) := by decide +kernel
theorem dX10_isFine_68 : decode cX10_isFine 68 = .ok (.iload_n 2, 1) := by decide +kernel
theorem dX10_isFine_69 : decode cX10_isFine 69 = .ok (.invokevirtual 192, 3) := by decide +kernel
theorem dX10_isFine_72 : decode cX10_isFine 72 = .ok (.iadd, 1) := by decide +kernel
theorem dX10_isFine_73 : decode cX10_isFine 73 = .ok (.ifCond .le 5, 3) := by decide +kernel
theorem dX10_isFine_76 : decode cX10_isFine 76 = .ok (.iconst 0, 1) := by decide +kernel
theorem dX10_isFine_77 : decode cX10_isFine 77 = .ok (.ireturn, 1) := by decide +kernel
theorem dX10_isFine_78 : decode cX10_isFine 78 = .ok (.iinc 3 1, 3) := by decide +kernel
theorem dX10_isFine_81 : decode cX10_isFine 81 = .ok (.goto (-61), 3) := by decide +kernel
theorem dX10_isFine_84 : decode cX10_isFine 84 = .ok (.iinc 2 1, 3) := by decide +kernel
theorem dX10_isFine_87 : decode cX10_isFine 87 = .ok (.goto (-85), 3) := by decide +kernel
theorem dX10_isFine_90 : decode cX10_isFine 90 = .ok (.iconst 1, 1) := by decide +kernel
theorem dX10_isFine_91 : decode cX10_isFine 91 = .ok (.ireturn, 1) := by decide +kernel
theorem dX10_isTaken_0 : decode cX10_isTaken 0 = .ok (.aload_n 0, 1) := by decide +kernel
theorem dX10_isTaken_1 : decode cX10_isTaken 1 = .ok (.getfield 34, 3) := by decide +kernel
theorem dX10_isTaken_4 : decode cX10_isTaken 4 = .ok (.iload_n 1, 1) := by decide +kernel
theorem dX10_isTaken_5 : decode cX10_isTaken 5 = .ok (.iaload, 1) := by decide +kernel
theorem dX10_isTaken_6 : decode cX10_isTaken 6 = .ok (.istore 4, 2) := by decide +kernel
theorem dX10_isTaken_8 : decode cX10_isTaken 8 = .ok (.aload_n 0, 1) := by decide +kernel
theorem dX10_isTaken_9 : decode cX10_isTaken 9 = .ok (.iload_n 1, 1) := by decide +kernel
theorem dX10_isTaken_10 : decode cX10_isTaken 10 = .ok (.iload_n 2, 1) := by decide +kernel
theorem dX10_isTaken_11 : decode cX10_isTaken 11 = .ok (.invokevirtual 176, 3) := by decide +kernel
theorem dX10_isTaken_14 : decode cX10_isTaken 14 = .ok (.ifCond .eq 50, 3) := by decide +kernel
theorem dX10_isTaken_17 : decode cX10_isTaken 17 = .ok (.aload_n 0, 1) := by decide +kernel
theorem dX10_isTaken_18 : decode cX10_isTaken 18 = .ok (.getfield 7, 3) := by decide +kernel
theorem dX10_isTaken_21 : decode cX10_isTaken 21 = .ok (.iload 4, 2) := by decide +kernel
theorem dX10_isTaken_23 : decode cX10_isTaken 23 = .ok (.iaload, 1) := by decide +kernel
theorem dX10_isTaken_24 : decode cX10_isTaken 24 = .ok (.iconst 1, 1) := by decide +kernel
theorem dX10_isTaken_25 : decode cX10_isTaken 25 = .ok (.if_icmp .ne 16, 3) := by decide +kernel
theorem dX10_isTaken_28 : decode cX10_isTaken 28 = .ok (.iload_n 2, 1) := by decide +kernel
theorem dX10_isTaken_29 : decode cX10_isTaken 29 = .ok (.aload_n 0, 1) := by decide +kernel
theorem dX10_isTaken_30 : decode cX10_isTaken 30 = .ok (.getfield 31, 3) := by decide +kernel
theorem dX10_isTaken_33 : decode cX10_isTaken 33 = .ok (.iload 4, 2) := by decide +kernel
theorem dX10_isTaken_35 : decode cX10_isTaken 35 = .ok (.iaload, 1) := by decide +kernel
theorem dX10_isTaken_36 : decode cX10_isTaken 36 = .ok (.iadd, 1) := by decide +kernel
theorem dX10_isTaken_37 : decode cX10_isTaken 37 = .ok (.iload_n 3, 1) := by decide +kernel
theorem dX10_isTaken_38 : decode cX10_isTaken 38 = .ok (.if_icmp .ge 26, 3) := by decide +kernel
theorem dX10_isTaken_41 : decode cX10_isTaken 41 = .ok (.iload_n 1, 1) := by decide +kernel
theorem dX10_isTaken_42 : decode cX10_isTaken 42 = .ok (.aload_n 0, 1) := by decide +kernel
theorem dX10_isTaken_43 : decode cX10_isTaken 43 = .ok (.getfield 25, 3) := by decide +kernel
theorem dX10_isTaken_46 : decode cX10_isTaken 46 = .ok (.iload 4, 2) := by decide +kernel
theorem dX10_isTaken_48 : decode cX10_isTaken 48 = .ok (.iaload, 1) := by decide +kernel
theorem dX10_isTaken_49 : decode cX10_isTaken 49 = .ok (.if_icmp .le 17, 3) := by decide +kernel
theorem dX10_isTaken_52 : decode cX10_isTaken 52 = .ok (.iload_n 2, 1) := by decide +kernel
theorem dX10_isTaken_53 : decode cX10_isTaken 53 = .ok (.aload_n 0, 1) := by decide +kernel
theorem dX10_isTaken_54 : decode cX10_isTaken 54 = .ok (.getfield 40, 3) := by decide +kernel
theorem dX10_isTaken_57 : decode cX10_isTaken 57 = .ok (.iload_n 1, 1) := by decide +kernel
theorem dX10_isTaken_58 : decode cX10_isTaken 58 = .ok (.iconst 1, 1) := by decide +kernel
theorem dX10_isTaken_59 : decode cX10_isTaken 59 = .ok (.isub, 1) := by decide +kernel
theorem dX10_isTaken_60 : decode cX10_isTaken 60 = .ok (.iaload, 1) := by decide +kernel
theorem dX10_isTaken_61 : decode cX10_isTaken 61 = .ok (.if_icmp .gt 5, 3) := by decide +kernel
theorem dX10_isTaken_64 : decode cX10_isTaken 64 = .ok (.iconst 0, 1) := by decide +kernel
theorem dX10_isTaken_65 : decode cX10_isTaken 65 = .ok (.ireturn, 1) := by decide +kernel
theorem dX10_isTaken_66 : decode cX10_isTaken 66 = .ok (.aload_n 0, 1) := by decide +kernel
theorem dX10_isTaken_67 : decode cX10_isTaken 67 = .ok (.getfield 40, 3) := by decide +kernel
theorem dX10_isTaken_70 : decode cX10_isTaken 70 = .ok (.iload_n 1, 1) := by decide +kernel
theorem dX10_isTaken_71 : decode cX10_isTaken 71 = .ok (.iload_n 2, 1) := by decide +kernel
theorem dX10_isTaken_72 : decode cX10_isTaken 72 = .ok (.iastore, 1) := by decide +kernel
theorem dX10_isTaken_73 : decode cX10_isTaken 73 = .ok (.aload_n 0, 1) := by decide +kernel
theorem dX10_isTaken_74 : decode cX10_isTaken 74 = .ok (.iload_n 1, 1) := by decide +kernel
theorem dX10_isTaken_75 : decode cX10_isTaken 75 = .ok (.invokevirtual 205, 3) := by decide +kernel
theorem dX10_isTaken_78 : decode cX10_isTaken 78 = .ok (.istore 5, 2) := by decide +kernel
theorem dX10_isTaken_80 : decode cX10_isTaken 80 = .ok (.aload_n 0, 1) := by decide +kernel
theorem dX10_isTaken_81 : decode cX10_isTaken 81 = .ok (.getfield 40, 3) := by decide +kernel
theorem dX10_isTaken_84 : decode cX10_isTaken 84 = .ok (.iload_n 1, 1) := by decide +kernel
theorem dX10_isTaken_85 : decode cX10_isTaken 85 = .ok (.iload 5, 2) := by decide +kernel
theorem dX10_isTaken_87 : decode cX10_isTaken 87 = .ok (.ifCond .eq 7, 3) := by decide +kernel
theorem dX10_isTaken_90 : decode cX10_isTaken 90 = .ok (.iload_n 2, 1) := by decide +kernel
theorem dX10_isTaken_91 : decode cX10_isTaken 91 = .ok (.goto 5, 3) := by decide +kernel
theorem dX10_isTaken_94 : decode cX10_isTaken 94 = .ok (.bipush (-2), 2) := by decide +kernel
theorem dX10_isTaken_96 : decode cX10_isTaken 96 = .ok (.iastore, 1) := by decide +kernel
theorem dX10_isTaken_97 : decode cX10_isTaken 97 = .ok (.iload 5, 2) := by decide +kernel
theorem dX10_isTaken_99 : decode cX10_isTaken 99 = .ok (.ireturn, 1) := by decide +kernel
theorem dX10_tryBelow_0 : decode cX10_tryBelow 0 = .ok (.iconst 0, 1) := by decide +kernel
theorem dX10_tryBelow_1 : decode cX10_tryBelow 1 = .ok (.istore_n 2, 1) := by decide +kernel
theorem dX10_tryBelow_2 : decode cX10_tryBelow 2 = .ok (.iload_n 2, 1) := by decide +kernel
theorem dX10_tryBelow_3 : decode cX10_tryBelow 3 = .ok (.aload_n 0, 1) := by decide +kernel
theorem dX10_tryBelow_4 : decode cX10_tryBelow 4 = .ok (.getfield 108, 3) := by decide +kernel
theorem dX10_tryBelow_7 : decode cX10_tryBelow 7 = .ok (.if_icmp .ge 17, 3) := by decide +kernel
theorem dX10_tryBelow_10 : decode cX10_tryBelow 10 = .ok (.aload_n 0, 1) := by decide +kernel
theorem dX10_tryBelow_11 : decode cX10_tryBelow 11 = .ok (.getfield 40, 3) := by decide +kernel
theorem dX10_tryBelow_14 : decode cX10_tryBelow 14 = .ok (.iload_n 2, 1) := by decide +kernel
theorem dX10_tryBelow_15 : decode cX10_tryBelow 15 = .ok (.bipush (-2), 2) := by decide +kernel
theorem dX10_tryBelow_17 : decode cX10_tryBelow 17 = .ok (.iastore, 1) := by decide +kernel
theorem dX10_tryBelow_18 : decode cX10_tryBelow 18 = .ok (.iinc 2 1, 3) := by decide +kernel
theorem dX10_tryBelow_21 : decode cX10_tryBelow 21 = .ok (.goto (-19), 3) := by decide +kernel
theorem dX10_tryBelow_24 : decode cX10_tryBelow 24 = .ok (.iconst 0, 1) := by decide +kernel
theorem dX10_tryBelow_25 : decode cX10_tryBelow 25 = .ok (.istore_n 2, 1) := by decide +kernel
theorem dX10_tryBelow_26 : decode cX10_tryBelow 26 = .ok (.iconst 0, 1) := by decide +kernel
theorem dX10_tryBelow_27 : decode cX10_tryBelow 27 = .ok (.istore_n 3, 1) := by decide +kernel
theorem dX10_tryBelow_28 : decode cX10_tryBelow 28 = .ok (.iload_n 2, 1) := by decide +kernel
theorem dX10_tryBelow_29 : decode cX10_tryBelow 29 = .ok (.ifCond .lt 116, 3) := by decide +kernel
theorem dX10_tryBelow_32 : decode cX10_tryBelow 32 = .ok (.iload_n 2, 1) := by decide +kernel
theorem dX10_tryBelow_33 : decode cX10_tryBelow 33 = .ok (.aload_n 0, 1) := by decide +kernel
theorem dX10_tryBelow_34 : decode cX10_tryBelow 34 = .ok (.getfield 108, 3) := by decide +kernel
theorem dX10_tryBelow_37 : decode cX10_tryBelow 37 = .ok (.if_icmp .ge 108, 3) := by decide +kernel
theorem dX10_tryBelow_40 : decode cX10_tryBelow 40 = .ok (.aload_n 0, 1) := by decide +kernel
theorem dX10_tryBelow_41 : decode cX10_tryBelow 41 = .ok (.getfield 208, 3) := by decide +kernel
theorem dX10_tryBelow_44 : decode cX10_tryBelow 44 = .ok (.ifCond .ne 101, 3) := by decide +kernel
theorem dX10_tryBelow_47 : decode cX10_tryBelow 47 = .ok (.iload_n 3, 1) := by decide +kernel
theorem dX10_tryBelow_48 : decode cX10_tryBelow 48 = .ok (.iload_n 1, 1) := by decide +kernel
theorem dX10_tryBelow_49 : decode cX10_tryBelow 49 = .ok (.if_icmp .lt 30, 3) := by decide +kernel
theorem dX10_tryBelow_52 : decode cX10_tryBelow 52 = .ok (.iinc 2 (-1), 3) := by decide +kernel
theorem dX10_tryBelow_55 : decode cX10_tryBelow 55 = .ok (.iload_n 2, 1) := by decide +kernel
theorem dX10_tryBelow_56 : decode cX10_tryBelow 56 = .ok (.ifCond .lt (-28), 3) := by decide +kernel
theorem dX10_tryBelow_59 : decode cX10_tryBelow 59 = .ok (.aload_n 0, 1) := by decide +kernel
theorem dX10_tryBelow_60 : decode cX10_tryBelow 60 = .ok (.getfield 40, 3) := by decide +kernel
theorem dX10_tryBelow_63 : decode cX10_tryBelow 63 = .ok (.iload_n 2, 1) := by decide +kernel
theorem dX10_tryBelow_64 : decode cX10_tryBelow 64 = .ok (.iaload, 1) := by decide +kernel
theorem dX10_tryBelow_65 : decode cX10_tryBelow 65 = .ok (.iconst 1, 1) := by decide +kernel
theorem dX10_tryBelow_66 : decode cX10_tryBelow 66 = .ok (.iadd, 1) := by decide +kernel
theorem dX10_tryBelow_67 : decode cX10_tryBelow 67 = .ok (.istore_n 3, 1) := by decide +kernel
theorem dX10_tryBelow_68 : decode cX10_tryBelow 68 = .ok (.aload_n 0, 1) := by decide +kernel
theorem dX10_tryBelow_69 : decode cX10_tryBelow 69 = .ok (.getfield 40, 3) := by decide +kernel
theorem dX10_tryBelow_72 : decode cX10_tryBelow 72 = .ok (.iload_n 2, 1) := by decide +kernel
theorem dX10_tryBelow_73 : decode cX10_tryBelow 73 = .ok (.bipush (-2), 2) := by decide +kernel
theorem dX10_tryBelow_75 : decode cX10_tryBelow 75 = .ok (.iastore, 1) := by decide +kernel
theorem dX10_tryBelow_76 : decode cX10_tryBelow 76 = .ok (.goto (-48), 3) := by decide +kernel
theorem dX10_tryBelow_79 : decode cX10_tryBelow 79 = .ok (.aload_n 0, 1) := by decide +kernel
theorem dX10_tryBelow_80 : decode cX10_tryBelow 80 = .ok (.getfield 212, 3) := by decide +kernel
theorem dX10_tryBelow_83 : decode cX10_tryBelow 83 = .ok (.sipush 4000, 3) := by decide +kernel
theorem dX10_tryBelow_86 : decode cX10_tryBelow 86 = .ok (.if_icmp .ne 11, 3) := by decide +kernel
theorem dX10_tryBelow_89 : decode cX10_tryBelow 89 = .ok (.aload_n 0, 1) := by decide +kernel
theorem dX10_tryBelow_90 : decode cX10_tryBelow 90 = .ok (.iconst 1, 1) := by decide +kernel
theorem dX10_tryBelow_91 : decode cX10_tryBelow 91 = .ok (.putfield 208, 3) := by decide +kernel
theorem dX10_tryBelow_94 : decode cX10_tryBelow 94 = .ok (.goto (-66), 3) := by decide +kernel
theorem dX10_tryBelow_97 : decode cX10_tryBelow 97 = .ok (.aload_n 0, 1) := by decide +kernel
theorem dX10_tryBelow_98 : decode cX10_tryBelow 98 = .ok (.dup, 1) := by decide +kernel
theorem dX10_tryBelow_99 : decode cX10_tryBelow 99 = .ok (.getfield 212, 3) := by decide +kernel
theorem dX10_tryBelow_102 : decode cX10_tryBelow 102 = .ok (.iconst 1, 1) := by decide +kernel
theorem dX10_tryBelow_103 : decode cX10_tryBelow 103 = .ok (.iadd, 1) := by decide +kernel
theorem dX10_tryBelow_104 : decode cX10_tryBelow 104 = .ok (.putfield 212, 3) := by decide +kernel
theorem dX10_tryBelow_107 : decode cX10_tryBelow 107 = .ok (.aload_n 0, 1) := by decide +kernel
theorem dX10_tryBelow_108 : decode cX10_tryBelow 108 = .ok (.iload_n 2, 1) := by decide +kernel
theorem dX10_tryBelow_109 : decode cX10_tryBelow 109 = .ok (.iload_n 3, 1) := by decide +kernel
theorem dX10_tryBelow_110 : decode cX10_tryBelow 110 = .ok (.iload_n 1, 1) := by decide +kernel
theorem dX10_tryBelow_111 : decode cX10_tryBelow 111 = .ok (.invokevirtual 215, 3) := by decide +kernel
theorem dX10_tryBelow_114 : decode cX10_tryBelow 114 = .ok (.istore 4, 2) := by decide +kernel
theorem dX10_tryBelow_116 : decode cX10_tryBelow 116 = .ok (.iload_n 2, 1) := by decide +kernel
theorem dX10_tryBelow_117 : decode cX10_tryBelow 117 = .ok (.iload 4, 2) := by decide +kernel
theorem dX10_tryBelow_119 : decode cX10_tryBelow 119 = .ok (.ifCond .eq 7, 3) := by decide +kernel
theorem dX10_tryBelow_122 : decode cX10_tryBelow 122 = .ok (.iconst 1, 1) := by decide +kernel
theorem dX10_tryBelow_123 : decode cX10_tryBelow 123 = .ok (.goto 4, 3) := by decide +kernel
theorem dX10_tryBelow_126 : decode cX10_tryBelow 126 = .ok (.iconst 0, 1) := by decide +kernel
theorem dX10_tryBelow_127 : decode cX10_tryBelow 127 = .ok (.iadd, 1) := by decide +kernel
theorem dX10_tryBelow_128 : decode cX10_tryBelow 128 = .ok (.istore_n 2, 1) := by decide +kernel
theorem dX10_tryBelow_129 : decode cX10_tryBelow 129 = .ok (.iload 4, 2) := by decide +kernel
theorem dX10_tryBelow_131 : decode cX10_tryBelow 131 = .ok (.ifCond .eq 7, 3) := by decide +kernel
theorem dX10_tryBelow_134 : decode cX10_tryBelow 134 = .ok (.iconst 0, 1) := by decide +kernel
theorem dX10_tryBelow_135 : decode cX10_tryBelow 135 = .ok (.goto 6, 3) := by decide +kernel
theorem dX10_tryBelow_138 : decode cX10_tryBelow 138 = .ok (.iload_n 3, 1) := by decide +kernel
theorem dX10_tryBelow_139 : decode cX10_tryBelow 139 = .ok (.iconst 1, 1) := by decide +kernel
theorem dX10_tryBelow_140 : decode cX10_tryBelow 140 = .ok (.iadd, 1) := by decide +kernel
theorem dX10_tryBelow_141 : decode cX10_tryBelow 141 = .ok (.istore_n 3, 1) := by decide +kernel
theorem dX10_tryBelow_142 : decode cX10_tryBelow 142 = .ok (.goto (-114), 3) := by decide +kernel
theorem dX10_tryBelow_145 : decode cX10_tryBelow 145 = .ok (.iload_n 2, 1) := by decide +kernel
theorem dX10_tryBelow_146 : decode cX10_tryBelow 146 = .ok (.aload_n 0, 1) := by decide +kernel
theorem dX10_tryBelow_147 : decode cX10_tryBelow 147 = .ok (.getfield 108, 3) := by decide +kernel
theorem dX10_tryBelow_150 : decode cX10_tryBelow 150 = .ok (.if_icmp .ne 14, 3) := by decide +kernel
theorem dX10_tryBelow_153 : decode cX10_tryBelow 153 = .ok (.aload_n 0, 1) := by decide +kernel
theorem dX10_tryBelow_154 : decode cX10_tryBelow 154 = .ok (.getfield 208, 3) := by decide +kernel
theorem dX10_tryBelow_157 : decode cX10_tryBelow 157 = .ok (.ifCond .ne 7, 3) := by decide +kernel
theorem dX10_tryBelow_160 : decode cX10_tryBelow 160 = .ok (.iconst 1, 1) := by decide +kernel
theorem dX10_tryBelow_161 : decode cX10_tryBelow 161 = .ok (.goto 4, 3) := by decide +kernel
theorem dX10_tryBelow_164 : decode cX10_tryBelow 164 = .ok (.iconst 0, 1) := by decide +kernel
theorem dX10_tryBelow_165 : decode cX10_tryBelow 165 = .ok (.ireturn, 1) := by decide +kernel
theorem dX10_keepPlan_0 : decode cX10_keepPlan 0 = .ok (.iconst 0, 1) := by decide +kernel
theorem dX10_keepPlan_1 : decode cX10_keepPlan 1 = .ok (.istore_n 1, 1) := by decide +kernel
theorem dX10_keepPlan_2 : decode cX10_keepPlan 2 = .ok (.iload_n 1, 1) := by decide +kernel
theorem dX10_keepPlan_3 : decode cX10_keepPlan 3 = .ok (.aload_n 0, 1) := by decide +kernel
theorem dX10_keepPlan_4 : decode cX10_keepPlan 4 = .ok (.getfield 108, 3) := by decide +kernel
theorem dX10_keepPlan_7 : decode cX10_keepPlan 7 = .ok (.if_icmp .ge 21, 3) := by decide +kernel
theorem dX10_keepPlan_10 : decode cX10_keepPlan 10 = .ok (.aload_n 0, 1) := by decide +kernel
theorem dX10_keepPlan_11 : decode cX10_keepPlan 11 = .ok (.getfield 65, 3) := by decide +kernel
theorem dX10_keepPlan_14 : decode cX10_keepPlan 14 = .ok (.iload_n 1, 1) := by decide +kernel
theorem dX10_keepPlan_15 : decode cX10_keepPlan 15 = .ok (.aload_n 0, 1) := by decide +kernel
theorem dX10_keepPlan_16 : decode cX10_keepPlan 16 = .ok (.getfield 40, 3) := by decide +kernel
theorem dX10_keepPlan_19 : decode cX10_keepPlan 19 = .ok (.iload_n 1, 1) := by decide +kernel
theorem dX10_keepPlan_20 : decode cX10_keepPlan 20 = .ok (.iaload, 1) := by decide +kernel
theorem dX10_keepPlan_21 : decode cX10_keepPlan 21 = .ok (.iastore, 1) := by decide +kernel
theorem dX10_keepPlan_22 : decode cX10_keepPlan 22 = .ok (.iinc 1 1, 3) := by decide +kernel
theorem dX10_keepPlan_25 : decode cX10_keepPlan 25 = .ok (.goto (-23), 3) := by decide +kernel
theorem dX10_keepPlan_28 : decode cX10_keepPlan 28 = .ok (.return_, 1) := by decide +kernel
theorem dX10_givePlan_0 : decode cX10_givePlan 0 = .ok (.iconst 0, 1) := by decide +kernel
theorem dX10_givePlan_1 : decode cX10_givePlan 1 = .ok (.istore_n 1, 1) := by decide +kernel
theorem dX10_givePlan_2 : decode cX10_givePlan 2 = .ok (.iload_n 1, 1) := by decide +kernel
theorem dX10_givePlan_3 : decode cX10_givePlan 3 = .ok (.aload_n 0, 1) := by decide +kernel
theorem dX10_givePlan_4 : decode cX10_givePlan 4 = .ok (.getfield 108, 3) := by decide +kernel
theorem dX10_givePlan_7 : decode cX10_givePlan 7 = .ok (.if_icmp .ge 21, 3) := by decide +kernel
theorem dX10_givePlan_10 : decode cX10_givePlan 10 = .ok (.aload_n 0, 1) := by decide +kernel
theorem dX10_givePlan_11 : decode cX10_givePlan 11 = .ok (.getfield 40, 3) := by decide +kernel
theorem dX10_givePlan_14 : decode cX10_givePlan 14 = .ok (.iload_n 1, 1) := by decide +kernel
theorem dX10_givePlan_15 : decode cX10_givePlan 15 = .ok (.aload_n 0, 1) := by decide +kernel
theorem dX10_givePlan_16 : decode cX10_givePlan 16 = .ok (.getfield 65, 3) := by decide +kernel
theorem dX10_givePlan_19 : decode cX10_givePlan 19 = .ok (.iload_n 1, 1) := by decide +kernel
theorem dX10_givePlan_20 : decode cX10_givePlan 20 = .ok (.iaload, 1) := by decide +kernel
theorem dX10_givePlan_21 : decode cX10_givePlan 21 = .ok (.iastore, 1) := by decide +kernel
theorem dX10_givePlan_22 : decode cX10_givePlan 22 = .ok (.iinc 1 1, 3) := by decide +kernel
theorem dX10_givePlan_25 : decode cX10_givePlan 25 = .ok (.goto (-23), 3) := by decide +kernel
theorem dX10_givePlan_28 : decode cX10_givePlan 28 = .ok (.return_, 1) := by decide +kernel
theorem dX10_plan_0 : decode cX10_plan 0 = .ok (.aload_n 0, 1) := by decide +kernel
theorem dX10_plan_1 : decode cX10_plan 1 = .ok (.iconst 0, 1) := by decide +kernel
theorem dX10_plan_2 : decode cX10_plan 2 = .ok (.putfield 102, 3) := by decide +kernel
theorem dX10_plan_5 : decode cX10_plan 5 = .ok (.iload_n 1, 1) := by decide +kernel
theorem dX10_plan_6 : decode cX10_plan 6 = .ok (.i2l, 1) := by decide +kernel
theorem dX10_plan_7 : decode cX10_plan 7 = .ok (.lconst 1, 1) := by decide +kernel
theorem dX10_plan_8 : decode cX10_plan 8 = .ok (.ldc2_w 218, 3) := by decide +kernel
theorem dX10_plan_11 : decode cX10_plan 11 = .ok (.invokestatic 113, 3) := by decide +kernel
theorem dX10_plan_14 : decode cX10_plan 14 = .ok (.ifCond .ne 5, 3) := by decide +kernel
theorem dX10_plan_17 : decode cX10_plan 17 = .ok (.iconst (-1), 1) := by decide +kernel
theorem dX10_plan_18 : decode cX10_plan 18 = .ok (.ireturn, 1) := by decide +kernel
theorem dX10_plan_19 : decode cX10_plan 19 = .ok (.aload_n 0, 1) := by decide +kernel
theorem dX10_plan_20 : decode cX10_plan 20 = .ok (.invokevirtual 220, 3) := by decide +kernel
theorem dX10_plan_23 : decode cX10_plan 23 = .ok (.aload_n 0, 1) := by decide +kernel
theorem dX10_plan_24 : decode cX10_plan 24 = .ok (.iconst 0, 1) := by decide +kernel
theorem dX10_plan_25 : decode cX10_plan 25 = .ok (.putfield 212, 3) := by decide +kernel
theorem dX10_plan_28 : decode cX10_plan 28 = .ok (.aload_n 0, 1) := by decide +kernel
theorem dX10_plan_29 : decode cX10_plan 29 = .ok (.iconst 0, 1) := by decide +kernel
theorem dX10_plan_30 : decode cX10_plan 30 = .ok (.putfield 208, 3) := by decide +kernel
theorem dX10_plan_33 : decode cX10_plan 33 = .ok (.aload_n 0, 1) := by decide +kernel
theorem dX10_plan_34 : decode cX10_plan 34 = .ok (.iload_n 1, 1) := by decide +kernel
theorem dX10_plan_35 : decode cX10_plan 35 = .ok (.invokevirtual 223, 3) := by decide +kernel
theorem dX10_plan_38 : decode cX10_plan 38 = .ok (.ifCond .eq 5, 3) := by decide +kernel
theorem dX10_plan_41 : decode cX10_plan 41 = .ok (.iconst 1, 1) := by decide +kernel
theorem dX10_plan_42 : decode cX10_plan 42 = .ok (.ireturn, 1) := by decide +kernel
theorem dX10_plan_43 : decode cX10_plan 43 = .ok (.aload_n 0, 1) := by decide +kernel
theorem dX10_plan_44 : decode cX10_plan 44 = .ok (.invokevirtual 226, 3) := by decide +kernel
theorem dX10_plan_47 : decode cX10_plan 47 = .ok (.aload_n 0, 1) := by decide +kernel
theorem dX10_plan_48 : decode cX10_plan 48 = .ok (.getfield 208, 3) := by decide +kernel
theorem dX10_plan_51 : decode cX10_plan 51 = .ok (.ifCond .eq 8, 3) := by decide +kernel
theorem dX10_plan_54 : decode cX10_plan 54 = .ok (.bipush (-2), 2) := by decide +kernel
theorem dX10_plan_56 : decode cX10_plan 56 = .ok (.goto 4, 3) := by decide +kernel
theorem dX10_plan_59 : decode cX10_plan 59 = .ok (.iconst 0, 1) := by decide +kernel
theorem dX10_plan_60 : decode cX10_plan 60 = .ok (.ireturn, 1) := by decide +kernel
theorem dX10_tries_0 : decode cX10_tries 0 = .ok (.aload_n 0, 1) := by decide +kernel
theorem dX10_tries_1 : decode cX10_tries 1 = .ok (.iconst 0, 1) := by decide +kernel
theorem dX10_tries_2 : decode cX10_tries 2 = .ok (.putfield 102, 3) := by decide +kernel
theorem dX10_tries_5 : decode cX10_tries 5 = .ok (.aload_n 0, 1) := by decide +kernel
theorem dX10_tries_6 : decode cX10_tries 6 = .ok (.getfield 212, 3) := by decide +kernel
theorem dX10_tries_9 : decode cX10_tries 9 = .ok (.ireturn, 1) := by decide +kernel
theorem dX10_least_0 : decode cX10_least 0 = .ok (.aload_n 0, 1) := by decide +kernel
theorem dX10_least_1 : decode cX10_least 1 = .ok (.iconst 0, 1) := by decide +kernel
theorem dX10_least_2 : decode cX10_least 2 = .ok (.putfield 102, 3) := by decide +kernel
theorem dX10_least_5 : decode cX10_least 5 = .ok (.aload_n 0, 1) := by decide +kernel
theorem dX10_least_6 : decode cX10_least 6 = .ok (.invokevirtual 220, 3) := by decide +kernel
theorem dX10_least_9 : decode cX10_least 9 = .ok (.aload_n 0, 1) := by decide +kernel
theorem dX10_least_10 : decode cX10_least 10 = .ok (.iconst 0, 1) := by decide +kernel
theorem dX10_least_11 : decode cX10_least 11 = .ok (.putfield 212, 3) := by decide +kernel
theorem dX10_least_14 : decode cX10_least 14 = .ok (.aload_n 0, 1) := by decide +kernel
theorem dX10_least_15 : decode cX10_least 15 = .ok (.iconst 0, 1) := by decide +kernel
theorem dX10_least_16 : decode cX10_least 16 = .ok (.putfield 208, 3) := by decide +kernel
theorem dX10_least_19 : decode cX10_least 19 = .ok (.iconst 1, 1) := by decide +kernel
theorem dX10_least_20 : decode cX10_least 20 = .ok (.istore_n 1, 1) := by decide +kernel
theorem dX10_least_21 : decode cX10_least 21 = .ok (.iload_n 1, 1) := by decide +kernel
theorem dX10_least_22 : decode cX10_least 22 = .ok (.bipush 30, 2) := by decide +kernel
theorem dX10_least_24 : decode cX10_least 24 = .ok (.if_icmp .gt 26, 3) := by decide +kernel
theorem dX10_least_27 : decode cX10_least 27 = .ok (.aload_n 0, 1) := by decide +kernel
theorem dX10_least_28 : decode cX10_least 28 = .ok (.getfield 208, 3) := by decide +kernel
theorem dX10_least_31 : decode cX10_least 31 = .ok (.ifCond .ne 19, 3) := by decide +kernel
theorem dX10_least_34 : decode cX10_least 34 = .ok (.aload_n 0, 1) := by decide +kernel
theorem dX10_least_35 : decode cX10_least 35 = .ok (.iload_n 1, 1) := by decide +kernel
theorem dX10_least_36 : decode cX10_least 36 = .ok (.invokevirtual 223, 3) := by decide +kernel
theorem dX10_least_39 : decode cX10_least 39 = .ok (.ifCond .eq 5, 3) := by decide +kernel
theorem dX10_least_42 : decode cX10_least 42 = .ok (.iload_n 1, 1) := by decide +kernel
theorem dX10_least_43 : decode cX10_least 43 = .ok (.ireturn, 1) := by decide +kernel
theorem dX10_least_44 : decode cX10_least 44 = .ok (.iinc 1 1, 3) := by decide +kernel
theorem dX10_least_47 : decode cX10_least 47 = .ok (.goto (-26), 3) := by decide +kernel
theorem dX10_least_50 : decode cX10_least 50 = .ok (.aload_n 0, 1) := by decide +kernel
theorem dX10_least_51 : decode cX10_least 51 = .ok (.invokevirtual 226, 3) := by decide +kernel
theorem dX10_least_54 : decode cX10_least 54 = .ok (.aload_n 0, 1) := by decide +kernel
theorem dX10_least_55 : decode cX10_least 55 = .ok (.getfield 208, 3) := by decide +kernel
theorem dX10_least_58 : decode cX10_least 58 = .ok (.ifCond .eq 8, 3) := by decide +kernel
theorem dX10_least_61 : decode cX10_least 61 = .ok (.bipush (-2), 2) := by decide +kernel
theorem dX10_least_63 : decode cX10_least 63 = .ok (.goto 5, 3) := by decide +kernel
theorem dX10_least_66 : decode cX10_least 66 = .ok (.bipush (-3), 2) := by decide +kernel
theorem dX10_least_68 : decode cX10_least 68 = .ok (.ireturn, 1) := by decide +kernel
theorem dX10_span_0 : decode cX10_span 0 = .ok (.aload_n 0, 1) := by decide +kernel
theorem dX10_span_1 : decode cX10_span 1 = .ok (.iconst 0, 1) := by decide +kernel
theorem dX10_span_2 : decode cX10_span 2 = .ok (.putfield 102, 3) := by decide +kernel
theorem dX10_span_5 : decode cX10_span 5 = .ok (.sipush 1000, 3) := by decide +kernel
theorem dX10_span_8 : decode cX10_span 8 = .ok (.istore_n 1, 1) := by decide +kernel
theorem dX10_span_9 : decode cX10_span 9 = .ok (.iconst (-1), 1) := by decide +kernel
theorem dX10_span_10 : decode cX10_span 10 = .ok (.istore_n 2, 1) := by decide +kernel
theorem dX10_span_11 : decode cX10_span 11 = .ok (.iconst 0, 1) := by decide +kernel
theorem dX10_span_12 : decode cX10_span 12 = .ok (.istore_n 3, 1) := by decide +kernel
theorem dX10_span_13 : decode cX10_span 13 = .ok (.iload_n 3, 1) := by decide +kernel
theorem dX10_span_14 : decode cX10_span 14 = .ok (.aload_n 0, 1) := by decide +kernel
theorem dX10_span_15 : decode cX10_span 15 = .ok (.getfield 108, 3) := by decide +kernel
theorem dX10_span_18 : decode cX10_span 18 = .ok (.if_icmp .ge 63, 3) := by decide +kernel
theorem dX10_span_21 : decode cX10_span 21 = .ok (.iconst 0, 1) := by decide +kernel
theorem dX10_span_22 : decode cX10_span 22 = .ok (.istore 4, 2) := by decide +kernel
theorem dX10_span_24 : decode cX10_span 24 = .ok (.iload 4, 2) := by decide +kernel
theorem dX10_span_26 : decode cX10_span 26 = .ok (.aload_n 0, 1) := by decide +kernel
theorem dX10_span_27 : decode cX10_span 27 = .ok (.iload_n 3, 1) := by decide +kernel
theorem dX10_span_28 : decode cX10_span 28 = .ok (.invokevirtual 179, 3) := by decide +kernel
theorem dX10_span_31 : decode cX10_span 31 = .ok (.if_icmp .ge 44, 3) := by decide +kernel
theorem dX10_span_34 : decode cX10_span 34 = .ok (.aload_n 0, 1) := by decide +kernel
theorem dX10_span_35 : decode cX10_span 35 = .ok (.iload_n 3, 1) := by decide +kernel
theorem dX10_span_36 : decode cX10_span 36 = .ok (.iload 4, 2) := by decide +kernel
theorem dX10_span_38 : decode cX10_span 38 = .ok (.invokevirtual 182, 3) := by decide +kernel
theorem dX10_span_41 : decode cX10_span 41 = .ok (.istore 5, 2) := by decide +kernel
theorem dX10_span_43 : decode cX10_span 43 = .ok (.iload 5, 2) := by decide +kernel
theorem dX10_span_45 : decode cX10_span 45 = .ok (.iload_n 1, 1) := by decide +kernel
theorem dX10_span_46 : decode cX10_span 46 = .ok (.if_icmp .ge 8, 3) := by decide +kernel
theorem dX10_span_49 : decode cX10_span 49 = .ok (.iload 5, 2) := by decide +kernel
theorem dX10_span_51 : decode cX10_span 51 = .ok (.goto 4, 3) := by decide +kernel
theorem dX10_span_54 : decode cX10_span 54 = .ok (.iload_n 1, 1) := by decide +kernel
theorem dX10_span_55 : decode cX10_span 55 = .ok (.istore_n 1, 1) := by decide +kernel
theorem dX10_span_56 : decode cX10_span 56 = .ok (.iload 5, 2) := by decide +kernel
theorem dX10_span_58 : decode cX10_span 58 = .ok (.iload_n 2, 1) := by decide +kernel
theorem dX10_span_59 : decode cX10_span 59 = .ok (.if_icmp .le 8, 3) := by decide +kernel
theorem dX10_span_62 : decode cX10_span 62 = .ok (.iload 5, 2) := by decide +kernel
theorem dX10_span_64 : decode cX10_span 64 = .ok (.goto 4, 3) := by decide +kernel
theorem dX10_span_67 : decode cX10_span 67 = .ok (.iload_n 2, 1) := by decide +kernel
theorem dX10_span_68 : decode cX10_span 68 = .ok (.istore_n 2, 1) := by decide +kernel
theorem dX10_span_69 : decode cX10_span 69 = .ok (.iinc 4 1, 3) := by decide +kernel
theorem dX10_span_72 : decode cX10_span 72 = .ok (.goto (-48), 3) := by decide +kernel
theorem dX10_span_75 : decode cX10_span 75 = .ok (.iinc 3 1, 3) := by decide +kernel
theorem dX10_span_78 : decode cX10_span 78 = .ok (.goto (-65), 3) := by decide +kernel
theorem dX10_span_81 : decode cX10_span 81 = .ok (.iload_n 2, 1) := by decide +kernel
theorem dX10_span_82 : decode cX10_span 82 = .ok (.ifCond .ge 8, 3) := by decide +kernel
theorem dX10_span_85 : decode cX10_span 85 = .ok (.bipush (-2), 2) := by decide +kernel
theorem dX10_span_87 : decode cX10_span 87 = .ok (.goto 6, 3) := by decide +kernel
theorem dX10_span_90 : decode cX10_span 90 = .ok (.iload_n 2, 1) := by decide +kernel
theorem dX10_span_91 : decode cX10_span 91 = .ok (.iload_n 1, 1) := by decide +kernel
theorem dX10_span_92 : decode cX10_span 92 = .ok (.isub, 1) := by decide +kernel
theorem dX10_span_93 : decode cX10_span 93 = .ok (.ireturn, 1) := by decide +kernel
theorem dX10_isBettered_0 : decode cX10_isBettered 0 = .ok (.aload_n 0, 1) := by decide +kernel
theorem dX10_isBettered_1 : decode cX10_isBettered 1 = .ok (.invokevirtual 199, 3) := by decide +kernel
theorem dX10_isBettered_4 : decode cX10_isBettered 4 = .ok (.istore_n 1, 1) := by decide +kernel
theorem dX10_isBettered_5 : decode cX10_isBettered 5 = .ok (.iload_n 1, 1) := by decide +kernel
theorem dX10_isBettered_6 : decode cX10_isBettered 6 = .ok (.istore_n 2, 1) := by decide +kernel
theorem dX10_isBettered_7 : decode cX10_isBettered 7 = .ok (.iconst (-1), 1) := by decide +kernel
theorem dX10_isBettered_8 : decode cX10_isBettered 8 = .ok (.istore_n 3, 1) := by decide +kernel
theorem dX10_isBettered_9 : decode cX10_isBettered 9 = .ok (.iconst (-1), 1) := by decide +kernel
theorem dX10_isBettered_10 : decode cX10_isBettered 10 = .ok (.istore 4, 2) := by decide +kernel
theorem dX10_isBettered_12 : decode cX10_isBettered 12 = .ok (.iconst 0, 1) := by decide +kernel
theorem dX10_isBettered_13 : decode cX10_isBettered 13 = .ok (.istore 5, 2) := by decide +kernel
theorem dX10_isBettered_15 : decode cX10_isBettered 15 = .ok (.iload 5, 2) := by decide +kernel
theorem dX10_isBettered_17 : decode cX10_isBettered 17 = .ok (.aload_n 0, 1) := by decide +kernel
theorem dX10_isBettered_18 : decode cX10_isBettered 18 = .ok (.getfield 108, 3) := by decide +kernel
theorem dX10_isBettered_21 : decode cX10_isBettered 21 = .ok (.if_icmp .ge 107, 3) := by decide +kernel
theorem dX10_isBettered_24 : decode cX10_isBettered 24 = .ok (.aload_n 0, 1) := by decide +kernel
theorem dX10_isBettered_25 : decode cX10_isBettered 25 = .ok (.getfield 40, 3) := by decide +kernel
theorem dX10_isBettered_28 : decode cX10_isBettered 28 = .ok (.iload 5, 2) := by decide +kernel
theorem dX10_isBettered_30 : decode cX10_isBettered 30 = .ok (.iaload, 1) := by decide +kernel
theorem dX10_isBettered_31 : decode cX10_isBettered 31 = .ok (.istore 6, 2) := by decide +kernel
theorem dX10_isBettered_33 : decode cX10_isBettered 33 = .ok (.iconst 0, 1) := by decide +kernel
theorem dX10_isBettered_34 : decode cX10_isBettered 34 = .ok (.istore 7, 2) := by decide +kernel
theorem dX10_isBettered_36 : decode cX10_isBettered 36 = .ok (.iload 7, 2) := by decide +kernel
theorem dX10_isBettered_38 : decode cX10_isBettered 38 = .ok (.bipush 30, 2) := by decide +kernel
theorem dX10_isBettered_40 : decode cX10_isBettered 40 = .ok (.if_icmp .ge 82, 3) := by decide +kernel
theorem dX10_isBettered_43 : decode cX10_isBettered 43 = .ok (.iload 6, 2) := by decide +kernel
theorem dX10_isBettered_45 : decode cX10_isBettered 45 = .ok (.ifCond .lt 77, 3) := by decide +kernel
theorem dX10_isBettered_48 : decode cX10_isBettered 48 = .ok (.aload_n 0, 1) := by decide +kernel
theorem dX10_isBettered_49 : decode cX10_isBettered 49 = .ok (.getfield 37, 3) := by decide +kernel
theorem dX10_isBettered_52 : decode cX10_isBettered 52 = .ok (.iload 5, 2) := by decide +kernel
theorem dX10_isBettered_54 : decode cX10_isBettered 54 = .ok (.iaload, 1) := by decide +kernel
theorem dX10_isBettered_55 : decode cX10_isBettered 55 = .ok (.ifCond .ge 67, 3) := by decide +kernel
theorem dX10_isBettered_58 : decode cX10_isBettered 58 = .ok (.iload 7, 2) := by decide +kernel
theorem dX10_isBettered_60 : decode cX10_isBettered 60 = .ok (.iload 6, 2) := by decide +kernel
theorem dX10_isBettered_62 : decode cX10_isBettered 62 = .ok (.if_icmp .eq 54, 3) := by decide +kernel
theorem dX10_isBettered_65 : decode cX10_isBettered 65 = .ok (.aload_n 0, 1) := by decide +kernel
theorem dX10_isBettered_66 : decode cX10_isBettered 66 = .ok (.iload 5, 2) := by decide +kernel
theorem dX10_isBettered_68 : decode cX10_isBettered 68 = .ok (.iload 7, 2) := by decide +kernel
theorem dX10_isBettered_70 : decode cX10_isBettered 70 = .ok (.invokevirtual 176, 3) := by decide +kernel
theorem dX10_isBettered_73 : decode cX10_isBettered 73 = .ok (.ifCond .eq 43, 3) := by decide +kernel
theorem dX10_isBettered_76 : decode cX10_isBettered 76 = .ok (.aload_n 0, 1) := by decide +kernel
theorem dX10_isBettered_77 : decode cX10_isBettered 77 = .ok (.getfield 40, 3) := by decide +kernel
theorem dX10_isBettered_80 : decode cX10_isBettered 80 = .ok (.iload 5, 2) := by decide +kernel
theorem dX10_isBettered_82 : decode cX10_isBettered 82 = .ok (.iload 7, 2) := by decide +kernel
theorem dX10_isBettered_84 : decode cX10_isBettered 84 = .ok (.iastore, 1) := by decide +kernel
theorem dX10_isBettered_85 : decode cX10_isBettered 85 = .ok (.aload_n 0, 1) := by decide +kernel
theorem dX10_isBettered_86 : decode cX10_isBettered 86 = .ok (.invokevirtual 199, 3) := by decide +kernel
theorem dX10_isBettered_89 : decode cX10_isBettered 89 = .ok (.istore 8, 2) := by decide +kernel
theorem dX10_isBettered_91 : decode cX10_isBettered 91 = .ok (.aload_n 0, 1) := by decide +kernel
theorem dX10_isBettered_92 : decode cX10_isBettered 92 = .ok (.getfield 40, 3) := by decide +kernel
theorem dX10_isBettered_95 : decode cX10_isBettered 95 = .ok (.iload 5, 2) := by decide +kernel
theorem dX10_isBettered_97 : decode cX10_isBettered 97 = .ok (.iload 6, 2) := by decide +kernel
theorem dX10_isBettered_99 : decode cX10_isBettered 99 = .ok (.iastore, 1) := by decide +kernel
theorem dX10_isBettered_100 : decode cX10_isBettered 100 = .ok (.iload 8, 2) := by decide +kernel
theorem dX10_isBettered_102 : decode cX10_isBettered 102 = .ok (.iload_n 2, 1) := by decide +kernel
theorem dX10_isBettered_103 : decode cX10_isBettered 103 = .ok (.if_icmp .ge 13, 3) := by decide +kernel
theorem dX10_isBettered_106 : decode cX10_isBettered 106 = .ok (.iload 8, 2) := by decide +kernel
theorem dX10_isBettered_108 : decode cX10_isBettered 108 = .ok (.istore_n 2, 1) := by decide +kernel
theorem dX10_isBettered_109 : decode cX10_isBettered 109 = .ok (.iload 5, 2) := by decide +kernel
theorem dX10_isBettered_111 : decode cX10_isBettered 111 = .ok (.istore_n 3, 1) := by decide +kernel
theorem dX10_isBettered_112 : decode cX10_isBettered 112 = .ok (.iload 7, 2) := by decide +kernel
theorem dX10_isBettered_114 : decode cX10_isBettered 114 = .ok (.istore 4, 2) := by decide +kernel
theorem dX10_isBettered_116 : decode cX10_isBettered 116 = .ok (.iinc 7 1, 3) := by decide +kernel
theorem dX10_isBettered_119 : decode cX10_isBettered 119 = .ok (.goto (-83), 3) := by decide +kernel
theorem dX10_isBettered_122 : decode cX10_isBettered 122 = .ok (.iinc 5 1, 3) := by decide +kernel
theorem dX10_isBettered_125 : decode cX10_isBettered 125 = .ok (.goto (-110), 3) := by decide +kernel
theorem dX10_isBettered_128 : decode cX10_isBettered 128 = .ok (.iload_n 3, 1) := by decide +kernel
theorem dX10_isBettered_129 : decode cX10_isBettered 129 = .ok (.ifCond .lt 11, 3) := by decide +kernel
theorem dX10_isBettered_132 : decode cX10_isBettered 132 = .ok (.aload_n 0, 1) := by decide +kernel
theorem dX10_isBettered_133 : decode cX10_isBettered 133 = .ok (.getfield 40, 3) := by decide +kernel
theorem dX10_isBettered_136 : decode cX10_isBettered 136 = .ok (.iload_n 3, 1) := by decide +kernel
theorem dX10_isBettered_137 : decode cX10_isBettered 137 = .ok (.iload 4, 2) := by decide +kernel
theorem dX10_isBettered_139 : decode cX10_isBettered 139 = .ok (.iastore, 1) := by decide +kernel
theorem dX10_isBettered_140 : decode cX10_isBettered 140 = .ok (.iload_n 3, 1) := by decide +kernel
theorem dX10_isBettered_141 : decode cX10_isBettered 141 = .ok (.ifCond .lt 7, 3) := by decide +kernel
theorem dX10_isBettered_144 : decode cX10_isBettered 144 = .ok (.iconst 1, 1) := by decide +kernel
theorem dX10_isBettered_145 : decode cX10_isBettered 145 = .ok (.goto 4, 3) := by decide +kernel
theorem dX10_isBettered_148 : decode cX10_isBettered 148 = .ok (.iconst 0, 1) := by decide +kernel
theorem dX10_isBettered_149 : decode cX10_isBettered 149 = .ok (.ireturn, 1) := by decide +kernel
theorem dX10_better_0 : decode cX10_better 0 = .ok (.aload_n 0, 1) := by decide +kernel
theorem dX10_better_1 : decode cX10_better 1 = .ok (.iconst 0, 1) := by decide +kernel
theorem dX10_better_2 : decode cX10_better 2 = .ok (.putfield 102, 3) := by decide +kernel
theorem dX10_better_5 : decode cX10_better 5 = .ok (.iload_n 1, 1) := by decide +kernel
theorem dX10_better_6 : decode cX10_better 6 = .ok (.i2l, 1) := by decide +kernel
theorem dX10_better_7 : decode cX10_better 7 = .ok (.lconst 1, 1) := by decide +kernel
theorem dX10_better_8 : decode cX10_better 8 = .ok (.ldc2_w 229, 3) := by decide +kernel
theorem dX10_better_11 : decode cX10_better 11 = .ok (.invokestatic 113, 3) := by decide +kernel
theorem dX10_better_14 : decode cX10_better 14 = .ok (.ifCond .ne 5, 3) := by decide +kernel
theorem dX10_better_17 : decode cX10_better 17 = .ok (.iconst (-1), 1) := by decide +kernel
theorem dX10_better_18 : decode cX10_better 18 = .ok (.ireturn, 1) := by decide +kernel
theorem dX10_better_19 : decode cX10_better 19 = .ok (.iconst 0, 1) := by decide +kernel
theorem dX10_better_20 : decode cX10_better 20 = .ok (.istore_n 2, 1) := by decide +kernel
theorem dX10_better_21 : decode cX10_better 21 = .ok (.iload_n 2, 1) := by decide +kernel
theorem dX10_better_22 : decode cX10_better 22 = .ok (.iload_n 1, 1) := by decide +kernel
theorem dX10_better_23 : decode cX10_better 23 = .ok (.if_icmp .ge 16, 3) := by decide +kernel
theorem dX10_better_26 : decode cX10_better 26 = .ok (.aload_n 0, 1) := by decide +kernel
theorem dX10_better_27 : decode cX10_better 27 = .ok (.invokevirtual 231, 3) := by decide +kernel
theorem dX10_better_30 : decode cX10_better 30 = .ok (.ifCond .eq 9, 3) := by decide +kernel
theorem dX10_better_33 : decode cX10_better 33 = .ok (.iinc 2 1, 3) := by decide +kernel
theorem dX10_better_36 : decode cX10_better 36 = .ok (.goto (-15), 3) := by decide +kernel
theorem dX10_better_39 : decode cX10_better 39 = .ok (.iload_n 2, 1) := by decide +kernel
theorem dX10_better_40 : decode cX10_better 40 = .ok (.ireturn, 1) := by decide +kernel
theorem dX10_isHealedBy_0 : decode cX10_isHealedBy 0 = .ok (.aload_n 0, 1) := by decide +kernel
theorem dX10_isHealedBy_1 : decode cX10_isHealedBy 1 = .ok (.getfield 40, 3) := by decide +kernel
theorem dX10_isHealedBy_4 : decode cX10_isHealedBy 4 = .ok (.iload_n 1, 1) := by decide +kernel
theorem dX10_isHealedBy_5 : decode cX10_isHealedBy 5 = .ok (.iaload, 1) := by decide +kernel
theorem dX10_isHealedBy_6 : decode cX10_isHealedBy 6 = .ok (.istore_n 2, 1) := by decide +kernel
theorem dX10_isHealedBy_7 : decode cX10_isHealedBy 7 = .ok (.iconst 0, 1) := by decide +kernel
theorem dX10_isHealedBy_8 : decode cX10_isHealedBy 8 = .ok (.istore_n 3, 1) := by decide +kernel
theorem dX10_isHealedBy_9 : decode cX10_isHealedBy 9 = .ok (.iload_n 3, 1) := by decide +kernel
theorem dX10_isHealedBy_10 : decode cX10_isHealedBy 10 = .ok (.bipush 30, 2) := by decide +kernel
theorem dX10_isHealedBy_12 : decode cX10_isHealedBy 12 = .ok (.if_icmp .ge 59, 3) := by decide +kernel
theorem dX10_isHealedBy_15 : decode cX10_isHealedBy 15 = .ok (.iload_n 2, 1) := by decide +kernel
theorem dX10_isHealedBy_16 : decode cX10_isHealedBy 16 = .ok (.ifCond .lt 55, 3) := by decide +kernel
theorem dX10_isHealedBy_19 : decode cX10_isHealedBy 19 = .ok (.aload_n 0, 1) := by decide +kernel
