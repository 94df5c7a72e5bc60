theorem dX9_mast_0 : decode cX9_mast 0 = .ok (.iload_n 1, 1) := by decide +kernel
theorem dX9_mast_1 : decode cX9_mast 1 = .ok (.iconst 0, 1) := by decide +kernel
theorem dX9_mast_2 : decode cX9_mast 2 = .ok (.iconst 3, 1) := by decide +kernel
theorem dX9_mast_3 : decode cX9_mast 3 = .ok (.invokestatic 72, 3) := by decide +kernel
theorem dX9_mast_6 : decode cX9_mast 6 = .ok (.ifCond .eq 29, 3) := by decide +kernel
theorem dX9_mast_9 : decode cX9_mast 9 = .ok (.iload_n 2, 1) := by decide +kernel
theorem dX9_mast_10 : decode cX9_mast 10 = .ok (.invokestatic 76, 3) := by decide +kernel
theorem dX9_mast_13 : decode cX9_mast 13 = .ok (.ifCond .eq 22, 3) := by decide +kernel
theorem dX9_mast_16 : decode cX9_mast 16 = .ok (.iload_n 3, 1) := by decide +kernel
theorem dX9_mast_17 : decode cX9_mast 17 = .ok (.iconst 0, 1) := by decide +kernel
theorem dX9_mast_18 : decode cX9_mast 18 = .ok (.iconst 3, 1) := by decide +kernel
theorem dX9_mast_19 : decode cX9_mast 19 = .ok (.invokestatic 72, 3) := by decide +kernel
theorem dX9_mast_22 : decode cX9_mast 22 = .ok (.ifCond .eq 13, 3) := by decide +kernel
theorem dX9_mast_25 : decode cX9_mast 25 = .ok (.iload 4, 2) := by decide +kernel
theorem dX9_mast_27 : decode cX9_mast 27 = .ok (.iconst 1, 1) := by decide +kernel
theorem dX9_mast_28 : decode cX9_mast 28 = .ok (.iconst 3, 1) := by decide +kernel
theorem dX9_mast_29 : decode cX9_mast 29 = .ok (.invokestatic 72, 3) := by decide +kernel
theorem dX9_mast_32 : decode cX9_mast 32 = .ok (.ifCond .ne 5, 3) := by decide +kernel
theorem dX9_mast_35 : decode cX9_mast 35 = .ok (.iconst (-1), 1) := by decide +kernel
theorem dX9_mast_36 : decode cX9_mast 36 = .ok (.ireturn, 1) := by decide +kernel
theorem dX9_mast_37 : decode cX9_mast 37 = .ok (.aload_n 0, 1) := by decide +kernel
theorem dX9_mast_38 : decode cX9_mast 38 = .ok (.getfield 12, 3) := by decide +kernel
theorem dX9_mast_41 : decode cX9_mast 41 = .ok (.getfield 80, 3) := by decide +kernel
theorem dX9_mast_44 : decode cX9_mast 44 = .ok (.bipush 12, 2) := by decide +kernel
theorem dX9_mast_46 : decode cX9_mast 46 = .ok (.if_icmp .ge 18, 3) := by decide +kernel
theorem dX9_mast_49 : decode cX9_mast 49 = .ok (.aload_n 0, 1) := by decide +kernel
theorem dX9_mast_50 : decode cX9_mast 50 = .ok (.getfield 12, 3) := by decide +kernel
theorem dX9_mast_53 : decode cX9_mast 53 = .ok (.getfield 83, 3) := by decide +kernel
theorem dX9_mast_56 : decode cX9_mast 56 = .ok (.iload 4, 2) := by decide +kernel
theorem dX9_mast_58 : decode cX9_mast 58 = .ok (.iadd, 1) := by decide +kernel
theorem dX9_mast_59 : decode cX9_mast 59 = .ok (.bipush 16, 2) := by decide +kernel
theorem dX9_mast_61 : decode cX9_mast 61 = .ok (.if_icmp .le 6, 3) := by decide +kernel
theorem dX9_mast_64 : decode cX9_mast 64 = .ok (.bipush (-2), 2) := by decide +kernel
theorem dX9_mast_66 : decode cX9_mast 66 = .ok (.ireturn, 1) := by decide +kernel
theorem dX9_mast_67 : decode cX9_mast 67 = .ok (.aload_n 0, 1) := by decide +kernel
theorem dX9_mast_68 : decode cX9_mast 68 = .ok (.getfield 12, 3) := by decide +kernel
theorem dX9_mast_71 : decode cX9_mast 71 = .ok (.iload_n 1, 1) := by decide +kernel
theorem dX9_mast_72 : decode cX9_mast 72 = .ok (.iload_n 2, 1) := by decide +kernel
theorem dX9_mast_73 : decode cX9_mast 73 = .ok (.iload_n 3, 1) := by decide +kernel
theorem dX9_mast_74 : decode cX9_mast 74 = .ok (.iload 4, 2) := by decide +kernel
theorem dX9_mast_76 : decode cX9_mast 76 = .ok (.invokevirtual 86, 3) := by decide +kernel
theorem dX9_mast_79 : decode cX9_mast 79 = .ok (.ireturn, 1) := by decide +kernel
theorem dX9_move_0 : decode cX9_move 0 = .ok (.aload_n 0, 1) := by decide +kernel
theorem dX9_move_1 : decode cX9_move 1 = .ok (.getfield 12, 3) := by decide +kernel
theorem dX9_move_4 : decode cX9_move 4 = .ok (.iload_n 1, 1) := by decide +kernel
theorem dX9_move_5 : decode cX9_move 5 = .ok (.invokevirtual 90, 3) := by decide +kernel
theorem dX9_move_8 : decode cX9_move 8 = .ok (.ifCond .eq 10, 3) := by decide +kernel
theorem dX9_move_11 : decode cX9_move 11 = .ok (.iload_n 2, 1) := by decide +kernel
theorem dX9_move_12 : decode cX9_move 12 = .ok (.invokestatic 76, 3) := by decide +kernel
theorem dX9_move_15 : decode cX9_move 15 = .ok (.ifCond .ne 5, 3) := by decide +kernel
theorem dX9_move_18 : decode cX9_move 18 = .ok (.iconst (-1), 1) := by decide +kernel
theorem dX9_move_19 : decode cX9_move 19 = .ok (.ireturn, 1) := by decide +kernel
theorem dX9_move_20 : decode cX9_move 20 = .ok (.aload_n 0, 1) := by decide +kernel
theorem dX9_move_21 : decode cX9_move 21 = .ok (.getfield 12, 3) := by decide +kernel
theorem dX9_move_24 : decode cX9_move 24 = .ok (.iload_n 1, 1) := by decide +kernel
theorem dX9_move_25 : decode cX9_move 25 = .ok (.iload_n 2, 1) := by decide +kernel
theorem dX9_move_26 : decode cX9_move 26 = .ok (.invokevirtual 93, 3) := by decide +kernel
theorem dX9_move_29 : decode cX9_move 29 = .ok (.ireturn, 1) := by decide +kernel
theorem dX9_list_0 : decode cX9_list 0 = .ok (.aload_n 0, 1) := by decide +kernel
theorem dX9_list_1 : decode cX9_list 1 = .ok (.getfield 12, 3) := by decide +kernel
theorem dX9_list_4 : decode cX9_list 4 = .ok (.iload_n 1, 1) := by decide +kernel
theorem dX9_list_5 : decode cX9_list 5 = .ok (.invokevirtual 90, 3) := by decide +kernel
theorem dX9_list_8 : decode cX9_list 8 = .ok (.ifCond .eq 13, 3) := by decide +kernel
theorem dX9_list_11 : decode cX9_list 11 = .ok (.iload_n 2, 1) := by decide +kernel
theorem dX9_list_12 : decode cX9_list 12 = .ok (.iconst 0, 1) := by decide +kernel
theorem dX9_list_13 : decode cX9_list 13 = .ok (.ldc 97, 2) := by decide +kernel
theorem dX9_list_15 : decode cX9_list 15 = .ok (.invokestatic 72, 3) := by decide +kernel
theorem dX9_list_18 : decode cX9_list 18 = .ok (.ifCond .ne 5, 3) := by decide +kernel
theorem dX9_list_21 : decode cX9_list 21 = .ok (.iconst (-1), 1) := by decide +kernel
theorem dX9_list_22 : decode cX9_list 22 = .ok (.ireturn, 1) := by decide +kernel
theorem dX9_list_23 : decode cX9_list 23 = .ok (.aload_n 0, 1) := by decide +kernel
theorem dX9_list_24 : decode cX9_list 24 = .ok (.getfield 12, 3) := by decide +kernel
theorem dX9_list_27 : decode cX9_list 27 = .ok (.getfield 98, 3) := by decide +kernel
theorem dX9_list_30 : decode cX9_list 30 = .ok (.iload_n 1, 1) := by decide +kernel
theorem dX9_list_31 : decode cX9_list 31 = .ok (.aaload, 1) := by decide +kernel
theorem dX9_list_32 : decode cX9_list 32 = .ok (.iload_n 2, 1) := by decide +kernel
theorem dX9_list_33 : decode cX9_list 33 = .ok (.putfield 102, 3) := by decide +kernel
theorem dX9_list_36 : decode cX9_list 36 = .ok (.iload_n 2, 1) := by decide +kernel
theorem dX9_list_37 : decode cX9_list 37 = .ok (.invokestatic 107, 3) := by decide +kernel
theorem dX9_list_40 : decode cX9_list 40 = .ok (.ireturn, 1) := by decide +kernel
theorem dX9_gap_0 : decode cX9_gap 0 = .ok (.aload_n 0, 1) := by decide +kernel
theorem dX9_gap_1 : decode cX9_gap 1 = .ok (.getfield 12, 3) := by decide +kernel
theorem dX9_gap_4 : decode cX9_gap 4 = .ok (.iload_n 1, 1) := by decide +kernel
theorem dX9_gap_5 : decode cX9_gap 5 = .ok (.invokevirtual 90, 3) := by decide +kernel
theorem dX9_gap_8 : decode cX9_gap 8 = .ok (.ifCond .eq 29, 3) := by decide +kernel
theorem dX9_gap_11 : decode cX9_gap 11 = .ok (.aload_n 0, 1) := by decide +kernel
theorem dX9_gap_12 : decode cX9_gap 12 = .ok (.getfield 12, 3) := by decide +kernel
theorem dX9_gap_15 : decode cX9_gap 15 = .ok (.getfield 98, 3) := by decide +kernel
theorem dX9_gap_18 : decode cX9_gap 18 = .ok (.iload_n 1, 1) := by decide +kernel
theorem dX9_gap_19 : decode cX9_gap 19 = .ok (.aaload, 1) := by decide +kernel
theorem dX9_gap_20 : decode cX9_gap 20 = .ok (.getfield 113, 3) := by decide +kernel
theorem dX9_gap_23 : decode cX9_gap 23 = .ok (.iconst 1, 1) := by decide +kernel
theorem dX9_gap_24 : decode cX9_gap 24 = .ok (.if_icmp .ne 13, 3) := by decide +kernel
theorem dX9_gap_27 : decode cX9_gap 27 = .ok (.iload_n 2, 1) := by decide +kernel
theorem dX9_gap_28 : decode cX9_gap 28 = .ok (.iconst 1, 1) := by decide +kernel
theorem dX9_gap_29 : decode cX9_gap 29 = .ok (.bipush 10, 2) := by decide +kernel
theorem dX9_gap_31 : decode cX9_gap 31 = .ok (.invokestatic 72, 3) := by decide +kernel
theorem dX9_gap_34 : decode cX9_gap 34 = .ok (.ifCond .ne 5, 3) := by decide +kernel
theorem dX9_gap_37 : decode cX9_gap 37 = .ok (.iconst (-1), 1) := by decide +kernel
theorem dX9_gap_38 : decode cX9_gap 38 = .ok (.ireturn, 1) := by decide +kernel
theorem dX9_gap_39 : decode cX9_gap 39 = .ok (.aload_n 0, 1) := by decide +kernel
theorem dX9_gap_40 : decode cX9_gap 40 = .ok (.getfield 12, 3) := by decide +kernel
theorem dX9_gap_43 : decode cX9_gap 43 = .ok (.getfield 98, 3) := by decide +kernel
theorem dX9_gap_46 : decode cX9_gap 46 = .ok (.iload_n 1, 1) := by decide +kernel
theorem dX9_gap_47 : decode cX9_gap 47 = .ok (.aaload, 1) := by decide +kernel
theorem dX9_gap_48 : decode cX9_gap 48 = .ok (.getfield 116, 3) := by decide +kernel
theorem dX9_gap_51 : decode cX9_gap 51 = .ok (.istore_n 3, 1) := by decide +kernel
theorem dX9_gap_52 : decode cX9_gap 52 = .ok (.aload_n 0, 1) := by decide +kernel
theorem dX9_gap_53 : decode cX9_gap 53 = .ok (.getfield 12, 3) := by decide +kernel
theorem dX9_gap_56 : decode cX9_gap 56 = .ok (.getfield 98, 3) := by decide +kernel
theorem dX9_gap_59 : decode cX9_gap 59 = .ok (.iload_n 1, 1) := by decide +kernel
theorem dX9_gap_60 : decode cX9_gap 60 = .ok (.aaload, 1) := by decide +kernel
theorem dX9_gap_61 : decode cX9_gap 61 = .ok (.iload_n 2, 1) := by decide +kernel
theorem dX9_gap_62 : decode cX9_gap 62 = .ok (.putfield 116, 3) := by decide +kernel
theorem dX9_gap_65 : decode cX9_gap 65 = .ok (.iload_n 3, 1) := by decide +kernel
theorem dX9_gap_66 : decode cX9_gap 66 = .ok (.ireturn, 1) := by decide +kernel
theorem dX9_stay_0 : decode cX9_stay 0 = .ok (.aload_n 0, 1) := by decide +kernel
theorem dX9_stay_1 : decode cX9_stay 1 = .ok (.getfield 12, 3) := by decide +kernel
theorem dX9_stay_4 : decode cX9_stay 4 = .ok (.iload_n 1, 1) := by decide +kernel
theorem dX9_stay_5 : decode cX9_stay 5 = .ok (.invokevirtual 119, 3) := by decide +kernel
theorem dX9_stay_8 : decode cX9_stay 8 = .ok (.ifCond .eq 25, 3) := by decide +kernel
theorem dX9_stay_11 : decode cX9_stay 11 = .ok (.aload_n 0, 1) := by decide +kernel
theorem dX9_stay_12 : decode cX9_stay 12 = .ok (.getfield 12, 3) := by decide +kernel
theorem dX9_stay_15 : decode cX9_stay 15 = .ok (.iload_n 1, 1) := by decide +kernel
theorem dX9_stay_16 : decode cX9_stay 16 = .ok (.invokevirtual 122, 3) := by decide +kernel
theorem dX9_stay_19 : decode cX9_stay 19 = .ok (.iconst 2, 1) := by decide +kernel
theorem dX9_stay_20 : decode cX9_stay 20 = .ok (.if_icmp .ne 13, 3) := by decide +kernel
theorem dX9_stay_23 : decode cX9_stay 23 = .ok (.iload_n 2, 1) := by decide +kernel
theorem dX9_stay_24 : decode cX9_stay 24 = .ok (.iconst (-1), 1) := by decide +kernel
theorem dX9_stay_25 : decode cX9_stay 25 = .ok (.bipush 29, 2) := by decide +kernel
theorem dX9_stay_27 : decode cX9_stay 27 = .ok (.invokestatic 72, 3) := by decide +kernel
theorem dX9_stay_30 : decode cX9_stay 30 = .ok (.ifCond .ne 5, 3) := by decide +kernel
theorem dX9_stay_33 : decode cX9_stay 33 = .ok (.iconst (-1), 1) := by decide +kernel
theorem dX9_stay_34 : decode cX9_stay 34 = .ok (.ireturn, 1) := by decide +kernel
theorem dX9_stay_35 : decode cX9_stay 35 = .ok (.aload_n 0, 1) := by decide +kernel
theorem dX9_stay_36 : decode cX9_stay 36 = .ok (.getfield 12, 3) := by decide +kernel
theorem dX9_stay_39 : decode cX9_stay 39 = .ok (.getfield 125, 3) := by decide +kernel
theorem dX9_stay_42 : decode cX9_stay 42 = .ok (.iload_n 1, 1) := by decide +kernel
theorem dX9_stay_43 : decode cX9_stay 43 = .ok (.iload_n 2, 1) := by decide +kernel
theorem dX9_stay_44 : decode cX9_stay 44 = .ok (.ifCond .ge 8, 3) := by decide +kernel
theorem dX9_stay_47 : decode cX9_stay 47 = .ok (.bipush (-2), 2) := by decide +kernel
theorem dX9_stay_49 : decode cX9_stay 49 = .ok (.goto 4, 3) := by decide +kernel
theorem dX9_stay_52 : decode cX9_stay 52 = .ok (.iload_n 2, 1) := by decide +kernel
theorem dX9_stay_53 : decode cX9_stay 53 = .ok (.iastore, 1) := by decide +kernel
theorem dX9_stay_54 : decode cX9_stay 54 = .ok (.iconst 0, 1) := by decide +kernel
theorem dX9_stay_55 : decode cX9_stay 55 = .ok (.ireturn, 1) := by decide +kernel
theorem dX9_row_0 : decode cX9_row 0 = .ok (.iload_n 1, 1) := by decide +kernel
theorem dX9_row_1 : decode cX9_row 1 = .ok (.iconst 0, 1) := by decide +kernel
theorem dX9_row_2 : decode cX9_row 2 = .ok (.sipush 10000, 3) := by decide +kernel
theorem dX9_row_5 : decode cX9_row 5 = .ok (.invokestatic 72, 3) := by decide +kernel
theorem dX9_row_8 : decode cX9_row 8 = .ok (.ifCond .eq 22, 3) := by decide +kernel
theorem dX9_row_11 : decode cX9_row 11 = .ok (.iload_n 2, 1) := by decide +kernel
theorem dX9_row_12 : decode cX9_row 12 = .ok (.iconst 0, 1) := by decide +kernel
theorem dX9_row_13 : decode cX9_row 13 = .ok (.bipush 6, 2) := by decide +kernel
theorem dX9_row_15 : decode cX9_row 15 = .ok (.invokestatic 72, 3) := by decide +kernel
theorem dX9_row_18 : decode cX9_row 18 = .ok (.ifCond .eq 12, 3) := by decide +kernel
theorem dX9_row_21 : decode cX9_row 21 = .ok (.iload_n 3, 1) := by decide +kernel
theorem dX9_row_22 : decode cX9_row 22 = .ok (.iconst 0, 1) := by decide +kernel
theorem dX9_row_23 : decode cX9_row 23 = .ok (.iconst 4, 1) := by decide +kernel
theorem dX9_row_24 : decode cX9_row 24 = .ok (.invokestatic 72, 3) := by decide +kernel
theorem dX9_row_27 : decode cX9_row 27 = .ok (.ifCond .ne 5, 3) := by decide +kernel
theorem dX9_row_30 : decode cX9_row 30 = .ok (.iconst (-1), 1) := by decide +kernel
theorem dX9_row_31 : decode cX9_row 31 = .ok (.ireturn, 1) := by decide +kernel
theorem dX9_row_32 : decode cX9_row 32 = .ok (.aload_n 0, 1) := by decide +kernel
theorem dX9_row_33 : decode cX9_row 33 = .ok (.getfield 12, 3) := by decide +kernel
theorem dX9_row_36 : decode cX9_row 36 = .ok (.getfield 128, 3) := by decide +kernel
theorem dX9_row_39 : decode cX9_row 39 = .ok (.getfield 132, 3) := by decide +kernel
theorem dX9_row_42 : decode cX9_row 42 = .ok (.bipush 8, 2) := by decide +kernel
theorem dX9_row_44 : decode cX9_row 44 = .ok (.if_icmp .lt 6, 3) := by decide +kernel
theorem dX9_row_47 : decode cX9_row 47 = .ok (.bipush (-2), 2) := by decide +kernel
theorem dX9_row_49 : decode cX9_row 49 = .ok (.ireturn, 1) := by decide +kernel
theorem dX9_row_50 : decode cX9_row 50 = .ok (.aload_n 0, 1) := by decide +kernel
theorem dX9_row_51 : decode cX9_row 51 = .ok (.getfield 12, 3) := by decide +kernel
theorem dX9_row_54 : decode cX9_row 54 = .ok (.getfield 128, 3) := by decide +kernel
theorem dX9_row_57 : decode cX9_row 57 = .ok (.iload_n 1, 1) := by decide +kernel
theorem dX9_row_58 : decode cX9_row 58 = .ok (.iload_n 2, 1) := by decide +kernel
theorem dX9_row_59 : decode cX9_row 59 = .ok (.iload_n 3, 1) := by decide +kernel
theorem dX9_row_60 : decode cX9_row 60 = .ok (.invokevirtual 137, 3) := by decide +kernel
theorem dX9_row_63 : decode cX9_row 63 = .ok (.aload_n 0, 1) := by decide +kernel
theorem dX9_row_64 : decode cX9_row 64 = .ok (.getfield 12, 3) := by decide +kernel
theorem dX9_row_67 : decode cX9_row 67 = .ok (.invokevirtual 141, 3) := by decide +kernel
theorem dX9_row_70 : decode cX9_row 70 = .ok (.aload_n 0, 1) := by decide +kernel
theorem dX9_row_71 : decode cX9_row 71 = .ok (.getfield 12, 3) := by decide +kernel
theorem dX9_row_74 : decode cX9_row 74 = .ok (.getfield 128, 3) := by decide +kernel
theorem dX9_row_77 : decode cX9_row 77 = .ok (.getfield 132, 3) := by decide +kernel
theorem dX9_row_80 : decode cX9_row 80 = .ok (.ireturn, 1) := by decide +kernel
theorem dX9_own_0 : decode cX9_own 0 = .ok (.iload_n 1, 1) := by decide +kernel
theorem dX9_own_1 : decode cX9_own 1 = .ok (.iconst 0, 1) := by decide +kernel
theorem dX9_own_2 : decode cX9_own 2 = .ok (.bipush 6, 2) := by decide +kernel
theorem dX9_own_4 : decode cX9_own 4 = .ok (.invokestatic 72, 3) := by decide +kernel
theorem dX9_own_7 : decode cX9_own 7 = .ok (.ifCond .eq 14, 3) := by decide +kernel
theorem dX9_own_10 : decode cX9_own 10 = .ok (.iload_n 2, 1) := by decide +kernel
theorem dX9_own_11 : decode cX9_own 11 = .ok (.iconst (-1), 1) := by decide +kernel
theorem dX9_own_12 : decode cX9_own 12 = .ok (.sipush 10000, 3) := by decide +kernel
theorem dX9_own_15 : decode cX9_own 15 = .ok (.invokestatic 72, 3) := by decide +kernel
theorem dX9_own_18 : decode cX9_own 18 = .ok (.ifCond .ne 5, 3) := by decide +kernel
theorem dX9_own_21 : decode cX9_own 21 = .ok (.iconst (-1), 1) := by decide +kernel
theorem dX9_own_22 : decode cX9_own 22 = .ok (.ireturn, 1) := by decide +kernel
theorem dX9_own_23 : decode cX9_own 23 = .ok (.aload_n 0, 1) := by decide +kernel
theorem dX9_own_24 : decode cX9_own 24 = .ok (.getfield 12, 3) := by decide +kernel
theorem dX9_own_27 : decode cX9_own 27 = .ok (.iload_n 1, 1) := by decide +kernel
theorem dX9_own_28 : decode cX9_own 28 = .ok (.putfield 144, 3) := by decide +kernel
theorem dX9_own_31 : decode cX9_own 31 = .ok (.aload_n 0, 1) := by decide +kernel
theorem dX9_own_32 : decode cX9_own 32 = .ok (.getfield 12, 3) := by decide +kernel
theorem dX9_own_35 : decode cX9_own 35 = .ok (.iload_n 2, 1) := by decide +kernel
theorem dX9_own_36 : decode cX9_own 36 = .ok (.putfield 147, 3) := by decide +kernel
theorem dX9_own_39 : decode cX9_own 39 = .ok (.aload_n 0, 1) := by decide +kernel
theorem dX9_own_40 : decode cX9_own 40 = .ok (.getfield 12, 3) := by decide +kernel
theorem dX9_own_43 : decode cX9_own 43 = .ok (.invokevirtual 141, 3) := by decide +kernel
theorem dX9_own_46 : decode cX9_own 46 = .ok (.iconst 0, 1) := by decide +kernel
theorem dX9_own_47 : decode cX9_own 47 = .ok (.ireturn, 1) := by decide +kernel
theorem dX9_border_0 : decode cX9_border 0 = .ok (.iload_n 1, 1) := by decide +kernel
theorem dX9_border_1 : decode cX9_border 1 = .ok (.iconst (-1), 1) := by decide +kernel
theorem dX9_border_2 : decode cX9_border 2 = .ok (.bipush 60, 2) := by decide +kernel
theorem dX9_border_4 : decode cX9_border 4 = .ok (.invokestatic 72, 3) := by decide +kernel
theorem dX9_border_7 : decode cX9_border 7 = .ok (.ifCond .eq 34, 3) := by decide +kernel
theorem dX9_border_10 : decode cX9_border 10 = .ok (.iload_n 2, 1) := by decide +kernel
theorem dX9_border_11 : decode cX9_border 11 = .ok (.iconst 0, 1) := by decide +kernel
theorem dX9_border_12 : decode cX9_border 12 = .ok (.bipush 60, 2) := by decide +kernel
theorem dX9_border_14 : decode cX9_border 14 = .ok (.invokestatic 72, 3) := by decide +kernel
theorem dX9_border_17 : decode cX9_border 17 = .ok (.ifCond .eq 24, 3) := by decide +kernel
theorem dX9_border_20 : decode cX9_border 20 = .ok (.iload_n 3, 1) := by decide +kernel
theorem dX9_border_21 : decode cX9_border 21 = .ok (.iconst 0, 1) := by decide +kernel
theorem dX9_border_22 : decode cX9_border 22 = .ok (.ldc 97, 2) := by decide +kernel
theorem dX9_border_24 : decode cX9_border 24 = .ok (.invokestatic 72, 3) := by decide +kernel
theorem dX9_border_27 : decode cX9_border 27 = .ok (.ifCond .eq 14, 3) := by decide +kernel
theorem dX9_border_30 : decode cX9_border 30 = .ok (.iload 4, 2) := by decide +kernel
theorem dX9_border_32 : decode cX9_border 32 = .ok (.iconst 0, 1) := by decide +kernel
theorem dX9_border_33 : decode cX9_border 33 = .ok (.ldc 97, 2) := by decide +kernel
theorem dX9_border_35 : decode cX9_border 35 = .ok (.invokestatic 72, 3) := by decide +kernel
theorem dX9_border_38 : decode cX9_border 38 = .ok (.ifCond .ne 5, 3) := by decide +kernel
theorem dX9_border_41 : decode cX9_border 41 = .ok (.iconst (-1), 1) := by decide +kernel
theorem dX9_border_42 : decode cX9_border 42 = .ok (.ireturn, 1) := by decide +kernel
theorem dX9_border_43 : decode cX9_border 43 = .ok (.aload_n 0, 1) := by decide +kernel
theorem dX9_border_44 : decode cX9_border 44 = .ok (.getfield 12, 3) := by decide +kernel
theorem dX9_border_47 : decode cX9_border 47 = .ok (.getfield 150, 3) := by decide +kernel
theorem dX9_border_50 : decode cX9_border 50 = .ok (.iload_n 1, 1) := by decide +kernel
theorem dX9_border_51 : decode cX9_border 51 = .ok (.iload_n 2, 1) := by decide +kernel
theorem dX9_border_52 : decode cX9_border 52 = .ok (.iload_n 3, 1) := by decide +kernel
theorem dX9_border_53 : decode cX9_border 53 = .ok (.iload 4, 2) := by decide +kernel
theorem dX9_border_55 : decode cX9_border 55 = .ok (.invokevirtual 154, 3) := by decide +kernel
theorem dX9_border_58 : decode cX9_border 58 = .ok (.iconst 0, 1) := by decide +kernel
theorem dX9_border_59 : decode cX9_border 59 = .ok (.ireturn, 1) := by decide +kernel
theorem dX9_turn_0 : decode cX9_turn 0 = .ok (.aload_n 0, 1) := by decide +kernel
theorem dX9_turn_1 : decode cX9_turn 1 = .ok (.getfield 21, 3) := by decide +kernel
theorem dX9_turn_4 : decode cX9_turn 4 = .ok (.aload_n 0, 1) := by decide +kernel
theorem dX9_turn_5 : decode cX9_turn 5 = .ok (.getfield 55, 3) := by decide +kernel
theorem dX9_turn_8 : decode cX9_turn 8 = .ok (.invokevirtual 160, 3) := by decide +kernel
theorem dX9_turn_11 : decode cX9_turn 11 = .ok (.istore_n 1, 1) := by decide +kernel
theorem dX9_turn_12 : decode cX9_turn 12 = .ok (.aload_n 0, 1) := by decide +kernel
theorem dX9_turn_13 : decode cX9_turn 13 = .ok (.getfield 12, 3) := by decide +kernel
theorem dX9_turn_16 : decode cX9_turn 16 = .ok (.getfield 150, 3) := by decide +kernel
theorem dX9_turn_19 : decode cX9_turn 19 = .ok (.invokevirtual 164, 3) := by decide +kernel
theorem dX9_turn_22 : decode cX9_turn 22 = .ok (.aload_n 0, 1) := by decide +kernel
theorem dX9_turn_23 : decode cX9_turn 23 = .ok (.getfield 21, 3) := by decide +kernel
theorem dX9_turn_26 : decode cX9_turn 26 = .ok (.aload_n 0, 1) := by decide +kernel
theorem dX9_turn_27 : decode cX9_turn 27 = .ok (.getfield 55, 3) := by decide +kernel
theorem dX9_turn_30 : decode cX9_turn 30 = .ok (.invokevirtual 160, 3) := by decide +kernel
theorem dX9_turn_33 : decode cX9_turn 33 = .ok (.iload_n 1, 1) := by decide +kernel
theorem dX9_turn_34 : decode cX9_turn 34 = .ok (.iconst (-1), 1) := by decide +kernel
theorem dX9_turn_35 : decode cX9_turn 35 = .ok (.ixor, 1) := by decide +kernel
theorem dX9_turn_36 : decode cX9_turn 36 = .ok (.iand, 1) := by decide +kernel
theorem dX9_turn_37 : decode cX9_turn 37 = .ok (.invokestatic 107, 3) := by decide +kernel
theorem dX9_turn_40 : decode cX9_turn 40 = .ok (.ireturn, 1) := by decide +kernel
theorem dX9_bar_0 : decode cX9_bar 0 = .ok (.aload_n 0, 1) := by decide +kernel
theorem dX9_bar_1 : decode cX9_bar 1 = .ok (.getfield 12, 3) := by decide +kernel
theorem dX9_bar_4 : decode cX9_bar 4 = .ok (.iload_n 1, 1) := by decide +kernel
theorem dX9_bar_5 : decode cX9_bar 5 = .ok (.invokevirtual 90, 3) := by decide +kernel
theorem dX9_bar_8 : decode cX9_bar 8 = .ok (.ifCond .eq 26, 3) := by decide +kernel
theorem dX9_bar_11 : decode cX9_bar 11 = .ok (.aload_n 0, 1) := by decide +kernel
theorem dX9_bar_12 : decode cX9_bar 12 = .ok (.getfield 12, 3) := by decide +kernel
theorem dX9_bar_15 : decode cX9_bar 15 = .ok (.iload_n 2, 1) := by decide +kernel
theorem dX9_bar_16 : decode cX9_bar 16 = .ok (.invokevirtual 90, 3) := by decide +kernel
theorem dX9_bar_19 : decode cX9_bar 19 = .ok (.ifCond .eq 15, 3) := by decide +kernel
theorem dX9_bar_22 : decode cX9_bar 22 = .ok (.aload_n 0, 1) := by decide +kernel
theorem dX9_bar_23 : decode cX9_bar 23 = .ok (.getfield 12, 3) := by decide +kernel
theorem dX9_bar_26 : decode cX9_bar 26 = .ok (.iload_n 1, 1) := by decide +kernel
theorem dX9_bar_27 : decode cX9_bar 27 = .ok (.iload_n 2, 1) := by decide +kernel
theorem dX9_bar_28 : decode cX9_bar 28 = .ok (.invokevirtual 167, 3) := by decide +kernel
theorem dX9_bar_31 : decode cX9_bar 31 = .ok (.goto 4, 3) := by decide +kernel
theorem dX9_bar_34 : decode cX9_bar 34 = .ok (.iconst (-1), 1) := by decide +kernel
theorem dX9_bar_35 : decode cX9_bar 35 = .ok (.ireturn, 1) := by decide +kernel
theorem dX9_may_0 : decode cX9_may 0 = .ok (.aload_n 0, 1) := by decide +kernel
theorem dX9_may_1 : decode cX9_may 1 = .ok (.getfield 12, 3) := by decide +kernel
theorem dX9_may_4 : decode cX9_may 4 = .ok (.iload_n 1, 1) := by decide +kernel
theorem dX9_may_5 : decode cX9_may 5 = .ok (.invokevirtual 119, 3) := by decide +kernel
theorem dX9_may_8 : decode cX9_may 8 = .ok (.ifCond .ne 5, 3) := by decide +kernel
theorem dX9_may_11 : decode cX9_may 11 = .ok (.iconst (-1), 1) := by decide +kernel
theorem dX9_may_12 : decode cX9_may 12 = .ok (.ireturn, 1) := by decide +kernel
theorem dX9_may_13 : decode cX9_may 13 = .ok (.iload_n 2, 1) := by decide +kernel
theorem dX9_may_14 : decode cX9_may 14 = .ok (.iconst 0, 1) := by decide +kernel
theorem dX9_may_15 : decode cX9_may 15 = .ok (.bipush 29, 2) := by decide +kernel
theorem dX9_may_17 : decode cX9_may 17 = .ok (.invokestatic 72, 3) := by decide +kernel
theorem dX9_may_20 : decode cX9_may 20 = .ok (.ifCond .eq 18, 3) := by decide +kernel
theorem dX9_may_23 : decode cX9_may 23 = .ok (.aload_n 0, 1) := by decide +kernel
theorem dX9_may_24 : decode cX9_may 24 = .ok (.getfield 12, 3) := by decide +kernel
theorem dX9_may_27 : decode cX9_may 27 = .ok (.iload_n 1, 1) := by decide +kernel
theorem dX9_may_28 : decode cX9_may 28 = .ok (.invokevirtual 170, 3) := by decide +kernel
theorem dX9_may_31 : decode cX9_may 31 = .ok (.iload_n 2, 1) := by decide +kernel
theorem dX9_may_32 : decode cX9_may 32 = .ok (.iushr, 1) := by decide +kernel
theorem dX9_may_33 : decode cX9_may 33 = .ok (.iconst 1, 1) := by decide +kernel
theorem dX9_may_34 : decode cX9_may 34 = .ok (.iand, 1) := by decide +kernel
theorem dX9_may_35 : decode cX9_may 35 = .ok (.goto 4, 3) := by decide +kernel
theorem dX9_may_38 : decode cX9_may 38 = .ok (.iconst 0, 1) := by decide +kernel
theorem dX9_may_39 : decode cX9_may 39 = .ok (.ireturn, 1) := by decide +kernel
theorem dX9_set_0 : decode cX9_set 0 = .ok (.aload_n 0, 1) := by decide +kernel
theorem dX9_set_1 : decode cX9_set 1 = .ok (.getfield 12, 3) := by decide +kernel
theorem dX9_set_4 : decode cX9_set 4 = .ok (.iload_n 1, 1) := by decide +kernel
theorem dX9_set_5 : decode cX9_set 5 = .ok (.invokevirtual 119, 3) := by decide +kernel
theorem dX9_set_8 : decode cX9_set 8 = .ok (.ifCond .eq 13, 3) := by decide +kernel
theorem dX9_set_11 : decode cX9_set 11 = .ok (.iload_n 2, 1) := by decide +kernel
theorem dX9_set_12 : decode cX9_set 12 = .ok (.iconst (-1), 1) := by decide +kernel
theorem dX9_set_13 : decode cX9_set 13 = .ok (.bipush 29, 2) := by decide +kernel
theorem dX9_set_15 : decode cX9_set 15 = .ok (.invokestatic 72, 3) := by decide +kernel
theorem dX9_set_18 : decode cX9_set 18 = .ok (.ifCond .ne 5, 3) := by decide +kernel
theorem dX9_set_21 : decode cX9_set 21 = .ok (.iconst (-1), 1) := by decide +kernel
theorem dX9_set_22 : decode cX9_set 22 = .ok (.ireturn, 1) := by decide +kernel
theorem dX9_set_23 : decode cX9_set 23 = .ok (.aload_n 0, 1) := by decide +kernel
theorem dX9_set_24 : decode cX9_set 24 = .ok (.getfield 55, 3) := by decide +kernel
theorem dX9_set_27 : decode cX9_set 27 = .ok (.iload_n 1, 1) := by decide +kernel
theorem dX9_set_28 : decode cX9_set 28 = .ok (.iaload, 1) := by decide +kernel
theorem dX9_set_29 : decode cX9_set 29 = .ok (.istore_n 3, 1) := by decide +kernel
theorem dX9_set_30 : decode cX9_set 30 = .ok (.aload_n 0, 1) := by decide +kernel
theorem dX9_set_31 : decode cX9_set 31 = .ok (.getfield 55, 3) := by decide +kernel
theorem dX9_set_34 : decode cX9_set 34 = .ok (.iload_n 1, 1) := by decide +kernel
theorem dX9_set_35 : decode cX9_set 35 = .ok (.iload_n 2, 1) := by decide +kernel
theorem dX9_set_36 : decode cX9_set 36 = .ok (.ifCond .ge 8, 3) := by decide +kernel
theorem dX9_set_39 : decode cX9_set 39 = .ok (.bipush (-2), 2) := by decide +kernel
theorem dX9_set_41 : decode cX9_set 41 = .ok (.goto 4, 3) := by decide +kernel
theorem dX9_set_44 : decode cX9_set 44 = .ok (.iload_n 2, 1) := by decide +kernel
theorem dX9_set_45 : decode cX9_set 45 = .ok (.iastore, 1) := by decide +kernel
theorem dX9_set_46 : decode cX9_set 46 = .ok (.iload_n 3, 1) := by decide +kernel
theorem dX9_set_47 : decode cX9_set 47 = .ok (.ireturn, 1) := by decide +kernel
theorem dX9_channel_0 : decode cX9_channel 0 = .ok (.aload_n 0, 1) := by decide +kernel
theorem dX9_channel_1 : decode cX9_channel 1 = .ok (.getfield 12, 3) := by decide +kernel
theorem dX9_channel_4 : decode cX9_channel 4 = .ok (.iload_n 1, 1) := by decide +kernel
theorem dX9_channel_5 : decode cX9_channel 5 = .ok (.invokevirtual 119, 3) := by decide +kernel
theorem dX9_channel_8 : decode cX9_channel 8 = .ok (.ifCond .eq 12, 3) := by decide +kernel
theorem dX9_channel_11 : decode cX9_channel 11 = .ok (.aload_n 0, 1) := by decide +kernel
theorem dX9_channel_12 : decode cX9_channel 12 = .ok (.getfield 55, 3) := by decide +kernel
theorem dX9_channel_15 : decode cX9_channel 15 = .ok (.iload_n 1, 1) := by decide +kernel
theorem dX9_channel_16 : decode cX9_channel 16 = .ok (.iaload, 1) := by decide +kernel
theorem dX9_channel_17 : decode cX9_channel 17 = .ok (.goto 4, 3) := by decide +kernel
theorem dX9_channel_20 : decode cX9_channel 20 = .ok (.iconst (-1), 1) := by decide +kernel
theorem dX9_channel_21 : decode cX9_channel 21 = .ok (.ireturn, 1) := by decide +kernel
theorem dX9_of_0 : decode cX9_of 0 = .ok (.aload_n 0, 1) := by decide +kernel
theorem dX9_of_1 : decode cX9_of 1 = .ok (.getfield 12, 3) := by decide +kernel
theorem dX9_of_4 : decode cX9_of 4 = .ok (.iload_n 1, 1) := by decide +kernel
theorem dX9_of_5 : decode cX9_of 5 = .ok (.invokevirtual 119, 3) := by decide +kernel
theorem dX9_of_8 : decode cX9_of 8 = .ok (.ifCond .eq 15, 3) := by decide +kernel
theorem dX9_of_11 : decode cX9_of 11 = .ok (.aload_n 0, 1) := by decide +kernel
theorem dX9_of_12 : decode cX9_of 12 = .ok (.getfield 12, 3) := by decide +kernel
theorem dX9_of_15 : decode cX9_of 15 = .ok (.getfield 173, 3) := by decide +kernel
theorem dX9_of_18 : decode cX9_of 18 = .ok (.iload_n 1, 1) := by decide +kernel
theorem dX9_of_19 : decode cX9_of 19 = .ok (.iaload, 1) := by decide +kernel
theorem dX9_of_20 : decode cX9_of 20 = .ok (.goto 4, 3) := by decide +kernel
theorem dX9_of_23 : decode cX9_of 23 = .ok (.iconst (-1), 1) := by decide +kernel
theorem dX9_of_24 : decode cX9_of 24 = .ok (.ireturn, 1) := by decide +kernel
theorem dX9_harm_0 : decode cX9_harm 0 = .ok (.aload_n 0, 1) := by decide +kernel
theorem dX9_harm_1 : decode cX9_harm 1 = .ok (.getfield 21, 3) := by decide +kernel
theorem dX9_harm_4 : decode cX9_harm 4 = .ok (.aload_n 0, 1) := by decide +kernel
theorem dX9_harm_5 : decode cX9_harm 5 = .ok (.getfield 55, 3) := by decide +kernel
theorem dX9_harm_8 : decode cX9_harm 8 = .ok (.invokevirtual 176, 3) := by decide +kernel
theorem dX9_harm_11 : decode cX9_harm 11 = .ok (.ireturn, 1) := by decide +kernel
theorem dX9_kept_0 : decode cX9_kept 0 = .ok (.aload_n 0, 1) := by decide +kernel
theorem dX9_kept_1 : decode cX9_kept 1 = .ok (.getfield 21, 3) := by decide +kernel
theorem dX9_kept_4 : decode cX9_kept 4 = .ok (.aload_n 0, 1) := by decide +kernel
theorem dX9_kept_5 : decode cX9_kept 5 = .ok (.getfield 55, 3) := by decide +kernel
theorem dX9_kept_8 : decode cX9_kept 8 = .ok (.invokevirtual 179, 3) := by decide +kernel
theorem dX9_kept_11 : decode cX9_kept 11 = .ok (.aload_n 0, 1) := by decide +kernel
theorem dX9_kept_12 : decode cX9_kept 12 = .ok (.getfield 12, 3) := by decide +kernel
theorem dX9_kept_15 : decode cX9_kept 15 = .ok (.getfield 83, 3) := by decide +kernel
theorem dX9_kept_18 : decode cX9_kept 18 = .ok (.if_icmp .ne 21, 3) := by decide +kernel
theorem dX9_kept_21 : decode cX9_kept 21 = .ok (.aload_n 0, 1) := by decide +kernel
theorem dX9_kept_22 : decode cX9_kept 22 = .ok (.getfield 21, 3) := by decide +kernel
theorem dX9_kept_25 : decode cX9_kept 25 = .ok (.aload_n 0, 1) := by decide +kernel
theorem dX9_kept_26 : decode cX9_kept 26 = .ok (.getfield 55, 3) := by decide +kernel
theorem dX9_kept_29 : decode cX9_kept 29 = .ok (.invokevirtual 176, 3) := by decide +kernel
theorem dX9_kept_32 : decode cX9_kept 32 = .ok (.ifCond .ne 7, 3) := by decide +kernel
theorem dX9_kept_35 : decode cX9_kept 35 = .ok (.iconst 1, 1) := by decide +kernel
theorem dX9_kept_36 : decode cX9_kept 36 = .ok (.goto 4, 3) := by decide +kernel
theorem dX9_kept_39 : decode cX9_kept 39 = .ok (.iconst 0, 1) := by decide +kernel
theorem dX9_kept_40 : decode cX9_kept 40 = .ok (.ireturn, 1) := by decide +kernel
theorem dX9_broken_0 : decode cX9_broken 0 = .ok (.iload_n 1, 1) := by decide +kernel
theorem dX9_broken_1 : decode cX9_broken 1 = .ok (.tableswitch 82 0 3 #[31, 43, 55, 67], 31) := by decide +kernel
theorem dX9_broken_32 : decode cX9_broken 32 = .ok (.aload_n 0, 1) := by decide +kernel
theorem dX9_broken_33 : decode cX9_broken 33 = .ok (.getfield 21, 3) := by decide +kernel
theorem dX9_broken_36 : decode cX9_broken 36 = .ok (.aload_n 0, 1) := by decide +kernel
theorem dX9_broken_37 : decode cX9_broken 37 = .ok (.getfield 55, 3) := by decide +kernel
theorem dX9_broken_40 : decode cX9_broken 40 = .ok (.invokevirtual 182, 3) := by decide +kernel
theorem dX9_broken_43 : decode cX9_broken 43 = .ok (.ireturn, 1) := by decide +kernel
theorem dX9_broken_44 : decode cX9_broken 44 = .ok (.aload_n 0, 1) := by decide +kernel
theorem dX9_broken_45 : decode cX9_broken 45 = .ok (.getfield 21, 3) := by decide +kernel
theorem dX9_broken_48 : decode cX9_broken 48 = .ok (.aload_n 0, 1) := by decide +kernel
theorem dX9_broken_49 : decode cX9_broken 49 = .ok (.getfield 55, 3) := by decide +kernel
theorem dX9_broken_52 : decode cX9_broken 52 = .ok (.invokevirtual 185, 3) := by decide +kernel
theorem dX9_broken_55 : decode cX9_broken 55 = .ok (.ireturn, 1) := by decide +kernel
theorem dX9_broken_56 : decode cX9_broken 56 = .ok (.aload_n 0, 1) := by decide +kernel
theorem dX9_broken_57 : decode cX9_broken 57 = .ok (.getfield 21, 3) := by decide +kernel
theorem dX9_broken_60 : decode cX9_broken 60 = .ok (.aload_n 0, 1) := by decide +kernel
theorem dX9_broken_61 : decode cX9_broken 61 = .ok (.getfield 55, 3) := by decide +kernel
theorem dX9_broken_64 : decode cX9_broken 64 = .ok (.invokevirtual 188, 3) := by decide +kernel
theorem dX9_broken_67 : decode cX9_broken 67 = .ok (.ireturn, 1) := by decide +kernel
theorem dX9_broken_68 : decode cX9_broken 68 = .ok (.aload_n 0, 1) := by decide +kernel
theorem dX9_broken_69 : decode cX9_broken 69 = .ok (.getfield 21, 3) := by decide +kernel
theorem dX9_broken_72 : decode cX9_broken 72 = .ok (.aload_n 0, 1) := by decide +kernel
theorem dX9_broken_73 : decode cX9_broken 73 = .ok (.getfield 55, 3) := by decide +kernel
theorem dX9_broken_76 : decode cX9_broken 76 = .ok (.invokevirtual 160, 3) := by decide +kernel
theorem dX9_broken_79 : decode cX9_broken 79 = .ok (.invokestatic 107, 3) := by decide +kernel
theorem dX9_broken_82 : decode cX9_broken 82 = .ok (.ireturn, 1) := by decide +kernel
theorem dX9_broken_83 : decode cX9_broken 83 = .ok (.iconst (-1), 1) := by decide +kernel
theorem dX9_broken_84 : decode cX9_broken 84 = .ok (.ireturn, 1) := by decide +kernel
theorem dX9_pair_0 : decode cX9_pair 0 = .ok (.iload_n 1, 1) := by decide +kernel
theorem dX9_pair_1 : decode cX9_pair 1 = .ok (.ifCond .lt 12, 3) := by decide +kernel
theorem dX9_pair_4 : decode cX9_pair 4 = .ok (.iload_n 2, 1) := by decide +kernel
theorem dX9_pair_5 : decode cX9_pair 5 = .ok (.iconst 0, 1) := by decide +kernel
theorem dX9_pair_6 : decode cX9_pair 6 = .ok (.iconst 2, 1) := by decide +kernel
theorem dX9_pair_7 : decode cX9_pair 7 = .ok (.invokestatic 72, 3) := by decide +kernel
theorem dX9_pair_10 : decode cX9_pair 10 = .ok (.ifCond .ne 5, 3) := by decide +kernel
theorem dX9_pair_13 : decode cX9_pair 13 = .ok (.iconst (-1), 1) := by decide +kernel
theorem dX9_pair_14 : decode cX9_pair 14 = .ok (.ireturn, 1) := by decide +kernel
theorem dX9_pair_15 : decode cX9_pair 15 = .ok (.iload_n 1, 1) := by decide +kernel
theorem dX9_pair_16 : decode cX9_pair 16 = .ok (.istore_n 3, 1) := by decide +kernel
theorem dX9_pair_17 : decode cX9_pair 17 = .ok (.iconst 0, 1) := by decide +kernel
theorem dX9_pair_18 : decode cX9_pair 18 = .ok (.istore 4, 2) := by decide +kernel
theorem dX9_pair_20 : decode cX9_pair 20 = .ok (.iload 4, 2) := by decide +kernel
theorem dX9_pair_22 : decode cX9_pair 22 = .ok (.aload_n 0, 1) := by decide +kernel
theorem dX9_pair_23 : decode cX9_pair 23 = .ok (.getfield 12, 3) := by decide +kernel
theorem dX9_pair_26 : decode cX9_pair 26 = .ok (.getfield 83, 3) := by decide +kernel
theorem dX9_pair_29 : decode cX9_pair 29 = .ok (.if_icmp .ge 94, 3) := by decide +kernel
theorem dX9_pair_32 : decode cX9_pair 32 = .ok (.iload 4, 2) := by decide +kernel
theorem dX9_pair_34 : decode cX9_pair 34 = .ok (.iconst 1, 1) := by decide +kernel
theorem dX9_pair_35 : decode cX9_pair 35 = .ok (.iadd, 1) := by decide +kernel
theorem dX9_pair_36 : decode cX9_pair 36 = .ok (.istore 5, 2) := by decide +kernel
theorem dX9_pair_38 : decode cX9_pair 38 = .ok (.iload 5, 2) := by decide +kernel
theorem dX9_pair_40 : decode cX9_pair 40 = .ok (.aload_n 0, 1) := by decide +kernel
theorem dX9_pair_41 : decode cX9_pair 41 = .ok (.getfield 12, 3) := by decide +kernel
theorem dX9_pair_44 : decode cX9_pair 44 = .ok (.getfield 83, 3) := by decide +kernel
theorem dX9_pair_47 : decode cX9_pair 47 = .ok (.if_icmp .ge 70, 3) := by decide +kernel
theorem dX9_pair_50 : decode cX9_pair 50 = .ok (.aload_n 0, 1) := by decide +kernel
theorem dX9_pair_51 : decode cX9_pair 51 = .ok (.getfield 21, 3) := by decide +kernel
theorem dX9_pair_54 : decode cX9_pair 54 = .ok (.aload_n 0, 1) := by decide +kernel
theorem dX9_pair_55 : decode cX9_pair 55 = .ok (.getfield 55, 3) := by decide +kernel
theorem dX9_pair_58 : decode cX9_pair 58 = .ok (.iload 4, 2) := by decide +kernel
theorem dX9_pair_60 : decode cX9_pair 60 = .ok (.iload 5, 2) := by decide +kernel
theorem dX9_pair_62 : decode cX9_pair 62 = .ok (.invokevirtual 191, 3) := by decide +kernel
theorem dX9_pair_65 : decode cX9_pair 65 = .ok (.istore 6, 2) := by decide +kernel
theorem dX9_pair_67 : decode cX9_pair 67 = .ok (.iload 6, 2) := by decide +kernel
theorem dX9_pair_69 : decode cX9_pair 69 = .ok (.ifCond .le 29, 3) := by decide +kernel
theorem dX9_pair_72 : decode cX9_pair 72 = .ok (.iload_n 3, 1) := by decide +kernel
theorem dX9_pair_73 : decode cX9_pair 73 = .ok (.ifCond .ne 25, 3) := by decide +kernel
theorem dX9_pair_76 : decode cX9_pair 76 = .ok (.iload_n 2, 1) := by decide +kernel
theorem dX9_pair_77 : decode cX9_pair 77 = .ok (.ifCond .ne 8, 3) := by decide +kernel
theorem dX9_pair_80 : decode cX9_pair 80 = .ok (.iload 4, 2) := by decide +kernel
theorem dX9_pair_82 : decode cX9_pair 82 = .ok (.goto 15, 3) := by decide +kernel
theorem dX9_pair_85 : decode cX9_pair 85 = .ok (.iload_n 2, 1) := by decide +kernel
theorem dX9_pair_86 : decode cX9_pair 86 = .ok (.iconst 1, 1) := by decide +kernel
theorem dX9_pair_87 : decode cX9_pair 87 = .ok (.if_icmp .ne 8, 3) := by decide +kernel
theorem dX9_pair_90 : decode cX9_pair 90 = .ok (.iload 5, 2) := by decide +kernel
theorem dX9_pair_92 : decode cX9_pair 92 = .ok (.goto 5, 3) := by decide +kernel
theorem dX9_pair_95 : decode cX9_pair 95 = .ok (.iload 6, 2) := by decide +kernel
theorem dX9_pair_97 : decode cX9_pair 97 = .ok (.ireturn, 1) := by decide +kernel
theorem dX9_pair_98 : decode cX9_pair 98 = .ok (.iload_n 3, 1) := by decide +kernel
theorem dX9_pair_99 : decode cX9_pair 99 = .ok (.iload 6, 2) := by decide +kernel
theorem dX9_pair_101 : decode cX9_pair 101 = .ok (.ifCond .le 7, 3) := by decide +kernel
theorem dX9_pair_104 : decode cX9_pair 104 = .ok (.iconst 1, 1) := by decide +kernel
theorem dX9_pair_105 : decode cX9_pair 105 = .ok (.goto 4, 3) := by decide +kernel
theorem dX9_pair_108 : decode cX9_pair 108 = .ok (.iconst 0, 1) := by decide +kernel
theorem dX9_pair_109 : decode cX9_pair 109 = .ok (.isub, 1) := by decide +kernel
theorem dX9_pair_110 : decode cX9_pair 110 = .ok (.istore_n 3, 1) := by decide +kernel
theorem dX9_pair_111 : decode cX9_pair 111 = .ok (.iinc 5 1, 3) := by decide +kernel
theorem dX9_pair_114 : decode cX9_pair 114 = .ok (.goto (-76), 3) := by decide +kernel
theorem dX9_pair_117 : decode cX9_pair 117 = .ok (.iinc 4 1, 3) := by decide +kernel
theorem dX9_pair_120 : decode cX9_pair 120 = .ok (.goto (-100), 3) := by decide +kernel
theorem dX9_pair_123 : decode cX9_pair 123 = .ok (.iconst (-1), 1) := by decide +kernel
theorem dX9_pair_124 : decode cX9_pair 124 = .ok (.ireturn, 1) := by decide +kernel
theorem dX9_plan_0 : decode cX9_plan 0 = .ok (.iload_n 1, 1) := by decide +kernel
theorem dX9_plan_1 : decode cX9_plan 1 = .ok (.iconst 1, 1) := by decide +kernel
theorem dX9_plan_2 : decode cX9_plan 2 = .ok (.bipush 30, 2) := by decide +kernel
theorem dX9_plan_4 : decode cX9_plan 4 = .ok (.invokestatic 72, 3) := by decide +kernel
theorem dX9_plan_7 : decode cX9_plan 7 = .ok (.ifCond .ne 5, 3) := by decide +kernel
theorem dX9_plan_10 : decode cX9_plan 10 = .ok (.iconst (-1), 1) := by decide +kernel
theorem dX9_plan_11 : decode cX9_plan 11 = .ok (.ireturn, 1) := by decide +kernel
theorem dX9_plan_12 : decode cX9_plan 12 = .ok (.aload_n 0, 1) := by decide +kernel
theorem dX9_plan_13 : decode cX9_plan 13 = .ok (.getfield 30, 3) := by decide +kernel
theorem dX9_plan_16 : decode cX9_plan 16 = .ok (.iconst 0, 1) := by decide +kernel
theorem dX9_plan_17 : decode cX9_plan 17 = .ok (.putfield 195, 3) := by decide +kernel
theorem dX9_plan_20 : decode cX9_plan 20 = .ok (.aload_n 0, 1) := by decide +kernel
theorem dX9_plan_21 : decode cX9_plan 21 = .ok (.getfield 30, 3) := by decide +kernel
theorem dX9_plan_24 : decode cX9_plan 24 = .ok (.iload_n 1, 1) := by decide +kernel
theorem dX9_plan_25 : decode cX9_plan 25 = .ok (.invokevirtual 198, 3) := by decide +kernel
theorem dX9_plan_28 : decode cX9_plan 28 = .ok (.istore_n 2, 1) := by decide +kernel
theorem dX9_plan_29 : decode cX9_plan 29 = .ok (.iload_n 2, 1) := by decide +kernel
theorem dX9_plan_30 : decode cX9_plan 30 = .ok (.iconst 1, 1) := by decide +kernel
theorem dX9_plan_31 : decode cX9_plan 31 = .ok (.if_icmp .ne 14, 3) := by decide +kernel
theorem dX9_plan_34 : decode cX9_plan 34 = .ok (.aload_n 0, 1) := by decide +kernel
theorem dX9_plan_35 : decode cX9_plan 35 = .ok (.getfield 30, 3) := by decide +kernel
theorem dX9_plan_38 : decode cX9_plan 38 = .ok (.aload_n 0, 1) := by decide +kernel
theorem dX9_plan_39 : decode cX9_plan 39 = .ok (.getfield 55, 3) := by decide +kernel
theorem dX9_plan_42 : decode cX9_plan 42 = .ok (.invokevirtual 201, 3) := by decide +kernel
theorem dX9_plan_45 : decode cX9_plan 45 = .ok (.iload_n 2, 1) := by decide +kernel
theorem dX9_plan_46 : decode cX9_plan 46 = .ok (.ireturn, 1) := by decide +kernel
theorem dX9_tries_0 : decode cX9_tries 0 = .ok (.aload_n 0, 1) := by decide +kernel
theorem dX9_tries_1 : decode cX9_tries 1 = .ok (.getfield 30, 3) := by decide +kernel
theorem dX9_tries_4 : decode cX9_tries 4 = .ok (.getfield 195, 3) := by decide +kernel
theorem dX9_tries_7 : decode cX9_tries 7 = .ok (.ireturn, 1) := by decide +kernel
theorem dX9_least_0 : decode cX9_least 0 = .ok (.aload_n 0, 1) := by decide +kernel
theorem dX9_least_1 : decode cX9_least 1 = .ok (.getfield 30, 3) := by decide +kernel
theorem dX9_least_4 : decode cX9_least 4 = .ok (.iconst 0, 1) := by decide +kernel
theorem dX9_least_5 : decode cX9_least 5 = .ok (.putfield 195, 3) := by decide +kernel
theorem dX9_least_8 : decode cX9_least 8 = .ok (.iconst 1, 1) := by decide +kernel
theorem dX9_least_9 : decode cX9_least 9 = .ok (.istore_n 1, 1) := by decide +kernel
theorem dX9_least_10 : decode cX9_least 10 = .ok (.iload_n 1, 1) := by decide +kernel
theorem dX9_least_11 : decode cX9_least 11 = .ok (.bipush 30, 2) := by decide +kernel
theorem dX9_least_13 : decode cX9_least 13 = .ok (.if_icmp .gt 45, 3) := by decide +kernel
theorem dX9_least_16 : decode cX9_least 16 = .ok (.aload_n 0, 1) := by decide +kernel
theorem dX9_least_17 : decode cX9_least 17 = .ok (.getfield 30, 3) := by decide +kernel
theorem dX9_least_20 : decode cX9_least 20 = .ok (.iload_n 1, 1) := by decide +kernel
theorem dX9_least_21 : decode cX9_least 21 = .ok (.invokevirtual 198, 3) := by decide +kernel
theorem dX9_least_24 : decode cX9_least 24 = .ok (.istore_n 2, 1) := by decide +kernel
theorem dX9_least_25 : decode cX9_least 25 = .ok (.iload_n 2, 1) := by decide +kernel
theorem dX9_least_26 : decode cX9_least 26 = .ok (.bipush (-2), 2) := by decide +kernel
theorem dX9_least_28 : decode cX9_least 28 = .ok (.if_icmp .ne 6, 3) := by decide +kernel
theorem dX9_least_31 : decode cX9_least 31 = .ok (.bipush (-2), 2) := by decide +kernel
theorem dX9_least_33 : decode cX9_least 33 = .ok (.ireturn, 1) := by decide +kernel
theorem dX9_least_34 : decode cX9_least 34 = .ok (.iload_n 2, 1) := by decide +kernel
theorem dX9_least_35 : decode cX9_least 35 = .ok (.iconst 1, 1) := by decide +kernel
theorem dX9_least_36 : decode cX9_least 36 = .ok (.if_icmp .ne 16, 3) := by decide +kernel
theorem dX9_least_39 : decode cX9_least 39 = .ok (.aload_n 0, 1) := by decide +kernel
theorem dX9_least_40 : decode cX9_least 40 = .ok (.getfield 30, 3) := by decide +kernel
theorem dX9_least_43 : decode cX9_least 43 = .ok (.aload_n 0, 1) := by decide +kernel
theorem dX9_least_44 : decode cX9_least 44 = .ok (.getfield 55, 3) := by decide +kernel
theorem dX9_least_47 : decode cX9_least 47 = .ok (.invokevirtual 201, 3) := by decide +kernel
theorem dX9_least_50 : decode cX9_least 50 = .ok (.iload_n 1, 1) := by decide +kernel
theorem dX9_least_51 : decode cX9_least 51 = .ok (.ireturn, 1) := by decide +kernel
theorem dX9_least_52 : decode cX9_least 52 = .ok (.iinc 1 1, 3) := by decide +kernel
theorem dX9_least_55 : decode cX9_least 55 = .ok (.goto (-45), 3) := by decide +kernel
theorem dX9_least_58 : decode cX9_least 58 = .ok (.bipush (-3), 2) := by decide +kernel
theorem dX9_least_60 : decode cX9_least 60 = .ok (.ireturn, 1) := by decide +kernel
theorem dX9_span_0 : decode cX9_span 0 = .ok (.ldc 205, 2) := by decide +kernel
theorem dX9_span_2 : decode cX9_span 2 = .ok (.istore_n 1, 1) := by decide +kernel
theorem dX9_span_3 : decode cX9_span 3 = .ok (.bipush (-2), 2) := by decide +kernel
theorem dX9_span_5 : decode cX9_span 5 = .ok (.istore_n 2, 1) := by decide +kernel
theorem dX9_span_6 : decode cX9_span 6 = .ok (.iconst 0, 1) := by decide +kernel
theorem dX9_span_7 : decode cX9_span 7 = .ok (.istore_n 3, 1) := by decide +kernel
theorem dX9_span_8 : decode cX9_span 8 = .ok (.iload_n 3, 1) := by decide +kernel
theorem dX9_span_9 : decode cX9_span 9 = .ok (.aload_n 0, 1) := by decide +kernel
theorem dX9_span_10 : decode cX9_span 10 = .ok (.getfield 12, 3) := by decide +kernel
theorem dX9_span_13 : decode cX9_span 13 = .ok (.getfield 83, 3) := by decide +kernel
theorem dX9_span_16 : decode cX9_span 16 = .ok (.if_icmp .ge 49, 3) := by decide +kernel
theorem dX9_span_19 : decode cX9_span 19 = .ok (.aload_n 0, 1) := by decide +kernel
theorem dX9_span_20 : decode cX9_span 20 = .ok (.getfield 55, 3) := by decide +kernel
theorem dX9_span_23 : decode cX9_span 23 = .ok (.iload_n 3, 1) := by decide +kernel
theorem dX9_span_24 : decode cX9_span 24 = .ok (.iaload, 1) := by decide +kernel
theorem dX9_span_25 : decode cX9_span 25 = .ok (.ifCond .lt 34, 3) := by decide +kernel
theorem dX9_span_28 : decode cX9_span 28 = .ok (.iload_n 1, 1) := by decide +kernel
theorem dX9_span_29 : decode cX9_span 29 = .ok (.aload_n 0, 1) := by decide +kernel
theorem dX9_span_30 : decode cX9_span 30 = .ok (.getfield 55, 3) := by decide +kernel
theorem dX9_span_33 : decode cX9_span 33 = .ok (.iload_n 3, 1) := by decide +kernel
theorem dX9_span_34 : decode cX9_span 34 = .ok (.iaload, 1) := by decide +kernel
theorem dX9_span_35 : decode cX9_span 35 = .ok (.invokestatic 206, 3) := by decide +kernel
theorem dX9_span_38 : decode cX9_span 38 = .ok (.istore_n 1, 1) := by decide +kernel
theorem dX9_span_39 : decode cX9_span 39 = .ok (.iload_n 2, 1) := by decide +kernel
theorem dX9_span_40 : decode cX9_span 40 = .ok (.aload_n 0, 1) := by decide +kernel
theorem dX9_span_41 : decode cX9_span 41 = .ok (.getfield 55, 3) := by decide +kernel
theorem dX9_span_44 : decode cX9_span 44 = .ok (.iload_n 3, 1) := by decide +kernel
theorem dX9_span_45 : decode cX9_span 45 = .ok (.iaload, 1) := by decide +kernel
theorem dX9_span_46 : decode cX9_span 46 = .ok (.aload_n 0, 1) := by decide +kernel
theorem dX9_span_47 : decode cX9_span 47 = .ok (.getfield 12, 3) := by decide +kernel
theorem dX9_span_50 : decode cX9_span 50 = .ok (.iload_n 3, 1) := by decide +kernel
theorem dX9_span_51 : decode cX9_span 51 = .ok (.invokevirtual 211, 3) := by decide +kernel
theorem dX9_span_54 : decode cX9_span 54 = .ok (.iadd, 1) := by decide +kernel
theorem dX9_span_55 : decode cX9_span 55 = .ok (.invokestatic 214, 3) := by decide +kernel
theorem dX9_span_58 : decode cX9_span 58 = .ok (.istore_n 2, 1) := by decide +kernel
theorem dX9_span_59 : decode cX9_span 59 = .ok (.iinc 3 1, 3) := by decide +kernel
theorem dX9_span_62 : decode cX9_span 62 = .ok (.goto (-54), 3) := by decide +kernel
theorem dX9_span_65 : decode cX9_span 65 = .ok (.iload_n 2, 1) := by decide +kernel
theorem dX9_span_66 : decode cX9_span 66 = .ok (.ifCond .ge 8, 3) := by decide +kernel
theorem dX9_span_69 : decode cX9_span 69 = .ok (.bipush (-2), 2) := by decide +kernel
theorem dX9_span_71 : decode cX9_span 71 = .ok (.goto 6, 3) := by decide +kernel
theorem dX9_span_74 : decode cX9_span 74 = .ok (.iload_n 2, 1) := by decide +kernel
theorem dX9_span_75 : decode cX9_span 75 = .ok (.iload_n 1, 1) := by decide +kernel
theorem dX9_span_76 : decode cX9_span 76 = .ok (.isub, 1) := by decide +kernel
theorem dX9_span_77 : decode cX9_span 77 = .ok (.ireturn, 1) := by decide +kernel
theorem dX9_better_0 : decode cX9_better 0 = .ok (.iload_n 1, 1) := by decide +kernel
theorem dX9_better_1 : decode cX9_better 1 = .ok (.iconst 1, 1) := by decide +kernel
theorem dX9_better_2 : decode cX9_better 2 = .ok (.bipush 50, 2) := by decide +kernel
theorem dX9_better_4 : decode cX9_better 4 = .ok (.invokestatic 72, 3) := by decide +kernel
theorem dX9_better_7 : decode cX9_better 7 = .ok (.ifCond .ne 5, 3) := by decide +kernel
theorem dX9_better_10 : decode cX9_better 10 = .ok (.iconst (-1), 1) := by decide +kernel
theorem dX9_better_11 : decode cX9_better 11 = .ok (.ireturn, 1) := by decide +kernel
theorem dX9_better_12 : decode cX9_better 12 = .ok (.iconst 0, 1) := by decide +kernel
theorem dX9_better_13 : decode cX9_better 13 = .ok (.istore_n 2, 1) := by decide +kernel
theorem dX9_better_14 : decode cX9_better 14 = .ok (.iload_n 2, 1) := by decide +kernel
theorem dX9_better_15 : decode cX9_better 15 = .ok (.iload_n 1, 1) := by decide +kernel
theorem dX9_better_16 : decode cX9_better 16 = .ok (.if_icmp .ge 23, 3) := by decide +kernel
theorem dX9_better_19 : decode cX9_better 19 = .ok (.aload_n 0, 1) := by decide +kernel
theorem dX9_better_20 : decode cX9_better 20 = .ok (.getfield 37, 3) := by decide +kernel
theorem dX9_better_23 : decode cX9_better 23 = .ok (.aload_n 0, 1) := by decide +kernel
theorem dX9_better_24 : decode cX9_better 24 = .ok (.getfield 55, 3) := by decide +kernel
theorem dX9_better_27 : decode cX9_better 27 = .ok (.invokevirtual 217, 3) := by decide +kernel
theorem dX9_better_30 : decode cX9_better 30 = .ok (.ifCond .eq 9, 3) := by decide +kernel
theorem dX9_better_33 : decode cX9_better 33 = .ok (.iinc 2 1, 3) := by decide +kernel
theorem dX9_better_36 : decode cX9_better 36 = .ok (.goto (-22), 3) := by decide +kernel
theorem dX9_better_39 : decode cX9_better 39 = .ok (.iload_n 2, 1) := by decide +kernel
theorem dX9_better_40 : decode cX9_better 40 = .ok (.ireturn, 1) := by decide +kernel
theorem dX9_fewest_0 : decode cX9_fewest 0 = .ok (.iload_n 1, 1) := by decide +kernel
theorem dX9_fewest_1 : decode cX9_fewest 1 = .ok (.iconst 0, 1) := by decide +kernel
theorem dX9_fewest_2 : decode cX9_fewest 2 = .ok (.iconst 2, 1) := by decide +kernel
theorem dX9_fewest_3 : decode cX9_fewest 3 = .ok (.invokestatic 72, 3) := by decide +kernel
theorem dX9_fewest_6 : decode cX9_fewest 6 = .ok (.ifCond .ne 5, 3) := by decide +kernel
theorem dX9_fewest_9 : decode cX9_fewest 9 = .ok (.iconst (-1), 1) := by decide +kernel
theorem dX9_fewest_10 : decode cX9_fewest 10 = .ok (.ireturn, 1) := by decide +kernel
theorem dX9_fewest_11 : decode cX9_fewest 11 = .ok (.aload_n 0, 1) := by decide +kernel
theorem dX9_fewest_12 : decode cX9_fewest 12 = .ok (.getfield 21, 3) := by decide +kernel
theorem dX9_fewest_15 : decode cX9_fewest 15 = .ok (.aload_n 0, 1) := by decide +kernel
theorem dX9_fewest_16 : decode cX9_fewest 16 = .ok (.getfield 55, 3) := by decide +kernel
theorem dX9_fewest_19 : decode cX9_fewest 19 = .ok (.invokevirtual 221, 3) := by decide +kernel
theorem dX9_fewest_22 : decode cX9_fewest 22 = .ok (.ifCond .eq 5, 3) := by decide +kernel
theorem dX9_fewest_25 : decode cX9_fewest 25 = .ok (.iconst 0, 1) := by decide +kernel
theorem dX9_fewest_26 : decode cX9_fewest 26 = .ok (.ireturn, 1) := by decide +kernel
theorem dX9_fewest_27 : decode cX9_fewest 27 = .ok (.iload_n 1, 1) := by decide +kernel
theorem dX9_fewest_28 : decode cX9_fewest 28 = .ok (.iconst 1, 1) := by decide +kernel
theorem dX9_fewest_29 : decode cX9_fewest 29 = .ok (.if_icmp .lt 19, 3) := by decide +kernel
theorem dX9_fewest_32 : decode cX9_fewest 32 = .ok (.aload_n 0, 1) := by decide +kernel
theorem dX9_fewest_33 : decode cX9_fewest 33 = .ok (.getfield 37, 3) := by decide +kernel
theorem dX9_fewest_36 : decode cX9_fewest 36 = .ok (.aload_n 0, 1) := by decide +kernel
theorem dX9_fewest_37 : decode cX9_fewest 37 = .ok (.getfield 55, 3) := by decide +kernel
theorem dX9_fewest_40 : decode cX9_fewest 40 = .ok (.invokevirtual 224, 3) := by decide +kernel
theorem dX9_fewest_43 : decode cX9_fewest 43 = .ok (.ifCond .eq 5, 3) := by decide +kernel
theorem dX9_fewest_46 : decode cX9_fewest 46 = .ok (.iconst 1, 1) := by decide +kernel
theorem dX9_fewest_47 : decode cX9_fewest 47 = .ok (.ireturn, 1) := by decide +kernel
theorem dX9_fewest_48 : decode cX9_fewest 48 = .ok (.iload_n 1, 1) := by decide +kernel
theorem dX9_fewest_49 : decode cX9_fewest 49 = .ok (.iconst 2, 1) := by decide +kernel
theorem dX9_fewest_50 : decode cX9_fewest 50 = .ok (.if_icmp .lt 19, 3) := by decide +kernel
theorem dX9_fewest_53 : decode cX9_fewest 53 = .ok (.aload_n 0, 1) := by decide +kernel
theorem dX9_fewest_54 : decode cX9_fewest 54 = .ok (.getfield 37, 3) := by decide +kernel
theorem dX9_fewest_57 : decode cX9_fewest 57 = .ok (.aload_n 0, 1) := by decide +kernel
theorem dX9_fewest_58 : decode cX9_fewest 58 = .ok (.getfield 55, 3) := by decide +kernel
theorem dX9_fewest_61 : decode cX9_fewest 61 = .ok (.invokevirtual 227, 3) := by decide +kernel
theorem dX9_fewest_64 : decode cX9_fewest 64 = .ok (.ifCond .eq 5, 3) := by decide +kernel
theorem dX9_fewest_67 : decode cX9_fewest 67 = .ok (.iconst 2, 1) := by decide +kernel
theorem dX9_fewest_68 : decode cX9_fewest 68 = .ok (.ireturn, 1) := by decide +kernel
theorem dX9_fewest_69 : decode cX9_fewest 69 = .ok (.bipush (-2), 2) := by decide +kernel
theorem dX9_fewest_71 : decode cX9_fewest 71 = .ok (.ireturn, 1) := by decide +kernel
theorem dX9_bound_0 : decode cX9_bound 0 = .ok (.iload_n 1, 1) := by decide +kernel
theorem dX9_bound_1 : decode cX9_bound 1 = .ok (.iconst 1, 1) := by decide +kernel
theorem dX9_bound_2 : decode cX9_bound 2 = .ok (.iconst 1, 1) := by decide +kernel
theorem dX9_bound_3 : decode cX9_bound 3 = .ok (.aload_n 0, 1) := by decide +kernel
theorem dX9_bound_4 : decode cX9_bound 4 = .ok (.getfield 12, 3) := by decide +kernel
theorem dX9_bound_7 : decode cX9_bound 7 = .ok (.getfield 80, 3) := by decide +kernel
theorem dX9_bound_10 : decode cX9_bound 10 = .ok (.ishl, 1) := by decide +kernel
theorem dX9_bound_11 : decode cX9_bound 11 = .ok (.iconst 1, 1) := by decide +kernel
theorem dX9_bound_12 : decode cX9_bound 12 = .ok (.isub, 1) := by decide +kernel
theorem dX9_bound_13 : decode cX9_bound 13 = .ok (.invokestatic 72, 3) := by decide +kernel
theorem dX9_bound_16 : decode cX9_bound 16 = .ok (.ifCond .ne 5, 3) := by decide +kernel
theorem dX9_bound_19 : decode cX9_bound 19 = .ok (.iconst (-1), 1) := by decide +kernel
theorem dX9_bound_20 : decode cX9_bound 20 = .ok (.ireturn, 1) := by decide +kernel
theorem dX9_bound_21 : decode cX9_bound 21 = .ok (.aload_n 0, 1) := by decide +kernel
theorem dX9_bound_22 : decode cX9_bound 22 = .ok (.getfield 44, 3) := by decide +kernel
theorem dX9_bound_25 : decode cX9_bound 25 = .ok (.iload_n 1, 1) := by decide +kernel
theorem dX9_bound_26 : decode cX9_bound 26 = .ok (.invokevirtual 230, 3) := by decide +kernel
theorem dX9_bound_29 : decode cX9_bound 29 = .ok (.ifCond .ne 6, 3) := by decide +kernel
theorem dX9_bound_32 : decode cX9_bound 32 = .ok (.bipush (-2), 2) := by decide +kernel
theorem dX9_bound_34 : decode cX9_bound 34 = .ok (.ireturn, 1) := by decide +kernel
theorem dX9_bound_35 : decode cX9_bound 35 = .ok (.aload_n 0, 1) := by decide +kernel
theorem dX9_bound_36 : decode cX9_bound 36 = .ok (.getfield 44, 3) := by decide +kernel
theorem dX9_bound_39 : decode cX9_bound 39 = .ok (.iload_n 1, 1) := by decide +kernel
theorem dX9_bound_40 : decode cX9_bound 40 = .ok (.invokevirtual 233, 3) := by decide +kernel
theorem dX9_bound_43 : decode cX9_bound 43 = .ok (.bipush 6, 2) := by decide +kernel
theorem dX9_bound_45 : decode cX9_bound 45 = .ok (.if_icmp .le 6, 3) := by decide +kernel
theorem dX9_bound_48 : decode cX9_bound 48 = .ok (.bipush (-3), 2) := by decide +kernel
theorem dX9_bound_50 : decode cX9_bound 50 = .ok (.ireturn, 1) := by decide +kernel
theorem dX9_bound_51 : decode cX9_bound 51 = .ok (.aload_n 0, 1) := by decide +kernel
theorem dX9_bound_52 : decode cX9_bound 52 = .ok (.getfield 44, 3) := by decide +kernel
theorem dX9_bound_55 : decode cX9_bound 55 = .ok (.iload_n 1, 1) := by decide +kernel
theorem dX9_bound_56 : decode cX9_bound 56 = .ok (.invokevirtual 236, 3) := by decide +kernel
theorem dX9_bound_59 : decode cX9_bound 59 = .ok (.ireturn, 1) := by decide +kernel
theorem dX9_crowd_0 : decode cX9_crowd 0 = .ok (.aload_n 0, 1) := by decide +kernel
theorem dX9_crowd_1 : decode cX9_crowd 1 = .ok (.getfield 44, 3) := by decide +kernel
theorem dX9_crowd_4 : decode cX9_crowd 4 = .ok (.invokevirtual 239, 3) := by decide +kernel
theorem dX9_crowd_7 : decode cX9_crowd 7 = .ok (.ireturn, 1) := by decide +kernel
theorem dX9_part_0 : decode cX9_part 0 = .ok (.aload_n 0, 1) := by decide +kernel
theorem dX9_part_1 : decode cX9_part 1 = .ok (.getfield 12, 3) := by decide +kernel
theorem dX9_part_4 : decode cX9_part 4 = .ok (.iload_n 1, 1) := by decide +kernel
theorem dX9_part_5 : decode cX9_part 5 = .ok (.invokevirtual 90, 3) := by decide +kernel
theorem dX9_part_8 : decode cX9_part 8 = .ok (.ifCond .eq 14, 3) := by decide +kernel
theorem dX9_part_11 : decode cX9_part 11 = .ok (.aload_n 0, 1) := by decide +kernel
theorem dX9_part_12 : decode cX9_part 12 = .ok (.getfield 12, 3) := by decide +kernel
theorem dX9_part_15 : decode cX9_part 15 = .ok (.iload_n 1, 1) := by decide +kernel
theorem dX9_part_16 : decode cX9_part 16 = .ok (.invokevirtual 243, 3) := by decide +kernel
theorem dX9_part_19 : decode cX9_part 19 = .ok (.goto 4, 3) := by decide +kernel
theorem dX9_part_22 : decode cX9_part 22 = .ok (.iconst (-1), 1) := by decide +kernel
theorem dX9_part_23 : decode cX9_part 23 = .ok (.ireturn, 1) := by decide +kernel
theorem dX9_image_0 : decode cX9_image 0 = .ok (.aload_n 0, 1) := by decide +kernel
theorem dX9_image_1 : decode cX9_image 1 = .ok (.getfield 55, 3) := by decide +kernel
theorem dX9_image_4 : decode cX9_image 4 = .ok (.iconst 0, 1) := by decide +kernel
theorem dX9_image_5 : decode cX9_image 5 = .ok (.aload_n 0, 1) := by decide +kernel
theorem dX9_image_6 : decode cX9_image 6 = .ok (.getfield 59, 3) := by decide +kernel
theorem dX9_image_9 : decode cX9_image 9 = .ok (.iconst 0, 1) := by decide +kernel
theorem dX9_image_10 : decode cX9_image 10 = .ok (.bipush 16, 2) := by decide +kernel
theorem dX9_image_12 : decode cX9_image 12 = .ok (.invokestatic 246, 3) := by decide +kernel
theorem dX9_image_15 : decode cX9_image 15 = .ok (.aload_n 0, 1) := by decide +kernel
theorem dX9_image_16 : decode cX9_image 16 = .ok (.aload_n 0, 1) := by decide +kernel
theorem dX9_image_17 : decode cX9_image 17 = .ok (.getfield 12, 3) := by decide +kernel
theorem dX9_image_20 : decode cX9_image 20 = .ok (.getfield 83, 3) := by decide +kernel
theorem dX9_image_23 : decode cX9_image 23 = .ok (.putfield 68, 3) := by decide +kernel
theorem dX9_image_26 : decode cX9_image 26 = .ok (.aload_n 0, 1) := by decide +kernel
theorem dX9_image_27 : decode cX9_image 27 = .ok (.getfield 21, 3) := by decide +kernel
theorem dX9_image_30 : decode cX9_image 30 = .ok (.aload_n 0, 1) := by decide +kernel
theorem dX9_image_31 : decode cX9_image 31 = .ok (.getfield 55, 3) := by decide +kernel
theorem dX9_image_34 : decode cX9_image 34 = .ok (.invokevirtual 179, 3) := by decide +kernel
theorem dX9_image_37 : decode cX9_image 37 = .ok (.ireturn, 1) := by decide +kernel
theorem dX9_restore_0 : decode cX9_restore 0 = .ok (.aload_n 0, 1) := by decide +kernel
theorem dX9_restore_1 : decode cX9_restore 1 = .ok (.getfield 68, 3) := by decide +kernel
theorem dX9_restore_4 : decode cX9_restore 4 = .ok (.iconst (-1), 1) := by decide +kernel
theorem dX9_restore_5 : decode cX9_restore 5 = .ok (.if_icmp .ne 6, 3) := by decide +kernel
theorem dX9_restore_8 : decode cX9_restore 8 = .ok (.bipush (-2), 2) := by decide +kernel
theorem dX9_restore_10 : decode cX9_restore 10 = .ok (.ireturn, 1) := by decide +kernel
theorem dX9_restore_11 : decode cX9_restore 11 = .ok (.iconst 0, 1) := by decide +kernel
theorem dX9_restore_12 : decode cX9_restore 12 = .ok (.istore_n 1, 1) := by decide +kernel
theorem dX9_restore_13 : decode cX9_restore 13 = .ok (.iconst 0, 1) := by decide +kernel
theorem dX9_restore_14 : decode cX9_restore 14 = .ok (.istore_n 2, 1) := by decide +kernel
theorem dX9_restore_15 : decode cX9_restore 15 = .ok (.iload_n 2, 1) := by decide +kernel
theorem dX9_restore_16 : decode cX9_restore 16 = .ok (.aload_n 0, 1) := by decide +kernel
theorem dX9_restore_17 : decode cX9_restore 17 = .ok (.getfield 68, 3) := by decide +kernel
theorem dX9_restore_20 : decode cX9_restore 20 = .ok (.if_icmp .ge 50, 3) := by decide +kernel
theorem dX9_restore_23 : decode cX9_restore 23 = .ok (.iload_n 2, 1) := by decide +kernel
theorem dX9_restore_24 : decode cX9_restore 24 = .ok (.bipush 16, 2) := by decide +kernel
theorem dX9_restore_26 : decode cX9_restore 26 = .ok (.if_icmp .ge 44, 3) := by decide +kernel
theorem dX9_restore_29 : decode cX9_restore 29 = .ok (.iload_n 1, 1) := by decide +kernel
theorem dX9_restore_30 : decode cX9_restore 30 = .ok (.aload_n 0, 1) := by decide +kernel
theorem dX9_restore_31 : decode cX9_restore 31 = .ok (.getfield 55, 3) := by decide +kernel
theorem dX9_restore_34 : decode cX9_restore 34 = .ok (.iload_n 2, 1) := by decide +kernel
theorem dX9_restore_35 : decode cX9_restore 35 = .ok (.iaload, 1) := by decide +kernel
theorem dX9_restore_36 : decode cX9_restore 36 = .ok (.aload_n 0, 1) := by decide +kernel
theorem dX9_restore_37 : decode cX9_restore 37 = .ok (.getfield 59, 3) := by decide +kernel
theorem dX9_restore_40 : decode cX9_restore 40 = .ok (.iload_n 2, 1) := by decide +kernel
theorem dX9_restore_41 : decode cX9_restore 41 = .ok (.iaload, 1) := by decide +kernel
theorem dX9_restore_42 : decode cX9_restore 42 = .ok (.if_icmp .eq 7, 3) := by decide +kernel
theorem dX9_restore_45 : decode cX9_restore 45 = .ok (.iconst 1, 1) := by decide +kernel
theorem dX9_restore_46 : decode cX9_restore 46 = .ok (.goto 4, 3) := by decide +kernel
theorem dX9_restore_49 : decode cX9_restore 49 = .ok (.iconst 0, 1) := by decide +kernel
theorem dX9_restore_50 : decode cX9_restore 50 = .ok (.iadd, 1) := by decide +kernel
theorem dX9_restore_51 : decode cX9_restore 51 = .ok (.istore_n 1, 1) := by decide +kernel
theorem dX9_restore_52 : decode cX9_restore 52 = .ok (.aload_n 0, 1) := by decide +kernel
theorem dX9_restore_53 : decode cX9_restore 53 = .ok (.getfield 55, 3) := by decide +kernel
theorem dX9_restore_56 : decode cX9_restore 56 = .ok (.iload_n 2, 1) := by decide +kernel
theorem dX9_restore_57 : decode cX9_restore 57 = .ok (.aload_n 0, 1) := by decide +kernel
theorem dX9_restore_58 : decode cX9_restore 58 = .ok (.getfield 59, 3) := by decide +kernel
theorem dX9_restore_61 : decode cX9_restore 61 = .ok (.iload_n 2, 1) := by decide +kernel
theorem dX9_restore_62 : decode cX9_restore 62 = .ok (.iaload, 1) := by decide +kernel
theorem dX9_restore_63 : decode cX9_restore 63 = .ok (.iastore, 1) := by decide +kernel
theorem dX9_restore_64 : decode cX9_restore 64 = .ok (.iinc 2 1, 3) := by decide +kernel
theorem dX9_restore_67 : decode cX9_restore 67 = .ok (.goto (-52), 3) := by decide +kernel
theorem dX9_restore_70 : decode cX9_restore 70 = .ok (.iload_n 1, 1) := by decide +kernel
theorem dX9_restore_71 : decode cX9_restore 71 = .ok (.ireturn, 1) := by decide +kernel
theorem dX9_count_0 : decode cX9_count 0 = .ok (.iload_n 1, 1) := by decide +kernel
theorem dX9_count_1 : decode cX9_count 1 = .ok (.tableswitch 106 0 6 #[43, 51, 59, 70, 78, 86, 94], 43) := by decide +kernel
theorem dX9_count_44 : decode cX9_count 44 = .ok (.aload_n 0, 1) := by decide +kernel
theorem dX9_count_45 : decode cX9_count 45 = .ok (.getfield 12, 3) := by decide +kernel
theorem dX9_count_48 : decode cX9_count 48 = .ok (.getfield 80, 3) := by decide +kernel
theorem dX9_count_51 : decode cX9_count 51 = .ok (.ireturn, 1) := by decide +kernel
theorem dX9_count_52 : decode cX9_count 52 = .ok (.aload_n 0, 1) := by decide +kernel
theorem dX9_count_53 : decode cX9_count 53 = .ok (.getfield 12, 3) := by decide +kernel
theorem dX9_count_56 : decode cX9_count 56 = .ok (.getfield 83, 3) := by decide +kernel
theorem dX9_count_59 : decode cX9_count 59 = .ok (.ireturn, 1) := by decide +kernel
theorem dX9_count_60 : decode cX9_count 60 = .ok (.aload_n 0, 1) := by decide +kernel
theorem dX9_count_61 : decode cX9_count 61 = .ok (.getfield 12, 3) := by decide +kernel
theorem dX9_count_64 : decode cX9_count 64 = .ok (.getfield 128, 3) := by decide +kernel
theorem dX9_count_67 : decode cX9_count 67 = .ok (.getfield 132, 3) := by decide +kernel
theorem dX9_count_70 : decode cX9_count 70 = .ok (.ireturn, 1) := by decide +kernel
theorem dX9_count_71 : decode cX9_count 71 = .ok (.aload_n 0, 1) := by decide +kernel
theorem dX9_count_72 : decode cX9_count 72 = .ok (.getfield 12, 3) := by decide +kernel
theorem dX9_count_75 : decode cX9_count 75 = .ok (.invokevirtual 252, 3) := by decide +kernel
theorem dX9_count_78 : decode cX9_count 78 = .ok (.ireturn, 1) := by decide +kernel
theorem dX9_count_79 : decode cX9_count 79 = .ok (.aload_n 0, 1) := by decide +kernel
theorem dX9_count_80 : decode cX9_count 80 = .ok (.getfield 12, 3) := by decide +kernel
theorem dX9_count_83 : decode cX9_count 83 = .ok (.invokevirtual 255, 3) := by decide +kernel
theorem dX9_count_86 : decode cX9_count 86 = .ok (.ireturn, 1) := by decide +kernel
theorem dX9_count_87 : decode cX9_count 87 = .ok (.aload_n 0, 1) := by decide +kernel
theorem dX9_count_88 : decode cX9_count 88 = .ok (.getfield 12, 3) := by decide +kernel
theorem dX9_count_91 : decode cX9_count 91 = .ok (.invokevirtual 258, 3) := by decide +kernel
theorem dX9_count_94 : decode cX9_count 94 = .ok (.ireturn, 1) := by decide +kernel
theorem dX9_count_95 : decode cX9_count 95 = .ok (.aload_n 0, 1) := by decide +kernel
theorem dX9_count_96 : decode cX9_count 96 = .ok (.getfield 21, 3) := by decide +kernel
theorem dX9_count_99 : decode cX9_count 99 = .ok (.aload_n 0, 1) := by decide +kernel
theorem dX9_count_100 : decode cX9_count 100 = .ok (.getfield 55, 3) := by decide +kernel
theorem dX9_count_103 : decode cX9_count 103 = .ok (.invokevirtual 179, 3) := by decide +kernel
theorem dX9_count_106 : decode cX9_count 106 = .ok (.ireturn, 1) := by decide +kernel
theorem dX9_count_107 : decode cX9_count 107 = .ok (.iconst (-1), 1) := by decide +kernel
theorem dX9_count_108 : decode cX9_count 108 = .ok (.ireturn, 1) := by decide +kernel
theorem dX9_look_0 : decode cX9_look 0 = .ok (.aload_n 0, 1) := by decide +kernel
theorem dX9_look_1 : decode cX9_look 1 = .ok (.getfield 12, 3) := by decide +kernel
theorem dX9_look_4 : decode cX9_look 4 = .ok (.iload_n 1, 1) := by decide +kernel
theorem dX9_look_5 : decode cX9_look 5 = .ok (.invokevirtual 90, 3) := by decide +kernel
theorem dX9_look_8 : decode cX9_look 8 = .ok (.ifCond .eq 19, 3) := by decide +kernel
theorem dX9_look_11 : decode cX9_look 11 = .ok (.aload_n 0, 1) := by decide +kernel
theorem dX9_look_12 : decode cX9_look 12 = .ok (.getfield 12, 3) := by decide +kernel
theorem dX9_look_15 : decode cX9_look 15 = .ok (.getfield 98, 3) := by decide +kernel
theorem dX9_look_18 : decode cX9_look 18 = .ok (.iload_n 1, 1) := by decide +kernel
theorem dX9_look_19 : decode cX9_look 19 = .ok (.aaload, 1) := by decide +kernel
theorem dX9_look_20 : decode cX9_look 20 = .ok (.iload_n 2, 1) := by decide +kernel
theorem dX9_look_21 : decode cX9_look 21 = .ok (.invokevirtual 261, 3) := by decide +kernel
theorem dX9_look_24 : decode cX9_look 24 = .ok (.goto 4, 3) := by decide +kernel
theorem dX9_look_27 : decode cX9_look 27 = .ok (.iconst (-1), 1) := by decide +kernel
theorem dX9_look_28 : decode cX9_look 28 = .ok (.ireturn, 1) := by decide +kernel
theorem dX9_keep_0 : decode cX9_keep 0 = .ok (.iload_n 1, 1) := by decide +kernel
theorem dX9_keep_1 : decode cX9_keep 1 = .ok (.invokestatic 264, 3) := by decide +kernel
theorem dX9_keep_4 : decode cX9_keep 4 = .ok (.ifCond .ne 5, 3) := by decide +kernel
theorem dX9_keep_7 : decode cX9_keep 7 = .ok (.iconst (-1), 1) := by decide +kernel
theorem dX9_keep_8 : decode cX9_keep 8 = .ok (.ireturn, 1) := by decide +kernel
theorem dX9_keep_9 : decode cX9_keep 9 = .ok (.iload_n 2, 1) := by decide +kernel
theorem dX9_keep_10 : decode cX9_keep 10 = .ok (.iconst 1, 1) := by decide +kernel
theorem dX9_keep_11 : decode cX9_keep 11 = .ok (.if_icmp .eq 8, 3) := by decide +kernel
theorem dX9_keep_14 : decode cX9_keep 14 = .ok (.iload_n 2, 1) := by decide +kernel
theorem dX9_keep_15 : decode cX9_keep 15 = .ok (.iconst 4, 1) := by decide +kernel
theorem dX9_keep_16 : decode cX9_keep 16 = .ok (.if_icmp .ne 7, 3) := by decide +kernel
theorem dX9_keep_19 : decode cX9_keep 19 = .ok (.iconst 1, 1) := by decide +kernel
theorem dX9_keep_20 : decode cX9_keep 20 = .ok (.goto 4, 3) := by decide +kernel
theorem dX9_keep_23 : decode cX9_keep 23 = .ok (.iconst 0, 1) := by decide +kernel
theorem dX9_keep_24 : decode cX9_keep 24 = .ok (.istore 4, 2) := by decide +kernel
theorem dX9_keep_26 : decode cX9_keep 26 = .ok (.iload 4, 2) := by decide +kernel
theorem dX9_keep_28 : decode cX9_keep 28 = .ok (.ifCond .eq 16, 3) := by decide +kernel
theorem dX9_keep_31 : decode cX9_keep 31 = .ok (.aload_n 0, 1) := by decide +kernel
theorem dX9_keep_32 : decode cX9_keep 32 = .ok (.getfield 12, 3) := by decide +kernel
theorem dX9_keep_35 : decode cX9_keep 35 = .ok (.iload_n 3, 1) := by decide +kernel
theorem dX9_keep_36 : decode cX9_keep 36 = .ok (.invokevirtual 90, 3) := by decide +kernel
theorem dX9_keep_39 : decode cX9_keep 39 = .ok (.ifCond .ne 5, 3) := by decide +kernel
theorem dX9_keep_42 : decode cX9_keep 42 = .ok (.iconst (-1), 1) := by decide +kernel
theorem dX9_keep_43 : decode cX9_keep 43 = .ok (.ireturn, 1) := by decide +kernel
theorem dX9_keep_44 : decode cX9_keep 44 = .ok (.iload_n 2, 1) := by decide +kernel
theorem dX9_keep_45 : decode cX9_keep 45 = .ok (.tableswitch 104 0 4 #[35, 46, 104, 66, 88], 35) := by decide +kernel
theorem dX9_keep_80 : decode cX9_keep 80 = .ok (.aload_n 0, 1) := by decide +kernel
theorem dX9_keep_81 : decode cX9_keep 81 = .ok (.getfield 50, 3) := by decide +kernel
theorem dX9_keep_84 : decode cX9_keep 84 = .ok (.iload_n 1, 1) := by decide +kernel
theorem dX9_keep_85 : decode cX9_keep 85 = .ok (.aaload, 1) := by decide +kernel
theorem dX9_keep_86 : decode cX9_keep 86 = .ok (.invokevirtual 267, 3) := by decide +kernel
theorem dX9_keep_89 : decode cX9_keep 89 = .ok (.iconst 0, 1) := by decide +kernel
theorem dX9_keep_90 : decode cX9_keep 90 = .ok (.ireturn, 1) := by decide +kernel
theorem dX9_keep_91 : decode cX9_keep 91 = .ok (.aload_n 0, 1) := by decide +kernel
theorem dX9_keep_92 : decode cX9_keep 92 = .ok (.getfield 50, 3) := by decide +kernel
theorem dX9_keep_95 : decode cX9_keep 95 = .ok (.iload_n 1, 1) := by decide +kernel
theorem dX9_keep_96 : decode cX9_keep 96 = .ok (.aaload, 1) := by decide +kernel
theorem dX9_keep_97 : decode cX9_keep 97 = .ok (.aload_n 0, 1) := by decide +kernel
theorem dX9_keep_98 : decode cX9_keep 98 = .ok (.getfield 12, 3) := by decide +kernel
theorem dX9_keep_101 : decode cX9_keep 101 = .ok (.getfield 98, 3) := by decide +kernel
theorem dX9_keep_104 : decode cX9_keep 104 = .ok (.iload_n 3, 1) := by decide +kernel
theorem dX9_keep_105 : decode cX9_keep 105 = .ok (.aaload, 1) := by decide +kernel
theorem dX9_keep_106 : decode cX9_keep 106 = .ok (.invokevirtual 270, 3) := by decide +kernel
theorem dX9_keep_109 : decode cX9_keep 109 = .ok (.iconst 0, 1) := by decide +kernel
theorem dX9_keep_110 : decode cX9_keep 110 = .ok (.ireturn, 1) := by decide +kernel
theorem dX9_keep_111 : decode cX9_keep 111 = .ok (.aload_n 0, 1) := by decide +kernel
theorem dX9_keep_112 : decode cX9_keep 112 = .ok (.getfield 50, 3) := by decide +kernel
theorem dX9_keep_115 : decode cX9_keep 115 = .ok (.iload_n 1, 1) := by decide +kernel
theorem dX9_keep_116 : decode cX9_keep 116 = .ok (.aaload, 1) := by decide +kernel
theorem dX9_keep_117 : decode cX9_keep 117 = .ok (.aload_n 0, 1) := by decide +kernel
theorem dX9_keep_118 : decode cX9_keep 118 = .ok (.getfield 55, 3) := by decide +kernel
theorem dX9_keep_121 : decode cX9_keep 121 = .ok (.aload_n 0, 1) := by decide +kernel
theorem dX9_keep_122 : decode cX9_keep 122 = .ok (.getfield 12, 3) := by decide +kernel
theorem dX9_keep_125 : decode cX9_keep 125 = .ok (.getfield 83, 3) := by decide +kernel
theorem dX9_keep_128 : decode cX9_keep 128 = .ok (.invokevirtual 274, 3) := by decide +kernel
theorem dX9_keep_131 : decode cX9_keep 131 = .ok (.iconst 0, 1) := by decide +kernel
theorem dX9_keep_132 : decode cX9_keep 132 = .ok (.ireturn, 1) := by decide +kernel
theorem dX9_keep_133 : decode cX9_keep 133 = .ok (.aload_n 0, 1) := by decide +kernel
theorem dX9_keep_134 : decode cX9_keep 134 = .ok (.getfield 50, 3) := by decide +kernel
theorem dX9_keep_137 : decode cX9_keep 137 = .ok (.iload_n 1, 1) := by decide +kernel
theorem dX9_keep_138 : decode cX9_keep 138 = .ok (.aaload, 1) := by decide +kernel
theorem dX9_keep_139 : decode cX9_keep 139 = .ok (.aload_n 0, 1) := by decide +kernel
theorem dX9_keep_140 : decode cX9_keep 140 = .ok (.getfield 12, 3) := by decide +kernel
theorem dX9_keep_143 : decode cX9_keep 143 = .ok (.iload_n 3, 1) := by decide +kernel
theorem dX9_keep_144 : decode cX9_keep 144 = .ok (.invokevirtual 277, 3) := by decide +kernel
theorem dX9_keep_147 : decode cX9_keep 147 = .ok (.iconst 0, 1) := by decide +kernel
theorem dX9_keep_148 : decode cX9_keep 148 = .ok (.ireturn, 1) := by decide +kernel
theorem dX9_keep_149 : decode cX9_keep 149 = .ok (.iconst (-1), 1) := by decide +kernel
theorem dX9_keep_150 : decode cX9_keep 150 = .ok (.ireturn, 1) := by decide +kernel
theorem dX9_make_0 : decode cX9_make 0 = .ok (.iload_n 1, 1) := by decide +kernel
theorem dX9_make_1 : decode cX9_make 1 = .ok (.invokestatic 264, 3) := by decide +kernel
theorem dX9_make_4 : decode cX9_make 4 = .ok (.ifCond .eq 19, 3) := by decide +kernel
theorem dX9_make_7 : decode cX9_make 7 = .ok (.iload_n 2, 1) := by decide +kernel
theorem dX9_make_8 : decode cX9_make 8 = .ok (.iconst 3, 1) := by decide +kernel
theorem dX9_make_9 : decode cX9_make 9 = .ok (.if_icmp .eq 8, 3) := by decide +kernel
theorem dX9_make_12 : decode cX9_make 12 = .ok (.iload_n 2, 1) := by decide +kernel
theorem dX9_make_13 : decode cX9_make 13 = .ok (.iconst 4, 1) := by decide +kernel
theorem dX9_make_14 : decode cX9_make 14 = .ok (.if_icmp .ne 9, 3) := by decide +kernel
theorem dX9_make_17 : decode cX9_make 17 = .ok (.iload_n 3, 1) := by decide +kernel
theorem dX9_make_18 : decode cX9_make 18 = .ok (.bipush 60, 2) := by decide +kernel
theorem dX9_make_20 : decode cX9_make 20 = .ok (.if_icmp .le 5, 3) := by decide +kernel
theorem dX9_make_23 : decode cX9_make 23 = .ok (.iconst (-1), 1) := by decide +kernel
theorem dX9_make_24 : decode cX9_make 24 = .ok (.ireturn, 1) := by decide +kernel
theorem dX9_make_25 : decode cX9_make 25 = .ok (.iload_n 3, 1) := by decide +kernel
theorem dX9_make_26 : decode cX9_make 26 = .ok (.ifCond .ge 6, 3) := by decide +kernel
theorem dX9_make_29 : decode cX9_make 29 = .ok (.bipush (-14), 2) := by decide +kernel
theorem dX9_make_31 : decode cX9_make 31 = .ok (.ireturn, 1) := by decide +kernel
theorem dX9_make_32 : decode cX9_make 32 = .ok (.aload_n 0, 1) := by decide +kernel
theorem dX9_make_33 : decode cX9_make 33 = .ok (.getfield 50, 3) := by decide +kernel
theorem dX9_make_36 : decode cX9_make 36 = .ok (.iload_n 1, 1) := by decide +kernel
theorem dX9_make_37 : decode cX9_make 37 = .ok (.aaload, 1) := by decide +kernel
theorem dX9_make_38 : decode cX9_make 38 = .ok (.iload_n 2, 1) := by decide +kernel
theorem dX9_make_39 : decode cX9_make 39 = .ok (.iload_n 3, 1) := by decide +kernel
