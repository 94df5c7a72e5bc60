theorem dX3_hasMast_0 : decode cX3_hasMast 0 = .ok (.iload_n 1, 1) := by decide +kernel
theorem dX3_hasMast_1 : decode cX3_hasMast 1 = .ok (.ifCond .lt 15, 3) := by decide +kernel
theorem dX3_hasMast_4 : decode cX3_hasMast 4 = .ok (.iload_n 1, 1) := by decide +kernel
theorem dX3_hasMast_5 : decode cX3_hasMast 5 = .ok (.aload_n 0, 1) := by decide +kernel
theorem dX3_hasMast_6 : decode cX3_hasMast 6 = .ok (.getfield 58, 3) := by decide +kernel
theorem dX3_hasMast_9 : decode cX3_hasMast 9 = .ok (.if_icmp .ge 7, 3) := by decide +kernel
theorem dX3_hasMast_12 : decode cX3_hasMast 12 = .ok (.iconst 1, 1) := by decide +kernel
theorem dX3_hasMast_13 : decode cX3_hasMast 13 = .ok (.goto 4, 3) := by decide +kernel
theorem dX3_hasMast_16 : decode cX3_hasMast 16 = .ok (.iconst 0, 1) := by decide +kernel
theorem dX3_hasMast_17 : decode cX3_hasMast 17 = .ok (.ireturn, 1) := by decide +kernel
theorem dX3_hasWant_0 : decode cX3_hasWant 0 = .ok (.iload_n 1, 1) := by decide +kernel
theorem dX3_hasWant_1 : decode cX3_hasWant 1 = .ok (.ifCond .lt 15, 3) := by decide +kernel
theorem dX3_hasWant_4 : decode cX3_hasWant 4 = .ok (.iload_n 1, 1) := by decide +kernel
theorem dX3_hasWant_5 : decode cX3_hasWant 5 = .ok (.aload_n 0, 1) := by decide +kernel
theorem dX3_hasWant_6 : decode cX3_hasWant 6 = .ok (.getfield 61, 3) := by decide +kernel
theorem dX3_hasWant_9 : decode cX3_hasWant 9 = .ok (.if_icmp .ge 7, 3) := by decide +kernel
theorem dX3_hasWant_12 : decode cX3_hasWant 12 = .ok (.iconst 1, 1) := by decide +kernel
theorem dX3_hasWant_13 : decode cX3_hasWant 13 = .ok (.goto 4, 3) := by decide +kernel
theorem dX3_hasWant_16 : decode cX3_hasWant 16 = .ok (.iconst 0, 1) := by decide +kernel
theorem dX3_hasWant_17 : decode cX3_hasWant 17 = .ok (.ireturn, 1) := by decide +kernel
theorem dX3_addMast_0 : decode cX3_addMast 0 = .ok (.aload_n 0, 1) := by decide +kernel
theorem dX3_addMast_1 : decode cX3_addMast 1 = .ok (.getfield 58, 3) := by decide +kernel
theorem dX3_addMast_4 : decode cX3_addMast 4 = .ok (.istore 5, 2) := by decide +kernel
theorem dX3_addMast_6 : decode cX3_addMast 6 = .ok (.aload_n 0, 1) := by decide +kernel
theorem dX3_addMast_7 : decode cX3_addMast 7 = .ok (.getfield 11, 3) := by decide +kernel
theorem dX3_addMast_10 : decode cX3_addMast 10 = .ok (.iload 5, 2) := by decide +kernel
theorem dX3_addMast_12 : decode cX3_addMast 12 = .ok (.aaload, 1) := by decide +kernel
theorem dX3_addMast_13 : decode cX3_addMast 13 = .ok (.iload 5, 2) := by decide +kernel
theorem dX3_addMast_15 : decode cX3_addMast 15 = .ok (.iload_n 1, 1) := by decide +kernel
theorem dX3_addMast_16 : decode cX3_addMast 16 = .ok (.iload_n 2, 1) := by decide +kernel
theorem dX3_addMast_17 : decode cX3_addMast 17 = .ok (.iload_n 3, 1) := by decide +kernel
theorem dX3_addMast_18 : decode cX3_addMast 18 = .ok (.iload 4, 2) := by decide +kernel
theorem dX3_addMast_20 : decode cX3_addMast 20 = .ok (.aload_n 0, 1) := by decide +kernel
theorem dX3_addMast_21 : decode cX3_addMast 21 = .ok (.getfield 61, 3) := by decide +kernel
theorem dX3_addMast_24 : decode cX3_addMast 24 = .ok (.invokevirtual 64, 3) := by decide +kernel
theorem dX3_addMast_27 : decode cX3_addMast 27 = .ok (.iconst 0, 1) := by decide +kernel
theorem dX3_addMast_28 : decode cX3_addMast 28 = .ok (.istore 6, 2) := by decide +kernel
theorem dX3_addMast_30 : decode cX3_addMast 30 = .ok (.iload 6, 2) := by decide +kernel
theorem dX3_addMast_32 : decode cX3_addMast 32 = .ok (.iload 4, 2) := by decide +kernel
theorem dX3_addMast_34 : decode cX3_addMast 34 = .ok (.if_icmp .ge 23, 3) := by decide +kernel
theorem dX3_addMast_37 : decode cX3_addMast 37 = .ok (.aload_n 0, 1) := by decide +kernel
theorem dX3_addMast_38 : decode cX3_addMast 38 = .ok (.getfield 17, 3) := by decide +kernel
theorem dX3_addMast_41 : decode cX3_addMast 41 = .ok (.aload_n 0, 1) := by decide +kernel
theorem dX3_addMast_42 : decode cX3_addMast 42 = .ok (.getfield 61, 3) := by decide +kernel
theorem dX3_addMast_45 : decode cX3_addMast 45 = .ok (.iload 6, 2) := by decide +kernel
theorem dX3_addMast_47 : decode cX3_addMast 47 = .ok (.iadd, 1) := by decide +kernel
theorem dX3_addMast_48 : decode cX3_addMast 48 = .ok (.iload 5, 2) := by decide +kernel
theorem dX3_addMast_50 : decode cX3_addMast 50 = .ok (.iastore, 1) := by decide +kernel
theorem dX3_addMast_51 : decode cX3_addMast 51 = .ok (.iinc 6 1, 3) := by decide +kernel
theorem dX3_addMast_54 : decode cX3_addMast 54 = .ok (.goto (-24), 3) := by decide +kernel
theorem dX3_addMast_57 : decode cX3_addMast 57 = .ok (.aload_n 0, 1) := by decide +kernel
theorem dX3_addMast_58 : decode cX3_addMast 58 = .ok (.dup, 1) := by decide +kernel
theorem dX3_addMast_59 : decode cX3_addMast 59 = .ok (.getfield 58, 3) := by decide +kernel
theorem dX3_addMast_62 : decode cX3_addMast 62 = .ok (.iconst 1, 1) := by decide +kernel
theorem dX3_addMast_63 : decode cX3_addMast 63 = .ok (.iadd, 1) := by decide +kernel
theorem dX3_addMast_64 : decode cX3_addMast 64 = .ok (.putfield 58, 3) := by decide +kernel
theorem dX3_addMast_67 : decode cX3_addMast 67 = .ok (.aload_n 0, 1) := by decide +kernel
theorem dX3_addMast_68 : decode cX3_addMast 68 = .ok (.dup, 1) := by decide +kernel
theorem dX3_addMast_69 : decode cX3_addMast 69 = .ok (.getfield 61, 3) := by decide +kernel
theorem dX3_addMast_72 : decode cX3_addMast 72 = .ok (.iload 4, 2) := by decide +kernel
theorem dX3_addMast_74 : decode cX3_addMast 74 = .ok (.iadd, 1) := by decide +kernel
theorem dX3_addMast_75 : decode cX3_addMast 75 = .ok (.putfield 61, 3) := by decide +kernel
theorem dX3_addMast_78 : decode cX3_addMast 78 = .ok (.aload_n 0, 1) := by decide +kernel
theorem dX3_addMast_79 : decode cX3_addMast 79 = .ok (.invokevirtual 68, 3) := by decide +kernel
theorem dX3_addMast_82 : decode cX3_addMast 82 = .ok (.iload 5, 2) := by decide +kernel
theorem dX3_addMast_84 : decode cX3_addMast 84 = .ok (.ireturn, 1) := by decide +kernel
theorem dX3_shift_0 : decode cX3_shift 0 = .ok (.aload_n 0, 1) := by decide +kernel
theorem dX3_shift_1 : decode cX3_shift 1 = .ok (.getfield 11, 3) := by decide +kernel
theorem dX3_shift_4 : decode cX3_shift 4 = .ok (.iload_n 1, 1) := by decide +kernel
theorem dX3_shift_5 : decode cX3_shift 5 = .ok (.aaload, 1) := by decide +kernel
theorem dX3_shift_6 : decode cX3_shift 6 = .ok (.iload_n 2, 1) := by decide +kernel
theorem dX3_shift_7 : decode cX3_shift 7 = .ok (.invokevirtual 71, 3) := by decide +kernel
theorem dX3_shift_10 : decode cX3_shift 10 = .ok (.iconst 0, 1) := by decide +kernel
theorem dX3_shift_11 : decode cX3_shift 11 = .ok (.istore_n 3, 1) := by decide +kernel
theorem dX3_shift_12 : decode cX3_shift 12 = .ok (.iconst 0, 1) := by decide +kernel
theorem dX3_shift_13 : decode cX3_shift 13 = .ok (.istore 4, 2) := by decide +kernel
theorem dX3_shift_15 : decode cX3_shift 15 = .ok (.iload 4, 2) := by decide +kernel
theorem dX3_shift_17 : decode cX3_shift 17 = .ok (.aload_n 0, 1) := by decide +kernel
theorem dX3_shift_18 : decode cX3_shift 18 = .ok (.getfield 58, 3) := by decide +kernel
theorem dX3_shift_21 : decode cX3_shift 21 = .ok (.if_icmp .ge 34, 3) := by decide +kernel
theorem dX3_shift_24 : decode cX3_shift 24 = .ok (.iload_n 3, 1) := by decide +kernel
theorem dX3_shift_25 : decode cX3_shift 25 = .ok (.aload_n 0, 1) := by decide +kernel
theorem dX3_shift_26 : decode cX3_shift 26 = .ok (.iload_n 1, 1) := by decide +kernel
theorem dX3_shift_27 : decode cX3_shift 27 = .ok (.iload 4, 2) := by decide +kernel
theorem dX3_shift_29 : decode cX3_shift 29 = .ok (.invokevirtual 75, 3) := by decide +kernel
theorem dX3_shift_32 : decode cX3_shift 32 = .ok (.aload_n 0, 1) := by decide +kernel
theorem dX3_shift_33 : decode cX3_shift 33 = .ok (.iload_n 1, 1) := by decide +kernel
theorem dX3_shift_34 : decode cX3_shift 34 = .ok (.iload 4, 2) := by decide +kernel
theorem dX3_shift_36 : decode cX3_shift 36 = .ok (.invokevirtual 79, 3) := by decide +kernel
theorem dX3_shift_39 : decode cX3_shift 39 = .ok (.if_icmp .eq 7, 3) := by decide +kernel
theorem dX3_shift_42 : decode cX3_shift 42 = .ok (.iconst 1, 1) := by decide +kernel
theorem dX3_shift_43 : decode cX3_shift 43 = .ok (.goto 4, 3) := by decide +kernel
theorem dX3_shift_46 : decode cX3_shift 46 = .ok (.iconst 0, 1) := by decide +kernel
theorem dX3_shift_47 : decode cX3_shift 47 = .ok (.iadd, 1) := by decide +kernel
theorem dX3_shift_48 : decode cX3_shift 48 = .ok (.istore_n 3, 1) := by decide +kernel
theorem dX3_shift_49 : decode cX3_shift 49 = .ok (.iinc 4 1, 3) := by decide +kernel
theorem dX3_shift_52 : decode cX3_shift 52 = .ok (.goto (-37), 3) := by decide +kernel
theorem dX3_shift_55 : decode cX3_shift 55 = .ok (.aload_n 0, 1) := by decide +kernel
theorem dX3_shift_56 : decode cX3_shift 56 = .ok (.invokevirtual 68, 3) := by decide +kernel
theorem dX3_shift_59 : decode cX3_shift 59 = .ok (.iload_n 3, 1) := by decide +kernel
theorem dX3_shift_60 : decode cX3_shift 60 = .ok (.ireturn, 1) := by decide +kernel
theorem dX3_measure_0 : decode cX3_measure 0 = .ok (.iconst 0, 1) := by decide +kernel
theorem dX3_measure_1 : decode cX3_measure 1 = .ok (.istore_n 1, 1) := by decide +kernel
theorem dX3_measure_2 : decode cX3_measure 2 = .ok (.iload_n 1, 1) := by decide +kernel
theorem dX3_measure_3 : decode cX3_measure 3 = .ok (.aload_n 0, 1) := by decide +kernel
theorem dX3_measure_4 : decode cX3_measure 4 = .ok (.getfield 58, 3) := by decide +kernel
theorem dX3_measure_7 : decode cX3_measure 7 = .ok (.if_icmp .ge 83, 3) := by decide +kernel
theorem dX3_measure_10 : decode cX3_measure 10 = .ok (.aload_n 0, 1) := by decide +kernel
theorem dX3_measure_11 : decode cX3_measure 11 = .ok (.getfield 41, 3) := by decide +kernel
theorem dX3_measure_14 : decode cX3_measure 14 = .ok (.iload_n 1, 1) := by decide +kernel
theorem dX3_measure_15 : decode cX3_measure 15 = .ok (.iconst 0, 1) := by decide +kernel
theorem dX3_measure_16 : decode cX3_measure 16 = .ok (.iastore, 1) := by decide +kernel
theorem dX3_measure_17 : decode cX3_measure 17 = .ok (.iconst 0, 1) := by decide +kernel
theorem dX3_measure_18 : decode cX3_measure 18 = .ok (.istore_n 2, 1) := by decide +kernel
theorem dX3_measure_19 : decode cX3_measure 19 = .ok (.iload_n 2, 1) := by decide +kernel
theorem dX3_measure_20 : decode cX3_measure 20 = .ok (.aload_n 0, 1) := by decide +kernel
theorem dX3_measure_21 : decode cX3_measure 21 = .ok (.getfield 58, 3) := by decide +kernel
theorem dX3_measure_24 : decode cX3_measure 24 = .ok (.if_icmp .ge 60, 3) := by decide +kernel
theorem dX3_measure_27 : decode cX3_measure 27 = .ok (.aload_n 0, 1) := by decide +kernel
theorem dX3_measure_28 : decode cX3_measure 28 = .ok (.getfield 38, 3) := by decide +kernel
theorem dX3_measure_31 : decode cX3_measure 31 = .ok (.iload_n 1, 1) := by decide +kernel
theorem dX3_measure_32 : decode cX3_measure 32 = .ok (.bipush 12, 2) := by decide +kernel
theorem dX3_measure_34 : decode cX3_measure 34 = .ok (.imul, 1) := by decide +kernel
theorem dX3_measure_35 : decode cX3_measure 35 = .ok (.iload_n 2, 1) := by decide +kernel
theorem dX3_measure_36 : decode cX3_measure 36 = .ok (.iadd, 1) := by decide +kernel
theorem dX3_measure_37 : decode cX3_measure 37 = .ok (.aload_n 0, 1) := by decide +kernel
theorem dX3_measure_38 : decode cX3_measure 38 = .ok (.iload_n 1, 1) := by decide +kernel
theorem dX3_measure_39 : decode cX3_measure 39 = .ok (.iload_n 2, 1) := by decide +kernel
theorem dX3_measure_40 : decode cX3_measure 40 = .ok (.invokevirtual 79, 3) := by decide +kernel
theorem dX3_measure_43 : decode cX3_measure 43 = .ok (.iastore, 1) := by decide +kernel
theorem dX3_measure_44 : decode cX3_measure 44 = .ok (.aload_n 0, 1) := by decide +kernel
theorem dX3_measure_45 : decode cX3_measure 45 = .ok (.getfield 41, 3) := by decide +kernel
theorem dX3_measure_48 : decode cX3_measure 48 = .ok (.iload_n 1, 1) := by decide +kernel
theorem dX3_measure_49 : decode cX3_measure 49 = .ok (.dup2, 1) := by decide +kernel
theorem dX3_measure_50 : decode cX3_measure 50 = .ok (.iaload, 1) := by decide +kernel
theorem dX3_measure_51 : decode cX3_measure 51 = .ok (.iload_n 1, 1) := by decide +kernel
theorem dX3_measure_52 : decode cX3_measure 52 = .ok (.iload_n 2, 1) := by decide +kernel
theorem dX3_measure_53 : decode cX3_measure 53 = .ok (.if_icmp .eq 22, 3) := by decide +kernel
theorem dX3_measure_56 : decode cX3_measure 56 = .ok (.aload_n 0, 1) := by decide +kernel
theorem dX3_measure_57 : decode cX3_measure 57 = .ok (.iload_n 1, 1) := by decide +kernel
theorem dX3_measure_58 : decode cX3_measure 58 = .ok (.iload_n 2, 1) := by decide +kernel
theorem dX3_measure_59 : decode cX3_measure 59 = .ok (.invokevirtual 82, 3) := by decide +kernel
theorem dX3_measure_62 : decode cX3_measure 62 = .ok (.aload_n 0, 1) := by decide +kernel
theorem dX3_measure_63 : decode cX3_measure 63 = .ok (.getfield 48, 3) := by decide +kernel
theorem dX3_measure_66 : decode cX3_measure 66 = .ok (.if_icmp .gt 9, 3) := by decide +kernel
theorem dX3_measure_69 : decode cX3_measure 69 = .ok (.iconst 1, 1) := by decide +kernel
theorem dX3_measure_70 : decode cX3_measure 70 = .ok (.iload_n 2, 1) := by decide +kernel
theorem dX3_measure_71 : decode cX3_measure 71 = .ok (.ishl, 1) := by decide +kernel
theorem dX3_measure_72 : decode cX3_measure 72 = .ok (.goto 4, 3) := by decide +kernel
theorem dX3_measure_75 : decode cX3_measure 75 = .ok (.iconst 0, 1) := by decide +kernel
theorem dX3_measure_76 : decode cX3_measure 76 = .ok (.ior, 1) := by decide +kernel
theorem dX3_measure_77 : decode cX3_measure 77 = .ok (.iastore, 1) := by decide +kernel
theorem dX3_measure_78 : decode cX3_measure 78 = .ok (.iinc 2 1, 3) := by decide +kernel
theorem dX3_measure_81 : decode cX3_measure 81 = .ok (.goto (-62), 3) := by decide +kernel
theorem dX3_measure_84 : decode cX3_measure 84 = .ok (.iinc 1 1, 3) := by decide +kernel
theorem dX3_measure_87 : decode cX3_measure 87 = .ok (.goto (-85), 3) := by decide +kernel
theorem dX3_measure_90 : decode cX3_measure 90 = .ok (.return_, 1) := by decide +kernel
theorem dX3_freshBar_0 : decode cX3_freshBar 0 = .ok (.iload_n 1, 1) := by decide +kernel
theorem dX3_freshBar_1 : decode cX3_freshBar 1 = .ok (.iload_n 2, 1) := by decide +kernel
theorem dX3_freshBar_2 : decode cX3_freshBar 2 = .ok (.if_icmp .ne 10, 3) := by decide +kernel
theorem dX3_freshBar_5 : decode cX3_freshBar 5 = .ok (.aload_n 0, 1) := by decide +kernel
theorem dX3_freshBar_6 : decode cX3_freshBar 6 = .ok (.getfield 44, 3) := by decide +kernel
theorem dX3_freshBar_9 : decode cX3_freshBar 9 = .ok (.goto 35, 3) := by decide +kernel
theorem dX3_freshBar_12 : decode cX3_freshBar 12 = .ok (.aload_n 0, 1) := by decide +kernel
theorem dX3_freshBar_13 : decode cX3_freshBar 13 = .ok (.getfield 27, 3) := by decide +kernel
theorem dX3_freshBar_16 : decode cX3_freshBar 16 = .ok (.aload_n 0, 1) := by decide +kernel
theorem dX3_freshBar_17 : decode cX3_freshBar 17 = .ok (.iload_n 1, 1) := by decide +kernel
theorem dX3_freshBar_18 : decode cX3_freshBar 18 = .ok (.iload_n 2, 1) := by decide +kernel
theorem dX3_freshBar_19 : decode cX3_freshBar 19 = .ok (.invokevirtual 82, 3) := by decide +kernel
theorem dX3_freshBar_22 : decode cX3_freshBar 22 = .ok (.aload_n 0, 1) := by decide +kernel
theorem dX3_freshBar_23 : decode cX3_freshBar 23 = .ok (.getfield 11, 3) := by decide +kernel
theorem dX3_freshBar_26 : decode cX3_freshBar 26 = .ok (.iload_n 1, 1) := by decide +kernel
theorem dX3_freshBar_27 : decode cX3_freshBar 27 = .ok (.aaload, 1) := by decide +kernel
theorem dX3_freshBar_28 : decode cX3_freshBar 28 = .ok (.getfield 85, 3) := by decide +kernel
theorem dX3_freshBar_31 : decode cX3_freshBar 31 = .ok (.aload_n 0, 1) := by decide +kernel
theorem dX3_freshBar_32 : decode cX3_freshBar 32 = .ok (.getfield 11, 3) := by decide +kernel
theorem dX3_freshBar_35 : decode cX3_freshBar 35 = .ok (.iload_n 2, 1) := by decide +kernel
theorem dX3_freshBar_36 : decode cX3_freshBar 36 = .ok (.aaload, 1) := by decide +kernel
theorem dX3_freshBar_37 : decode cX3_freshBar 37 = .ok (.getfield 85, 3) := by decide +kernel
theorem dX3_freshBar_40 : decode cX3_freshBar 40 = .ok (.iadd, 1) := by decide +kernel
theorem dX3_freshBar_41 : decode cX3_freshBar 41 = .ok (.invokevirtual 88, 3) := by decide +kernel
theorem dX3_freshBar_44 : decode cX3_freshBar 44 = .ok (.ireturn, 1) := by decide +kernel
theorem dX3_square_0 : decode cX3_square 0 = .ok (.aload_n 0, 1) := by decide +kernel
theorem dX3_square_1 : decode cX3_square 1 = .ok (.getfield 11, 3) := by decide +kernel
theorem dX3_square_4 : decode cX3_square 4 = .ok (.iload_n 1, 1) := by decide +kernel
theorem dX3_square_5 : decode cX3_square 5 = .ok (.aaload, 1) := by decide +kernel
theorem dX3_square_6 : decode cX3_square 6 = .ok (.getfield 91, 3) := by decide +kernel
theorem dX3_square_9 : decode cX3_square 9 = .ok (.aload_n 0, 1) := by decide +kernel
theorem dX3_square_10 : decode cX3_square 10 = .ok (.getfield 11, 3) := by decide +kernel
theorem dX3_square_13 : decode cX3_square 13 = .ok (.iload_n 2, 1) := by decide +kernel
theorem dX3_square_14 : decode cX3_square 14 = .ok (.aaload, 1) := by decide +kernel
theorem dX3_square_15 : decode cX3_square 15 = .ok (.getfield 91, 3) := by decide +kernel
theorem dX3_square_18 : decode cX3_square 18 = .ok (.isub, 1) := by decide +kernel
theorem dX3_square_19 : decode cX3_square 19 = .ok (.istore_n 3, 1) := by decide +kernel
theorem dX3_square_20 : decode cX3_square 20 = .ok (.aload_n 0, 1) := by decide +kernel
theorem dX3_square_21 : decode cX3_square 21 = .ok (.getfield 11, 3) := by decide +kernel
theorem dX3_square_24 : decode cX3_square 24 = .ok (.iload_n 1, 1) := by decide +kernel
theorem dX3_square_25 : decode cX3_square 25 = .ok (.aaload, 1) := by decide +kernel
theorem dX3_square_26 : decode cX3_square 26 = .ok (.getfield 94, 3) := by decide +kernel
theorem dX3_square_29 : decode cX3_square 29 = .ok (.aload_n 0, 1) := by decide +kernel
theorem dX3_square_30 : decode cX3_square 30 = .ok (.getfield 11, 3) := by decide +kernel
theorem dX3_square_33 : decode cX3_square 33 = .ok (.iload_n 2, 1) := by decide +kernel
theorem dX3_square_34 : decode cX3_square 34 = .ok (.aaload, 1) := by decide +kernel
theorem dX3_square_35 : decode cX3_square 35 = .ok (.getfield 94, 3) := by decide +kernel
theorem dX3_square_38 : decode cX3_square 38 = .ok (.isub, 1) := by decide +kernel
theorem dX3_square_39 : decode cX3_square 39 = .ok (.istore 4, 2) := by decide +kernel
theorem dX3_square_41 : decode cX3_square 41 = .ok (.iload_n 3, 1) := by decide +kernel
theorem dX3_square_42 : decode cX3_square 42 = .ok (.iload_n 3, 1) := by decide +kernel
theorem dX3_square_43 : decode cX3_square 43 = .ok (.imul, 1) := by decide +kernel
theorem dX3_square_44 : decode cX3_square 44 = .ok (.iload 4, 2) := by decide +kernel
theorem dX3_square_46 : decode cX3_square 46 = .ok (.iload 4, 2) := by decide +kernel
theorem dX3_square_48 : decode cX3_square 48 = .ok (.imul, 1) := by decide +kernel
theorem dX3_square_49 : decode cX3_square 49 = .ok (.iadd, 1) := by decide +kernel
theorem dX3_square_50 : decode cX3_square 50 = .ok (.ireturn, 1) := by decide +kernel
theorem dX3_barOf_0 : decode cX3_barOf 0 = .ok (.aload_n 0, 1) := by decide +kernel
theorem dX3_barOf_1 : decode cX3_barOf 1 = .ok (.getfield 38, 3) := by decide +kernel
theorem dX3_barOf_4 : decode cX3_barOf 4 = .ok (.iload_n 1, 1) := by decide +kernel
theorem dX3_barOf_5 : decode cX3_barOf 5 = .ok (.bipush 12, 2) := by decide +kernel
theorem dX3_barOf_7 : decode cX3_barOf 7 = .ok (.imul, 1) := by decide +kernel
theorem dX3_barOf_8 : decode cX3_barOf 8 = .ok (.iload_n 2, 1) := by decide +kernel
theorem dX3_barOf_9 : decode cX3_barOf 9 = .ok (.iadd, 1) := by decide +kernel
theorem dX3_barOf_10 : decode cX3_barOf 10 = .ok (.iaload, 1) := by decide +kernel
theorem dX3_barOf_11 : decode cX3_barOf 11 = .ok (.ireturn, 1) := by decide +kernel
theorem dX3_barOfWants_0 : decode cX3_barOfWants 0 = .ok (.aload_n 0, 1) := by decide +kernel
theorem dX3_barOfWants_1 : decode cX3_barOfWants 1 = .ok (.aload_n 0, 1) := by decide +kernel
theorem dX3_barOfWants_2 : decode cX3_barOfWants 2 = .ok (.getfield 17, 3) := by decide +kernel
theorem dX3_barOfWants_5 : decode cX3_barOfWants 5 = .ok (.iload_n 1, 1) := by decide +kernel
theorem dX3_barOfWants_6 : decode cX3_barOfWants 6 = .ok (.iaload, 1) := by decide +kernel
theorem dX3_barOfWants_7 : decode cX3_barOfWants 7 = .ok (.aload_n 0, 1) := by decide +kernel
theorem dX3_barOfWants_8 : decode cX3_barOfWants 8 = .ok (.getfield 17, 3) := by decide +kernel
theorem dX3_barOfWants_11 : decode cX3_barOfWants 11 = .ok (.iload_n 2, 1) := by decide +kernel
theorem dX3_barOfWants_12 : decode cX3_barOfWants 12 = .ok (.iaload, 1) := by decide +kernel
theorem dX3_barOfWants_13 : decode cX3_barOfWants 13 = .ok (.invokevirtual 75, 3) := by decide +kernel
theorem dX3_barOfWants_16 : decode cX3_barOfWants 16 = .ok (.ireturn, 1) := by decide +kernel
theorem dX3_areNear_0 : decode cX3_areNear 0 = .ok (.aload_n 0, 1) := by decide +kernel
theorem dX3_areNear_1 : decode cX3_areNear 1 = .ok (.getfield 41, 3) := by decide +kernel
theorem dX3_areNear_4 : decode cX3_areNear 4 = .ok (.aload_n 0, 1) := by decide +kernel
theorem dX3_areNear_5 : decode cX3_areNear 5 = .ok (.getfield 17, 3) := by decide +kernel
theorem dX3_areNear_8 : decode cX3_areNear 8 = .ok (.iload_n 1, 1) := by decide +kernel
theorem dX3_areNear_9 : decode cX3_areNear 9 = .ok (.iaload, 1) := by decide +kernel
theorem dX3_areNear_10 : decode cX3_areNear 10 = .ok (.iaload, 1) := by decide +kernel
theorem dX3_areNear_11 : decode cX3_areNear 11 = .ok (.aload_n 0, 1) := by decide +kernel
theorem dX3_areNear_12 : decode cX3_areNear 12 = .ok (.getfield 17, 3) := by decide +kernel
theorem dX3_areNear_15 : decode cX3_areNear 15 = .ok (.iload_n 2, 1) := by decide +kernel
theorem dX3_areNear_16 : decode cX3_areNear 16 = .ok (.iaload, 1) := by decide +kernel
theorem dX3_areNear_17 : decode cX3_areNear 17 = .ok (.iushr, 1) := by decide +kernel
theorem dX3_areNear_18 : decode cX3_areNear 18 = .ok (.iconst 1, 1) := by decide +kernel
theorem dX3_areNear_19 : decode cX3_areNear 19 = .ok (.iand, 1) := by decide +kernel
theorem dX3_areNear_20 : decode cX3_areNear 20 = .ok (.ifCond .eq 7, 3) := by decide +kernel
theorem dX3_areNear_23 : decode cX3_areNear 23 = .ok (.iconst 1, 1) := by decide +kernel
theorem dX3_areNear_24 : decode cX3_areNear 24 = .ok (.goto 4, 3) := by decide +kernel
theorem dX3_areNear_27 : decode cX3_areNear 27 = .ok (.iconst 0, 1) := by decide +kernel
theorem dX3_areNear_28 : decode cX3_areNear 28 = .ok (.ireturn, 1) := by decide +kernel
theorem dX3_areIn_0 : decode cX3_areIn 0 = .ok (.aload_n 0, 1) := by decide +kernel
theorem dX3_areIn_1 : decode cX3_areIn 1 = .ok (.getfield 41, 3) := by decide +kernel
theorem dX3_areIn_4 : decode cX3_areIn 4 = .ok (.iload_n 1, 1) := by decide +kernel
theorem dX3_areIn_5 : decode cX3_areIn 5 = .ok (.iaload, 1) := by decide +kernel
theorem dX3_areIn_6 : decode cX3_areIn 6 = .ok (.iload_n 2, 1) := by decide +kernel
theorem dX3_areIn_7 : decode cX3_areIn 7 = .ok (.iushr, 1) := by decide +kernel
theorem dX3_areIn_8 : decode cX3_areIn 8 = .ok (.aload_n 0, 1) := by decide +kernel
theorem dX3_areIn_9 : decode cX3_areIn 9 = .ok (.getfield 41, 3) := by decide +kernel
theorem dX3_areIn_12 : decode cX3_areIn 12 = .ok (.iload_n 1, 1) := by decide +kernel
theorem dX3_areIn_13 : decode cX3_areIn 13 = .ok (.iaload, 1) := by decide +kernel
theorem dX3_areIn_14 : decode cX3_areIn 14 = .ok (.iload_n 3, 1) := by decide +kernel
theorem dX3_areIn_15 : decode cX3_areIn 15 = .ok (.iushr, 1) := by decide +kernel
theorem dX3_areIn_16 : decode cX3_areIn 16 = .ok (.iand, 1) := by decide +kernel
theorem dX3_areIn_17 : decode cX3_areIn 17 = .ok (.aload_n 0, 1) := by decide +kernel
theorem dX3_areIn_18 : decode cX3_areIn 18 = .ok (.getfield 41, 3) := by decide +kernel
theorem dX3_areIn_21 : decode cX3_areIn 21 = .ok (.iload_n 2, 1) := by decide +kernel
theorem dX3_areIn_22 : decode cX3_areIn 22 = .ok (.iaload, 1) := by decide +kernel
theorem dX3_areIn_23 : decode cX3_areIn 23 = .ok (.iload_n 3, 1) := by decide +kernel
theorem dX3_areIn_24 : decode cX3_areIn 24 = .ok (.iushr, 1) := by decide +kernel
theorem dX3_areIn_25 : decode cX3_areIn 25 = .ok (.iand, 1) := by decide +kernel
theorem dX3_areIn_26 : decode cX3_areIn 26 = .ok (.iconst 1, 1) := by decide +kernel
theorem dX3_areIn_27 : decode cX3_areIn 27 = .ok (.iand, 1) := by decide +kernel
theorem dX3_areIn_28 : decode cX3_areIn 28 = .ok (.ifCond .eq 7, 3) := by decide +kernel
theorem dX3_areIn_31 : decode cX3_areIn 31 = .ok (.iconst 1, 1) := by decide +kernel
theorem dX3_areIn_32 : decode cX3_areIn 32 = .ok (.goto 4, 3) := by decide +kernel
theorem dX3_areIn_35 : decode cX3_areIn 35 = .ok (.iconst 0, 1) := by decide +kernel
theorem dX3_areIn_36 : decode cX3_areIn 36 = .ok (.ireturn, 1) := by decide +kernel
theorem dX3_kindOfWant_0 : decode cX3_kindOfWant 0 = .ok (.aload_n 0, 1) := by decide +kernel
theorem dX3_kindOfWant_1 : decode cX3_kindOfWant 1 = .ok (.getfield 11, 3) := by decide +kernel
theorem dX3_kindOfWant_4 : decode cX3_kindOfWant 4 = .ok (.aload_n 0, 1) := by decide +kernel
theorem dX3_kindOfWant_5 : decode cX3_kindOfWant 5 = .ok (.getfield 17, 3) := by decide +kernel
theorem dX3_kindOfWant_8 : decode cX3_kindOfWant 8 = .ok (.iload_n 1, 1) := by decide +kernel
theorem dX3_kindOfWant_9 : decode cX3_kindOfWant 9 = .ok (.iaload, 1) := by decide +kernel
theorem dX3_kindOfWant_10 : decode cX3_kindOfWant 10 = .ok (.aaload, 1) := by decide +kernel
theorem dX3_kindOfWant_11 : decode cX3_kindOfWant 11 = .ok (.getfield 97, 3) := by decide +kernel
theorem dX3_kindOfWant_14 : decode cX3_kindOfWant 14 = .ok (.ireturn, 1) := by decide +kernel
theorem dX3_gapOf_0 : decode cX3_gapOf 0 = .ok (.aload_n 0, 1) := by decide +kernel
theorem dX3_gapOf_1 : decode cX3_gapOf 1 = .ok (.getfield 11, 3) := by decide +kernel
theorem dX3_gapOf_4 : decode cX3_gapOf 4 = .ok (.aload_n 0, 1) := by decide +kernel
theorem dX3_gapOf_5 : decode cX3_gapOf 5 = .ok (.getfield 17, 3) := by decide +kernel
theorem dX3_gapOf_8 : decode cX3_gapOf 8 = .ok (.iload_n 1, 1) := by decide +kernel
theorem dX3_gapOf_9 : decode cX3_gapOf 9 = .ok (.iaload, 1) := by decide +kernel
theorem dX3_gapOf_10 : decode cX3_gapOf 10 = .ok (.aaload, 1) := by decide +kernel
theorem dX3_gapOf_11 : decode cX3_gapOf 11 = .ok (.astore_n 2, 1) := by decide +kernel
theorem dX3_gapOf_12 : decode cX3_gapOf 12 = .ok (.aload_n 2, 1) := by decide +kernel
theorem dX3_gapOf_13 : decode cX3_gapOf 13 = .ok (.getfield 97, 3) := by decide +kernel
theorem dX3_gapOf_16 : decode cX3_gapOf 16 = .ok (.iconst 1, 1) := by decide +kernel
theorem dX3_gapOf_17 : decode cX3_gapOf 17 = .ok (.if_icmp .ne 10, 3) := by decide +kernel
theorem dX3_gapOf_20 : decode cX3_gapOf 20 = .ok (.aload_n 2, 1) := by decide +kernel
theorem dX3_gapOf_21 : decode cX3_gapOf 21 = .ok (.getfield 100, 3) := by decide +kernel
theorem dX3_gapOf_24 : decode cX3_gapOf 24 = .ok (.goto 4, 3) := by decide +kernel
theorem dX3_gapOf_27 : decode cX3_gapOf 27 = .ok (.iconst 0, 1) := by decide +kernel
theorem dX3_gapOf_28 : decode cX3_gapOf 28 = .ok (.ireturn, 1) := by decide +kernel
theorem dX3_allowed_0 : decode cX3_allowed 0 = .ok (.aload_n 0, 1) := by decide +kernel
theorem dX3_allowed_1 : decode cX3_allowed 1 = .ok (.getfield 11, 3) := by decide +kernel
theorem dX3_allowed_4 : decode cX3_allowed 4 = .ok (.aload_n 0, 1) := by decide +kernel
theorem dX3_allowed_5 : decode cX3_allowed 5 = .ok (.getfield 17, 3) := by decide +kernel
theorem dX3_allowed_8 : decode cX3_allowed 8 = .ok (.iload_n 1, 1) := by decide +kernel
theorem dX3_allowed_9 : decode cX3_allowed 9 = .ok (.iaload, 1) := by decide +kernel
theorem dX3_allowed_10 : decode cX3_allowed 10 = .ok (.aaload, 1) := by decide +kernel
theorem dX3_allowed_11 : decode cX3_allowed 11 = .ok (.astore_n 2, 1) := by decide +kernel
theorem dX3_allowed_12 : decode cX3_allowed 12 = .ok (.aload_n 2, 1) := by decide +kernel
theorem dX3_allowed_13 : decode cX3_allowed 13 = .ok (.getfield 103, 3) := by decide +kernel
theorem dX3_allowed_16 : decode cX3_allowed 16 = .ok (.aload_n 2, 1) := by decide +kernel
theorem dX3_allowed_17 : decode cX3_allowed 17 = .ok (.getfield 103, 3) := by decide +kernel
theorem dX3_allowed_20 : decode cX3_allowed 20 = .ok (.aload_n 0, 1) := by decide +kernel
theorem dX3_allowed_21 : decode cX3_allowed 21 = .ok (.iload_n 1, 1) := by decide +kernel
theorem dX3_allowed_22 : decode cX3_allowed 22 = .ok (.invokevirtual 106, 3) := by decide +kernel
theorem dX3_allowed_25 : decode cX3_allowed 25 = .ok (.iushr, 1) := by decide +kernel
theorem dX3_allowed_26 : decode cX3_allowed 26 = .ok (.iand, 1) := by decide +kernel
theorem dX3_allowed_27 : decode cX3_allowed 27 = .ok (.aload_n 0, 1) := by decide +kernel
theorem dX3_allowed_28 : decode cX3_allowed 28 = .ok (.getfield 34, 3) := by decide +kernel
theorem dX3_allowed_31 : decode cX3_allowed 31 = .ok (.aload_n 2, 1) := by decide +kernel
theorem dX3_allowed_32 : decode cX3_allowed 32 = .ok (.invokevirtual 110, 3) := by decide +kernel
theorem dX3_allowed_35 : decode cX3_allowed 35 = .ok (.iand, 1) := by decide +kernel
theorem dX3_allowed_36 : decode cX3_allowed 36 = .ok (.istore_n 3, 1) := by decide +kernel
theorem dX3_allowed_37 : decode cX3_allowed 37 = .ok (.aload_n 0, 1) := by decide +kernel
theorem dX3_allowed_38 : decode cX3_allowed 38 = .ok (.getfield 21, 3) := by decide +kernel
theorem dX3_allowed_41 : decode cX3_allowed 41 = .ok (.iload_n 1, 1) := by decide +kernel
theorem dX3_allowed_42 : decode cX3_allowed 42 = .ok (.iaload, 1) := by decide +kernel
theorem dX3_allowed_43 : decode cX3_allowed 43 = .ok (.bipush (-2), 2) := by decide +kernel
theorem dX3_allowed_45 : decode cX3_allowed 45 = .ok (.if_icmp .ne 7, 3) := by decide +kernel
theorem dX3_allowed_48 : decode cX3_allowed 48 = .ok (.iload_n 3, 1) := by decide +kernel
theorem dX3_allowed_49 : decode cX3_allowed 49 = .ok (.goto 13, 3) := by decide +kernel
theorem dX3_allowed_52 : decode cX3_allowed 52 = .ok (.iload_n 3, 1) := by decide +kernel
theorem dX3_allowed_53 : decode cX3_allowed 53 = .ok (.iconst 1, 1) := by decide +kernel
theorem dX3_allowed_54 : decode cX3_allowed 54 = .ok (.aload_n 0, 1) := by decide +kernel
theorem dX3_allowed_55 : decode cX3_allowed 55 = .ok (.getfield 21, 3) := by decide +kernel
theorem dX3_allowed_58 : decode cX3_allowed 58 = .ok (.iload_n 1, 1) := by decide +kernel
theorem dX3_allowed_59 : decode cX3_allowed 59 = .ok (.iaload, 1) := by decide +kernel
theorem dX3_allowed_60 : decode cX3_allowed 60 = .ok (.ishl, 1) := by decide +kernel
theorem dX3_allowed_61 : decode cX3_allowed 61 = .ok (.iand, 1) := by decide +kernel
theorem dX3_allowed_62 : decode cX3_allowed 62 = .ok (.ireturn, 1) := by decide +kernel
theorem dX3_barredTwos_0 : decode cX3_barredTwos 0 = .ok (.iconst 0, 1) := by decide +kernel
theorem dX3_barredTwos_1 : decode cX3_barredTwos 1 = .ok (.istore_n 1, 1) := by decide +kernel
theorem dX3_barredTwos_2 : decode cX3_barredTwos 2 = .ok (.iconst 0, 1) := by decide +kernel
theorem dX3_barredTwos_3 : decode cX3_barredTwos 3 = .ok (.istore_n 2, 1) := by decide +kernel
theorem dX3_barredTwos_4 : decode cX3_barredTwos 4 = .ok (.iload_n 2, 1) := by decide +kernel
theorem dX3_barredTwos_5 : decode cX3_barredTwos 5 = .ok (.aload_n 0, 1) := by decide +kernel
theorem dX3_barredTwos_6 : decode cX3_barredTwos 6 = .ok (.getfield 58, 3) := by decide +kernel
theorem dX3_barredTwos_9 : decode cX3_barredTwos 9 = .ok (.if_icmp .ge 44, 3) := by decide +kernel
theorem dX3_barredTwos_12 : decode cX3_barredTwos 12 = .ok (.iload_n 2, 1) := by decide +kernel
theorem dX3_barredTwos_13 : decode cX3_barredTwos 13 = .ok (.iconst 1, 1) := by decide +kernel
theorem dX3_barredTwos_14 : decode cX3_barredTwos 14 = .ok (.iadd, 1) := by decide +kernel
theorem dX3_barredTwos_15 : decode cX3_barredTwos 15 = .ok (.istore_n 3, 1) := by decide +kernel
theorem dX3_barredTwos_16 : decode cX3_barredTwos 16 = .ok (.iload_n 3, 1) := by decide +kernel
theorem dX3_barredTwos_17 : decode cX3_barredTwos 17 = .ok (.aload_n 0, 1) := by decide +kernel
theorem dX3_barredTwos_18 : decode cX3_barredTwos 18 = .ok (.getfield 58, 3) := by decide +kernel
theorem dX3_barredTwos_21 : decode cX3_barredTwos 21 = .ok (.if_icmp .ge 26, 3) := by decide +kernel
theorem dX3_barredTwos_24 : decode cX3_barredTwos 24 = .ok (.iload_n 1, 1) := by decide +kernel
theorem dX3_barredTwos_25 : decode cX3_barredTwos 25 = .ok (.aload_n 0, 1) := by decide +kernel
theorem dX3_barredTwos_26 : decode cX3_barredTwos 26 = .ok (.iload_n 2, 1) := by decide +kernel
theorem dX3_barredTwos_27 : decode cX3_barredTwos 27 = .ok (.iload_n 3, 1) := by decide +kernel
theorem dX3_barredTwos_28 : decode cX3_barredTwos 28 = .ok (.invokevirtual 75, 3) := by decide +kernel
theorem dX3_barredTwos_31 : decode cX3_barredTwos 31 = .ok (.ifCond .le 7, 3) := by decide +kernel
theorem dX3_barredTwos_34 : decode cX3_barredTwos 34 = .ok (.iconst 1, 1) := by decide +kernel
theorem dX3_barredTwos_35 : decode cX3_barredTwos 35 = .ok (.goto 4, 3) := by decide +kernel
theorem dX3_barredTwos_38 : decode cX3_barredTwos 38 = .ok (.iconst 0, 1) := by decide +kernel
theorem dX3_barredTwos_39 : decode cX3_barredTwos 39 = .ok (.iadd, 1) := by decide +kernel
theorem dX3_barredTwos_40 : decode cX3_barredTwos 40 = .ok (.istore_n 1, 1) := by decide +kernel
theorem dX3_barredTwos_41 : decode cX3_barredTwos 41 = .ok (.iinc 3 1, 3) := by decide +kernel
theorem dX3_barredTwos_44 : decode cX3_barredTwos 44 = .ok (.goto (-28), 3) := by decide +kernel
theorem dX3_barredTwos_47 : decode cX3_barredTwos 47 = .ok (.iinc 2 1, 3) := by decide +kernel
theorem dX3_barredTwos_50 : decode cX3_barredTwos 50 = .ok (.goto (-46), 3) := by decide +kernel
theorem dX3_barredTwos_53 : decode cX3_barredTwos 53 = .ok (.iload_n 1, 1) := by decide +kernel
theorem dX3_barredTwos_54 : decode cX3_barredTwos 54 = .ok (.ireturn, 1) := by decide +kernel
theorem dX3_threesIn_0 : decode cX3_threesIn 0 = .ok (.iconst 0, 1) := by decide +kernel
theorem dX3_threesIn_1 : decode cX3_threesIn 1 = .ok (.istore_n 1, 1) := by decide +kernel
theorem dX3_threesIn_2 : decode cX3_threesIn 2 = .ok (.iconst 0, 1) := by decide +kernel
theorem dX3_threesIn_3 : decode cX3_threesIn 3 = .ok (.istore_n 2, 1) := by decide +kernel
theorem dX3_threesIn_4 : decode cX3_threesIn 4 = .ok (.iload_n 2, 1) := by decide +kernel
theorem dX3_threesIn_5 : decode cX3_threesIn 5 = .ok (.aload_n 0, 1) := by decide +kernel
theorem dX3_threesIn_6 : decode cX3_threesIn 6 = .ok (.getfield 58, 3) := by decide +kernel
theorem dX3_threesIn_9 : decode cX3_threesIn 9 = .ok (.if_icmp .ge 66, 3) := by decide +kernel
theorem dX3_threesIn_12 : decode cX3_threesIn 12 = .ok (.iload_n 2, 1) := by decide +kernel
theorem dX3_threesIn_13 : decode cX3_threesIn 13 = .ok (.iconst 1, 1) := by decide +kernel
theorem dX3_threesIn_14 : decode cX3_threesIn 14 = .ok (.iadd, 1) := by decide +kernel
theorem dX3_threesIn_15 : decode cX3_threesIn 15 = .ok (.istore_n 3, 1) := by decide +kernel
theorem dX3_threesIn_16 : decode cX3_threesIn 16 = .ok (.iload_n 3, 1) := by decide +kernel
theorem dX3_threesIn_17 : decode cX3_threesIn 17 = .ok (.aload_n 0, 1) := by decide +kernel
theorem dX3_threesIn_18 : decode cX3_threesIn 18 = .ok (.getfield 58, 3) := by decide +kernel
theorem dX3_threesIn_21 : decode cX3_threesIn 21 = .ok (.if_icmp .ge 48, 3) := by decide +kernel
theorem dX3_threesIn_24 : decode cX3_threesIn 24 = .ok (.iload_n 3, 1) := by decide +kernel
theorem dX3_threesIn_25 : decode cX3_threesIn 25 = .ok (.iconst 1, 1) := by decide +kernel
theorem dX3_threesIn_26 : decode cX3_threesIn 26 = .ok (.iadd, 1) := by decide +kernel
theorem dX3_threesIn_27 : decode cX3_threesIn 27 = .ok (.istore 4, 2) := by decide +kernel
theorem dX3_threesIn_29 : decode cX3_threesIn 29 = .ok (.iload 4, 2) := by decide +kernel
theorem dX3_threesIn_31 : decode cX3_threesIn 31 = .ok (.aload_n 0, 1) := by decide +kernel
theorem dX3_threesIn_32 : decode cX3_threesIn 32 = .ok (.getfield 58, 3) := by decide +kernel
theorem dX3_threesIn_35 : decode cX3_threesIn 35 = .ok (.if_icmp .ge 28, 3) := by decide +kernel
theorem dX3_threesIn_38 : decode cX3_threesIn 38 = .ok (.iload_n 1, 1) := by decide +kernel
theorem dX3_threesIn_39 : decode cX3_threesIn 39 = .ok (.aload_n 0, 1) := by decide +kernel
theorem dX3_threesIn_40 : decode cX3_threesIn 40 = .ok (.iload_n 2, 1) := by decide +kernel
theorem dX3_threesIn_41 : decode cX3_threesIn 41 = .ok (.iload_n 3, 1) := by decide +kernel
theorem dX3_threesIn_42 : decode cX3_threesIn 42 = .ok (.iload 4, 2) := by decide +kernel
theorem dX3_threesIn_44 : decode cX3_threesIn 44 = .ok (.invokevirtual 114, 3) := by decide +kernel
theorem dX3_threesIn_47 : decode cX3_threesIn 47 = .ok (.ifCond .eq 7, 3) := by decide +kernel
theorem dX3_threesIn_50 : decode cX3_threesIn 50 = .ok (.iconst 1, 1) := by decide +kernel
theorem dX3_threesIn_51 : decode cX3_threesIn 51 = .ok (.goto 4, 3) := by decide +kernel
theorem dX3_threesIn_54 : decode cX3_threesIn 54 = .ok (.iconst 0, 1) := by decide +kernel
theorem dX3_threesIn_55 : decode cX3_threesIn 55 = .ok (.iadd, 1) := by decide +kernel
theorem dX3_threesIn_56 : decode cX3_threesIn 56 = .ok (.istore_n 1, 1) := by decide +kernel
theorem dX3_threesIn_57 : decode cX3_threesIn 57 = .ok (.iinc 4 1, 3) := by decide +kernel
theorem dX3_threesIn_60 : decode cX3_threesIn 60 = .ok (.goto (-31), 3) := by decide +kernel
theorem dX3_threesIn_63 : decode cX3_threesIn 63 = .ok (.iinc 3 1, 3) := by decide +kernel
theorem dX3_threesIn_66 : decode cX3_threesIn 66 = .ok (.goto (-50), 3) := by decide +kernel
theorem dX3_threesIn_69 : decode cX3_threesIn 69 = .ok (.iinc 2 1, 3) := by decide +kernel
theorem dX3_threesIn_72 : decode cX3_threesIn 72 = .ok (.goto (-68), 3) := by decide +kernel
theorem dX3_threesIn_75 : decode cX3_threesIn 75 = .ok (.iload_n 1, 1) := by decide +kernel
theorem dX3_threesIn_76 : decode cX3_threesIn 76 = .ok (.ireturn, 1) := by decide +kernel
theorem dX3_parts_0 : decode cX3_parts 0 = .ok (.iconst 0, 1) := by decide +kernel
theorem dX3_parts_1 : decode cX3_parts 1 = .ok (.istore_n 1, 1) := by decide +kernel
theorem dX3_parts_2 : decode cX3_parts 2 = .ok (.iconst 0, 1) := by decide +kernel
theorem dX3_parts_3 : decode cX3_parts 3 = .ok (.istore_n 2, 1) := by decide +kernel
theorem dX3_parts_4 : decode cX3_parts 4 = .ok (.iconst 0, 1) := by decide +kernel
theorem dX3_parts_5 : decode cX3_parts 5 = .ok (.istore_n 3, 1) := by decide +kernel
theorem dX3_parts_6 : decode cX3_parts 6 = .ok (.iload_n 3, 1) := by decide +kernel
theorem dX3_parts_7 : decode cX3_parts 7 = .ok (.aload_n 0, 1) := by decide +kernel
theorem dX3_parts_8 : decode cX3_parts 8 = .ok (.getfield 58, 3) := by decide +kernel
theorem dX3_parts_11 : decode cX3_parts 11 = .ok (.if_icmp .ge 28, 3) := by decide +kernel
theorem dX3_parts_14 : decode cX3_parts 14 = .ok (.iload_n 2, 1) := by decide +kernel
theorem dX3_parts_15 : decode cX3_parts 15 = .ok (.iload_n 3, 1) := by decide +kernel
theorem dX3_parts_16 : decode cX3_parts 16 = .ok (.iushr, 1) := by decide +kernel
theorem dX3_parts_17 : decode cX3_parts 17 = .ok (.iconst 1, 1) := by decide +kernel
theorem dX3_parts_18 : decode cX3_parts 18 = .ok (.iand, 1) := by decide +kernel
theorem dX3_parts_19 : decode cX3_parts 19 = .ok (.ifCond .ne 14, 3) := by decide +kernel
theorem dX3_parts_22 : decode cX3_parts 22 = .ok (.iload_n 2, 1) := by decide +kernel
theorem dX3_parts_23 : decode cX3_parts 23 = .ok (.aload_n 0, 1) := by decide +kernel
theorem dX3_parts_24 : decode cX3_parts 24 = .ok (.iload_n 3, 1) := by decide +kernel
theorem dX3_parts_25 : decode cX3_parts 25 = .ok (.invokevirtual 118, 3) := by decide +kernel
theorem dX3_parts_28 : decode cX3_parts 28 = .ok (.ior, 1) := by decide +kernel
theorem dX3_parts_29 : decode cX3_parts 29 = .ok (.istore_n 2, 1) := by decide +kernel
theorem dX3_parts_30 : decode cX3_parts 30 = .ok (.iinc 1 1, 3) := by decide +kernel
theorem dX3_parts_33 : decode cX3_parts 33 = .ok (.iinc 3 1, 3) := by decide +kernel
theorem dX3_parts_36 : decode cX3_parts 36 = .ok (.goto (-30), 3) := by decide +kernel
theorem dX3_parts_39 : decode cX3_parts 39 = .ok (.iload_n 1, 1) := by decide +kernel
theorem dX3_parts_40 : decode cX3_parts 40 = .ok (.ireturn, 1) := by decide +kernel
theorem dX3_partOf_0 : decode cX3_partOf 0 = .ok (.iconst 0, 1) := by decide +kernel
theorem dX3_partOf_1 : decode cX3_partOf 1 = .ok (.istore_n 2, 1) := by decide +kernel
theorem dX3_partOf_2 : decode cX3_partOf 2 = .ok (.iconst 0, 1) := by decide +kernel
theorem dX3_partOf_3 : decode cX3_partOf 3 = .ok (.istore_n 3, 1) := by decide +kernel
theorem dX3_partOf_4 : decode cX3_partOf 4 = .ok (.iconst 0, 1) := by decide +kernel
theorem dX3_partOf_5 : decode cX3_partOf 5 = .ok (.istore 4, 2) := by decide +kernel
theorem dX3_partOf_7 : decode cX3_partOf 7 = .ok (.iload 4, 2) := by decide +kernel
theorem dX3_partOf_9 : decode cX3_partOf 9 = .ok (.iload_n 1, 1) := by decide +kernel
theorem dX3_partOf_10 : decode cX3_partOf 10 = .ok (.if_icmp .ge 45, 3) := by decide +kernel
theorem dX3_partOf_13 : decode cX3_partOf 13 = .ok (.iload_n 3, 1) := by decide +kernel
theorem dX3_partOf_14 : decode cX3_partOf 14 = .ok (.iload 4, 2) := by decide +kernel
theorem dX3_partOf_16 : decode cX3_partOf 16 = .ok (.iushr, 1) := by decide +kernel
theorem dX3_partOf_17 : decode cX3_partOf 17 = .ok (.iconst 1, 1) := by decide +kernel
theorem dX3_partOf_18 : decode cX3_partOf 18 = .ok (.iand, 1) := by decide +kernel
theorem dX3_partOf_19 : decode cX3_partOf 19 = .ok (.ifCond .ne 30, 3) := by decide +kernel
theorem dX3_partOf_22 : decode cX3_partOf 22 = .ok (.aload_n 0, 1) := by decide +kernel
theorem dX3_partOf_23 : decode cX3_partOf 23 = .ok (.iload 4, 2) := by decide +kernel
theorem dX3_partOf_25 : decode cX3_partOf 25 = .ok (.invokevirtual 118, 3) := by decide +kernel
theorem dX3_partOf_28 : decode cX3_partOf 28 = .ok (.istore 5, 2) := by decide +kernel
theorem dX3_partOf_30 : decode cX3_partOf 30 = .ok (.iload 5, 2) := by decide +kernel
theorem dX3_partOf_32 : decode cX3_partOf 32 = .ok (.iload_n 1, 1) := by decide +kernel
theorem dX3_partOf_33 : decode cX3_partOf 33 = .ok (.iushr, 1) := by decide +kernel
theorem dX3_partOf_34 : decode cX3_partOf 34 = .ok (.iconst 1, 1) := by decide +kernel
theorem dX3_partOf_35 : decode cX3_partOf 35 = .ok (.iand, 1) := by decide +kernel
theorem dX3_partOf_36 : decode cX3_partOf 36 = .ok (.ifCond .eq 5, 3) := by decide +kernel
theorem dX3_partOf_39 : decode cX3_partOf 39 = .ok (.iload_n 2, 1) := by decide +kernel
theorem dX3_partOf_40 : decode cX3_partOf 40 = .ok (.ireturn, 1) := by decide +kernel
theorem dX3_partOf_41 : decode cX3_partOf 41 = .ok (.iload_n 3, 1) := by decide +kernel
theorem dX3_partOf_42 : decode cX3_partOf 42 = .ok (.iload 5, 2) := by decide +kernel
theorem dX3_partOf_44 : decode cX3_partOf 44 = .ok (.ior, 1) := by decide +kernel
theorem dX3_partOf_45 : decode cX3_partOf 45 = .ok (.istore_n 3, 1) := by decide +kernel
theorem dX3_partOf_46 : decode cX3_partOf 46 = .ok (.iinc 2 1, 3) := by decide +kernel
theorem dX3_partOf_49 : decode cX3_partOf 49 = .ok (.iinc 4 1, 3) := by decide +kernel
theorem dX3_partOf_52 : decode cX3_partOf 52 = .ok (.goto (-45), 3) := by decide +kernel
theorem dX3_partOf_55 : decode cX3_partOf 55 = .ok (.iload_n 2, 1) := by decide +kernel
theorem dX3_partOf_56 : decode cX3_partOf 56 = .ok (.ireturn, 1) := by decide +kernel
theorem dX3_partAround_0 : decode cX3_partAround 0 = .ok (.iconst 1, 1) := by decide +kernel
theorem dX3_partAround_1 : decode cX3_partAround 1 = .ok (.iload_n 1, 1) := by decide +kernel
theorem dX3_partAround_2 : decode cX3_partAround 2 = .ok (.ishl, 1) := by decide +kernel
theorem dX3_partAround_3 : decode cX3_partAround 3 = .ok (.istore_n 2, 1) := by decide +kernel
theorem dX3_partAround_4 : decode cX3_partAround 4 = .ok (.iconst 0, 1) := by decide +kernel
theorem dX3_partAround_5 : decode cX3_partAround 5 = .ok (.istore_n 3, 1) := by decide +kernel
theorem dX3_partAround_6 : decode cX3_partAround 6 = .ok (.iload_n 3, 1) := by decide +kernel
theorem dX3_partAround_7 : decode cX3_partAround 7 = .ok (.aload_n 0, 1) := by decide +kernel
theorem dX3_partAround_8 : decode cX3_partAround 8 = .ok (.getfield 58, 3) := by decide +kernel
theorem dX3_partAround_11 : decode cX3_partAround 11 = .ok (.if_icmp .ge 65, 3) := by decide +kernel
theorem dX3_partAround_14 : decode cX3_partAround 14 = .ok (.iload_n 2, 1) := by decide +kernel
theorem dX3_partAround_15 : decode cX3_partAround 15 = .ok (.istore 4, 2) := by decide +kernel
theorem dX3_partAround_17 : decode cX3_partAround 17 = .ok (.iconst 0, 1) := by decide +kernel
theorem dX3_partAround_18 : decode cX3_partAround 18 = .ok (.istore 5, 2) := by decide +kernel
theorem dX3_partAround_20 : decode cX3_partAround 20 = .ok (.iload 5, 2) := by decide +kernel
theorem dX3_partAround_22 : decode cX3_partAround 22 = .ok (.aload_n 0, 1) := by decide +kernel
theorem dX3_partAround_23 : decode cX3_partAround 23 = .ok (.getfield 58, 3) := by decide +kernel
theorem dX3_partAround_26 : decode cX3_partAround 26 = .ok (.if_icmp .ge 33, 3) := by decide +kernel
theorem dX3_partAround_29 : decode cX3_partAround 29 = .ok (.iload 4, 2) := by decide +kernel
theorem dX3_partAround_31 : decode cX3_partAround 31 = .ok (.iload_n 2, 1) := by decide +kernel
theorem dX3_partAround_32 : decode cX3_partAround 32 = .ok (.iload 5, 2) := by decide +kernel
theorem dX3_partAround_34 : decode cX3_partAround 34 = .ok (.iushr, 1) := by decide +kernel
theorem dX3_partAround_35 : decode cX3_partAround 35 = .ok (.iconst 1, 1) := by decide +kernel
theorem dX3_partAround_36 : decode cX3_partAround 36 = .ok (.iand, 1) := by decide +kernel
theorem dX3_partAround_37 : decode cX3_partAround 37 = .ok (.ifCond .eq 12, 3) := by decide +kernel
theorem dX3_partAround_40 : decode cX3_partAround 40 = .ok (.aload_n 0, 1) := by decide +kernel
theorem dX3_partAround_41 : decode cX3_partAround 41 = .ok (.iload 5, 2) := by decide +kernel
theorem dX3_partAround_43 : decode cX3_partAround 43 = .ok (.invokevirtual 121, 3) := by decide +kernel
theorem dX3_partAround_46 : decode cX3_partAround 46 = .ok (.goto 4, 3) := by decide +kernel
theorem dX3_partAround_49 : decode cX3_partAround 49 = .ok (.iconst 0, 1) := by decide +kernel
theorem dX3_partAround_50 : decode cX3_partAround 50 = .ok (.ior, 1) := by decide +kernel
theorem dX3_partAround_51 : decode cX3_partAround 51 = .ok (.istore 4, 2) := by decide +kernel
theorem dX3_partAround_53 : decode cX3_partAround 53 = .ok (.iinc 5 1, 3) := by decide +kernel
theorem dX3_partAround_56 : decode cX3_partAround 56 = .ok (.goto (-36), 3) := by decide +kernel
theorem dX3_partAround_59 : decode cX3_partAround 59 = .ok (.iload 4, 2) := by decide +kernel
theorem dX3_partAround_61 : decode cX3_partAround 61 = .ok (.iload_n 2, 1) := by decide +kernel
theorem dX3_partAround_62 : decode cX3_partAround 62 = .ok (.if_icmp .ne 5, 3) := by decide +kernel
theorem dX3_partAround_65 : decode cX3_partAround 65 = .ok (.iload_n 2, 1) := by decide +kernel
theorem dX3_partAround_66 : decode cX3_partAround 66 = .ok (.ireturn, 1) := by decide +kernel
theorem dX3_partAround_67 : decode cX3_partAround 67 = .ok (.iload 4, 2) := by decide +kernel
theorem dX3_partAround_69 : decode cX3_partAround 69 = .ok (.istore_n 2, 1) := by decide +kernel
theorem dX3_partAround_70 : decode cX3_partAround 70 = .ok (.iinc 3 1, 3) := by decide +kernel
theorem dX3_partAround_73 : decode cX3_partAround 73 = .ok (.goto (-67), 3) := by decide +kernel
theorem dX3_partAround_76 : decode cX3_partAround 76 = .ok (.iload_n 2, 1) := by decide +kernel
theorem dX3_partAround_77 : decode cX3_partAround 77 = .ok (.ireturn, 1) := by decide +kernel
theorem dX3_joinedTo_0 : decode cX3_joinedTo 0 = .ok (.iconst 0, 1) := by decide +kernel
theorem dX3_joinedTo_1 : decode cX3_joinedTo 1 = .ok (.istore_n 2, 1) := by decide +kernel
theorem dX3_joinedTo_2 : decode cX3_joinedTo 2 = .ok (.iconst 0, 1) := by decide +kernel
theorem dX3_joinedTo_3 : decode cX3_joinedTo 3 = .ok (.istore_n 3, 1) := by decide +kernel
theorem dX3_joinedTo_4 : decode cX3_joinedTo 4 = .ok (.iload_n 3, 1) := by decide +kernel
theorem dX3_joinedTo_5 : decode cX3_joinedTo 5 = .ok (.aload_n 0, 1) := by decide +kernel
theorem dX3_joinedTo_6 : decode cX3_joinedTo 6 = .ok (.getfield 58, 3) := by decide +kernel
theorem dX3_joinedTo_9 : decode cX3_joinedTo 9 = .ok (.if_icmp .ge 74, 3) := by decide +kernel
theorem dX3_joinedTo_12 : decode cX3_joinedTo 12 = .ok (.aload_n 0, 1) := by decide +kernel
theorem dX3_joinedTo_13 : decode cX3_joinedTo 13 = .ok (.getfield 41, 3) := by decide +kernel
theorem dX3_joinedTo_16 : decode cX3_joinedTo 16 = .ok (.iload_n 1, 1) := by decide +kernel
theorem dX3_joinedTo_17 : decode cX3_joinedTo 17 = .ok (.iaload, 1) := by decide +kernel
theorem dX3_joinedTo_18 : decode cX3_joinedTo 18 = .ok (.iload_n 3, 1) := by decide +kernel
theorem dX3_joinedTo_19 : decode cX3_joinedTo 19 = .ok (.iushr, 1) := by decide +kernel
theorem dX3_joinedTo_20 : decode cX3_joinedTo 20 = .ok (.iconst 1, 1) := by decide +kernel
theorem dX3_joinedTo_21 : decode cX3_joinedTo 21 = .ok (.iand, 1) := by decide +kernel
theorem dX3_joinedTo_22 : decode cX3_joinedTo 22 = .ok (.ifCond .eq 23, 3) := by decide +kernel
theorem dX3_joinedTo_25 : decode cX3_joinedTo 25 = .ok (.aload_n 0, 1) := by decide +kernel
theorem dX3_joinedTo_26 : decode cX3_joinedTo 26 = .ok (.getfield 41, 3) := by decide +kernel
theorem dX3_joinedTo_29 : decode cX3_joinedTo 29 = .ok (.iload_n 1, 1) := by decide +kernel
theorem dX3_joinedTo_30 : decode cX3_joinedTo 30 = .ok (.iaload, 1) := by decide +kernel
theorem dX3_joinedTo_31 : decode cX3_joinedTo 31 = .ok (.aload_n 0, 1) := by decide +kernel
theorem dX3_joinedTo_32 : decode cX3_joinedTo 32 = .ok (.getfield 41, 3) := by decide +kernel
theorem dX3_joinedTo_35 : decode cX3_joinedTo 35 = .ok (.iload_n 3, 1) := by decide +kernel
theorem dX3_joinedTo_36 : decode cX3_joinedTo 36 = .ok (.iaload, 1) := by decide +kernel
theorem dX3_joinedTo_37 : decode cX3_joinedTo 37 = .ok (.iand, 1) := by decide +kernel
theorem dX3_joinedTo_38 : decode cX3_joinedTo 38 = .ok (.ifCond .eq 7, 3) := by decide +kernel
theorem dX3_joinedTo_41 : decode cX3_joinedTo 41 = .ok (.iconst 1, 1) := by decide +kernel
theorem dX3_joinedTo_42 : decode cX3_joinedTo 42 = .ok (.goto 4, 3) := by decide +kernel
theorem dX3_joinedTo_45 : decode cX3_joinedTo 45 = .ok (.iconst 0, 1) := by decide +kernel
theorem dX3_joinedTo_46 : decode cX3_joinedTo 46 = .ok (.istore 4, 2) := by decide +kernel
theorem dX3_joinedTo_48 : decode cX3_joinedTo 48 = .ok (.iload_n 2, 1) := by decide +kernel
theorem dX3_joinedTo_49 : decode cX3_joinedTo 49 = .ok (.iload_n 1, 1) := by decide +kernel
theorem dX3_joinedTo_50 : decode cX3_joinedTo 50 = .ok (.iload_n 3, 1) := by decide +kernel
theorem dX3_joinedTo_51 : decode cX3_joinedTo 51 = .ok (.if_icmp .eq 23, 3) := by decide +kernel
theorem dX3_joinedTo_54 : decode cX3_joinedTo 54 = .ok (.aload_n 0, 1) := by decide +kernel
theorem dX3_joinedTo_55 : decode cX3_joinedTo 55 = .ok (.iload_n 1, 1) := by decide +kernel
theorem dX3_joinedTo_56 : decode cX3_joinedTo 56 = .ok (.iload_n 3, 1) := by decide +kernel
theorem dX3_joinedTo_57 : decode cX3_joinedTo 57 = .ok (.invokevirtual 75, 3) := by decide +kernel
theorem dX3_joinedTo_60 : decode cX3_joinedTo 60 = .ok (.ifCond .gt 8, 3) := by decide +kernel
theorem dX3_joinedTo_63 : decode cX3_joinedTo 63 = .ok (.iload 4, 2) := by decide +kernel
theorem dX3_joinedTo_65 : decode cX3_joinedTo 65 = .ok (.ifCond .eq 9, 3) := by decide +kernel
theorem dX3_joinedTo_68 : decode cX3_joinedTo 68 = .ok (.iconst 1, 1) := by decide +kernel
theorem dX3_joinedTo_69 : decode cX3_joinedTo 69 = .ok (.iload_n 3, 1) := by decide +kernel
theorem dX3_joinedTo_70 : decode cX3_joinedTo 70 = .ok (.ishl, 1) := by decide +kernel
theorem dX3_joinedTo_71 : decode cX3_joinedTo 71 = .ok (.goto 4, 3) := by decide +kernel
theorem dX3_joinedTo_74 : decode cX3_joinedTo 74 = .ok (.iconst 0, 1) := by decide +kernel
theorem dX3_joinedTo_75 : decode cX3_joinedTo 75 = .ok (.ior, 1) := by decide +kernel
theorem dX3_joinedTo_76 : decode cX3_joinedTo 76 = .ok (.istore_n 2, 1) := by decide +kernel
theorem dX3_joinedTo_77 : decode cX3_joinedTo 77 = .ok (.iinc 3 1, 3) := by decide +kernel
theorem dX3_joinedTo_80 : decode cX3_joinedTo 80 = .ok (.goto (-76), 3) := by decide +kernel
theorem dX3_joinedTo_83 : decode cX3_joinedTo 83 = .ok (.iload_n 2, 1) := by decide +kernel
theorem dX3_joinedTo_84 : decode cX3_joinedTo 84 = .ok (.ireturn, 1) := by decide +kernel
