theorem dX0_isCrowd_0 : decode cX0_isCrowd 0 = .ok (.iconst 0, 1) := by decide +kernel
theorem dX0_isCrowd_1 : decode cX0_isCrowd 1 = .ok (.istore_n 2, 1) := by decide +kernel
theorem dX0_isCrowd_2 : decode cX0_isCrowd 2 = .ok (.iload_n 2, 1) := by decide +kernel
theorem dX0_isCrowd_3 : decode cX0_isCrowd 3 = .ok (.aload_n 0, 1) := by decide +kernel
theorem dX0_isCrowd_4 : decode cX0_isCrowd 4 = .ok (.getfield 18, 3) := by decide +kernel
theorem dX0_isCrowd_7 : decode cX0_isCrowd 7 = .ok (.getfield 22, 3) := by decide +kernel
theorem dX0_isCrowd_10 : decode cX0_isCrowd 10 = .ok (.if_icmp .ge 34, 3) := by decide +kernel
theorem dX0_isCrowd_13 : decode cX0_isCrowd 13 = .ok (.iload_n 1, 1) := by decide +kernel
theorem dX0_isCrowd_14 : decode cX0_isCrowd 14 = .ok (.iload_n 2, 1) := by decide +kernel
theorem dX0_isCrowd_15 : decode cX0_isCrowd 15 = .ok (.iushr, 1) := by decide +kernel
theorem dX0_isCrowd_16 : decode cX0_isCrowd 16 = .ok (.iconst 1, 1) := by decide +kernel
theorem dX0_isCrowd_17 : decode cX0_isCrowd 17 = .ok (.iand, 1) := by decide +kernel
theorem dX0_isCrowd_18 : decode cX0_isCrowd 18 = .ok (.ifCond .eq 20, 3) := by decide +kernel
theorem dX0_isCrowd_21 : decode cX0_isCrowd 21 = .ok (.aload_n 0, 1) := by decide +kernel
theorem dX0_isCrowd_22 : decode cX0_isCrowd 22 = .ok (.iload_n 2, 1) := by decide +kernel
theorem dX0_isCrowd_23 : decode cX0_isCrowd 23 = .ok (.iload_n 1, 1) := by decide +kernel
theorem dX0_isCrowd_24 : decode cX0_isCrowd 24 = .ok (.iconst 1, 1) := by decide +kernel
theorem dX0_isCrowd_25 : decode cX0_isCrowd 25 = .ok (.iload_n 2, 1) := by decide +kernel
theorem dX0_isCrowd_26 : decode cX0_isCrowd 26 = .ok (.ishl, 1) := by decide +kernel
theorem dX0_isCrowd_27 : decode cX0_isCrowd 27 = .ok (.iconst (-1), 1) := by decide +kernel
theorem dX0_isCrowd_28 : decode cX0_isCrowd 28 = .ok (.ixor, 1) := by decide +kernel
theorem dX0_isCrowd_29 : decode cX0_isCrowd 29 = .ok (.iand, 1) := by decide +kernel
theorem dX0_isCrowd_30 : decode cX0_isCrowd 30 = .ok (.invokevirtual 28, 3) := by decide +kernel
theorem dX0_isCrowd_33 : decode cX0_isCrowd 33 = .ok (.ifCond .ne 5, 3) := by decide +kernel
theorem dX0_isCrowd_36 : decode cX0_isCrowd 36 = .ok (.iconst 0, 1) := by decide +kernel
theorem dX0_isCrowd_37 : decode cX0_isCrowd 37 = .ok (.ireturn, 1) := by decide +kernel
theorem dX0_isCrowd_38 : decode cX0_isCrowd 38 = .ok (.iinc 2 1, 3) := by decide +kernel
theorem dX0_isCrowd_41 : decode cX0_isCrowd 41 = .ok (.goto (-39), 3) := by decide +kernel
theorem dX0_isCrowd_44 : decode cX0_isCrowd 44 = .ok (.iconst 1, 1) := by decide +kernel
theorem dX0_isCrowd_45 : decode cX0_isCrowd 45 = .ok (.ireturn, 1) := by decide +kernel
theorem dX0_barsAll_0 : decode cX0_barsAll 0 = .ok (.iconst 0, 1) := by decide +kernel
theorem dX0_barsAll_1 : decode cX0_barsAll 1 = .ok (.istore_n 3, 1) := by decide +kernel
theorem dX0_barsAll_2 : decode cX0_barsAll 2 = .ok (.iload_n 3, 1) := by decide +kernel
theorem dX0_barsAll_3 : decode cX0_barsAll 3 = .ok (.aload_n 0, 1) := by decide +kernel
theorem dX0_barsAll_4 : decode cX0_barsAll 4 = .ok (.getfield 18, 3) := by decide +kernel
theorem dX0_barsAll_7 : decode cX0_barsAll 7 = .ok (.getfield 22, 3) := by decide +kernel
theorem dX0_barsAll_10 : decode cX0_barsAll 10 = .ok (.if_icmp .ge 31, 3) := by decide +kernel
theorem dX0_barsAll_13 : decode cX0_barsAll 13 = .ok (.iload_n 2, 1) := by decide +kernel
theorem dX0_barsAll_14 : decode cX0_barsAll 14 = .ok (.iload_n 3, 1) := by decide +kernel
theorem dX0_barsAll_15 : decode cX0_barsAll 15 = .ok (.iushr, 1) := by decide +kernel
theorem dX0_barsAll_16 : decode cX0_barsAll 16 = .ok (.iconst 1, 1) := by decide +kernel
theorem dX0_barsAll_17 : decode cX0_barsAll 17 = .ok (.iand, 1) := by decide +kernel
theorem dX0_barsAll_18 : decode cX0_barsAll 18 = .ok (.ifCond .eq 17, 3) := by decide +kernel
theorem dX0_barsAll_21 : decode cX0_barsAll 21 = .ok (.aload_n 0, 1) := by decide +kernel
theorem dX0_barsAll_22 : decode cX0_barsAll 22 = .ok (.getfield 18, 3) := by decide +kernel
theorem dX0_barsAll_25 : decode cX0_barsAll 25 = .ok (.iload_n 1, 1) := by decide +kernel
theorem dX0_barsAll_26 : decode cX0_barsAll 26 = .ok (.iload_n 3, 1) := by decide +kernel
theorem dX0_barsAll_27 : decode cX0_barsAll 27 = .ok (.invokevirtual 32, 3) := by decide +kernel
theorem dX0_barsAll_30 : decode cX0_barsAll 30 = .ok (.ifCond .ne 5, 3) := by decide +kernel
theorem dX0_barsAll_33 : decode cX0_barsAll 33 = .ok (.iconst 0, 1) := by decide +kernel
theorem dX0_barsAll_34 : decode cX0_barsAll 34 = .ok (.ireturn, 1) := by decide +kernel
theorem dX0_barsAll_35 : decode cX0_barsAll 35 = .ok (.iinc 3 1, 3) := by decide +kernel
theorem dX0_barsAll_38 : decode cX0_barsAll 38 = .ok (.goto (-36), 3) := by decide +kernel
theorem dX0_barsAll_41 : decode cX0_barsAll 41 = .ok (.iconst 1, 1) := by decide +kernel
theorem dX0_barsAll_42 : decode cX0_barsAll 42 = .ok (.ireturn, 1) := by decide +kernel
theorem dX0_wantsOf_0 : decode cX0_wantsOf 0 = .ok (.iconst 0, 1) := by decide +kernel
theorem dX0_wantsOf_1 : decode cX0_wantsOf 1 = .ok (.istore_n 2, 1) := by decide +kernel
theorem dX0_wantsOf_2 : decode cX0_wantsOf 2 = .ok (.iconst 0, 1) := by decide +kernel
theorem dX0_wantsOf_3 : decode cX0_wantsOf 3 = .ok (.istore_n 3, 1) := by decide +kernel
theorem dX0_wantsOf_4 : decode cX0_wantsOf 4 = .ok (.iload_n 3, 1) := by decide +kernel
theorem dX0_wantsOf_5 : decode cX0_wantsOf 5 = .ok (.aload_n 0, 1) := by decide +kernel
theorem dX0_wantsOf_6 : decode cX0_wantsOf 6 = .ok (.getfield 18, 3) := by decide +kernel
theorem dX0_wantsOf_9 : decode cX0_wantsOf 9 = .ok (.getfield 22, 3) := by decide +kernel
theorem dX0_wantsOf_12 : decode cX0_wantsOf 12 = .ok (.if_icmp .ge 36, 3) := by decide +kernel
theorem dX0_wantsOf_15 : decode cX0_wantsOf 15 = .ok (.iload_n 2, 1) := by decide +kernel
theorem dX0_wantsOf_16 : decode cX0_wantsOf 16 = .ok (.iload_n 1, 1) := by decide +kernel
theorem dX0_wantsOf_17 : decode cX0_wantsOf 17 = .ok (.iload_n 3, 1) := by decide +kernel
theorem dX0_wantsOf_18 : decode cX0_wantsOf 18 = .ok (.iushr, 1) := by decide +kernel
theorem dX0_wantsOf_19 : decode cX0_wantsOf 19 = .ok (.iconst 1, 1) := by decide +kernel
theorem dX0_wantsOf_20 : decode cX0_wantsOf 20 = .ok (.iand, 1) := by decide +kernel
theorem dX0_wantsOf_21 : decode cX0_wantsOf 21 = .ok (.ifCond .eq 18, 3) := by decide +kernel
theorem dX0_wantsOf_24 : decode cX0_wantsOf 24 = .ok (.aload_n 0, 1) := by decide +kernel
theorem dX0_wantsOf_25 : decode cX0_wantsOf 25 = .ok (.getfield 18, 3) := by decide +kernel
theorem dX0_wantsOf_28 : decode cX0_wantsOf 28 = .ok (.getfield 36, 3) := by decide +kernel
theorem dX0_wantsOf_31 : decode cX0_wantsOf 31 = .ok (.iload_n 3, 1) := by decide +kernel
theorem dX0_wantsOf_32 : decode cX0_wantsOf 32 = .ok (.aaload, 1) := by decide +kernel
theorem dX0_wantsOf_33 : decode cX0_wantsOf 33 = .ok (.getfield 40, 3) := by decide +kernel
theorem dX0_wantsOf_36 : decode cX0_wantsOf 36 = .ok (.goto 4, 3) := by decide +kernel
theorem dX0_wantsOf_39 : decode cX0_wantsOf 39 = .ok (.iconst 0, 1) := by decide +kernel
theorem dX0_wantsOf_40 : decode cX0_wantsOf 40 = .ok (.iadd, 1) := by decide +kernel
theorem dX0_wantsOf_41 : decode cX0_wantsOf 41 = .ok (.istore_n 2, 1) := by decide +kernel
theorem dX0_wantsOf_42 : decode cX0_wantsOf 42 = .ok (.iinc 3 1, 3) := by decide +kernel
theorem dX0_wantsOf_45 : decode cX0_wantsOf 45 = .ok (.goto (-41), 3) := by decide +kernel
theorem dX0_wantsOf_48 : decode cX0_wantsOf 48 = .ok (.iload_n 2, 1) := by decide +kernel
theorem dX0_wantsOf_49 : decode cX0_wantsOf 49 = .ok (.ireturn, 1) := by decide +kernel
theorem dX0_boundOf_0 : decode cX0_boundOf 0 = .ok (.iconst 0, 1) := by decide +kernel
theorem dX0_boundOf_1 : decode cX0_boundOf 1 = .ok (.istore_n 2, 1) := by decide +kernel
theorem dX0_boundOf_2 : decode cX0_boundOf 2 = .ok (.iconst 0, 1) := by decide +kernel
theorem dX0_boundOf_3 : decode cX0_boundOf 3 = .ok (.istore_n 3, 1) := by decide +kernel
theorem dX0_boundOf_4 : decode cX0_boundOf 4 = .ok (.iload_n 3, 1) := by decide +kernel
theorem dX0_boundOf_5 : decode cX0_boundOf 5 = .ok (.aload_n 0, 1) := by decide +kernel
theorem dX0_boundOf_6 : decode cX0_boundOf 6 = .ok (.getfield 18, 3) := by decide +kernel
theorem dX0_boundOf_9 : decode cX0_boundOf 9 = .ok (.getfield 22, 3) := by decide +kernel
theorem dX0_boundOf_12 : decode cX0_boundOf 12 = .ok (.if_icmp .ge 24, 3) := by decide +kernel
theorem dX0_boundOf_15 : decode cX0_boundOf 15 = .ok (.iload_n 1, 1) := by decide +kernel
theorem dX0_boundOf_16 : decode cX0_boundOf 16 = .ok (.iload_n 3, 1) := by decide +kernel
theorem dX0_boundOf_17 : decode cX0_boundOf 17 = .ok (.iushr, 1) := by decide +kernel
theorem dX0_boundOf_18 : decode cX0_boundOf 18 = .ok (.iconst 1, 1) := by decide +kernel
theorem dX0_boundOf_19 : decode cX0_boundOf 19 = .ok (.iand, 1) := by decide +kernel
theorem dX0_boundOf_20 : decode cX0_boundOf 20 = .ok (.ifCond .eq 10, 3) := by decide +kernel
theorem dX0_boundOf_23 : decode cX0_boundOf 23 = .ok (.aload_n 0, 1) := by decide +kernel
theorem dX0_boundOf_24 : decode cX0_boundOf 24 = .ok (.iload_n 3, 1) := by decide +kernel
theorem dX0_boundOf_25 : decode cX0_boundOf 25 = .ok (.iload_n 2, 1) := by decide +kernel
theorem dX0_boundOf_26 : decode cX0_boundOf 26 = .ok (.invokevirtual 45, 3) := by decide +kernel
theorem dX0_boundOf_29 : decode cX0_boundOf 29 = .ok (.istore_n 2, 1) := by decide +kernel
theorem dX0_boundOf_30 : decode cX0_boundOf 30 = .ok (.iinc 3 1, 3) := by decide +kernel
theorem dX0_boundOf_33 : decode cX0_boundOf 33 = .ok (.goto (-29), 3) := by decide +kernel
theorem dX0_boundOf_36 : decode cX0_boundOf 36 = .ok (.aload_n 0, 1) := by decide +kernel
theorem dX0_boundOf_37 : decode cX0_boundOf 37 = .ok (.iload_n 2, 1) := by decide +kernel
theorem dX0_boundOf_38 : decode cX0_boundOf 38 = .ok (.invokevirtual 48, 3) := by decide +kernel
theorem dX0_boundOf_41 : decode cX0_boundOf 41 = .ok (.ireturn, 1) := by decide +kernel
theorem dX0_greatest_0 : decode cX0_greatest 0 = .ok (.aload_n 0, 1) := by decide +kernel
theorem dX0_greatest_1 : decode cX0_greatest 1 = .ok (.iconst 0, 1) := by decide +kernel
theorem dX0_greatest_2 : decode cX0_greatest 2 = .ok (.putfield 52, 3) := by decide +kernel
theorem dX0_greatest_5 : decode cX0_greatest 5 = .ok (.aload_n 0, 1) := by decide +kernel
theorem dX0_greatest_6 : decode cX0_greatest 6 = .ok (.iconst (-1), 1) := by decide +kernel
theorem dX0_greatest_7 : decode cX0_greatest 7 = .ok (.putfield 55, 3) := by decide +kernel
theorem dX0_greatest_10 : decode cX0_greatest 10 = .ok (.aload_n 0, 1) := by decide +kernel
theorem dX0_greatest_11 : decode cX0_greatest 11 = .ok (.iconst 0, 1) := by decide +kernel
theorem dX0_greatest_12 : decode cX0_greatest 12 = .ok (.iconst 0, 1) := by decide +kernel
theorem dX0_greatest_13 : decode cX0_greatest 13 = .ok (.iconst 0, 1) := by decide +kernel
theorem dX0_greatest_14 : decode cX0_greatest 14 = .ok (.invokevirtual 58, 3) := by decide +kernel
theorem dX0_greatest_17 : decode cX0_greatest 17 = .ok (.aload_n 0, 1) := by decide +kernel
theorem dX0_greatest_18 : decode cX0_greatest 18 = .ok (.getfield 52, 3) := by decide +kernel
theorem dX0_greatest_21 : decode cX0_greatest 21 = .ok (.ireturn, 1) := by decide +kernel
theorem dX0_grow_0 : decode cX0_grow 0 = .ok (.iload_n 2, 1) := by decide +kernel
theorem dX0_grow_1 : decode cX0_grow 1 = .ok (.istore 4, 2) := by decide +kernel
theorem dX0_grow_3 : decode cX0_grow 3 = .ok (.iload 4, 2) := by decide +kernel
theorem dX0_grow_5 : decode cX0_grow 5 = .ok (.aload_n 0, 1) := by decide +kernel
theorem dX0_grow_6 : decode cX0_grow 6 = .ok (.getfield 18, 3) := by decide +kernel
theorem dX0_grow_9 : decode cX0_grow 9 = .ok (.getfield 22, 3) := by decide +kernel
theorem dX0_grow_12 : decode cX0_grow 12 = .ok (.if_icmp .ge 83, 3) := by decide +kernel
theorem dX0_grow_15 : decode cX0_grow 15 = .ok (.iload_n 3, 1) := by decide +kernel
theorem dX0_grow_16 : decode cX0_grow 16 = .ok (.aload_n 0, 1) := by decide +kernel
theorem dX0_grow_17 : decode cX0_grow 17 = .ok (.getfield 18, 3) := by decide +kernel
theorem dX0_grow_20 : decode cX0_grow 20 = .ok (.getfield 36, 3) := by decide +kernel
theorem dX0_grow_23 : decode cX0_grow 23 = .ok (.iload 4, 2) := by decide +kernel
theorem dX0_grow_25 : decode cX0_grow 25 = .ok (.aaload, 1) := by decide +kernel
theorem dX0_grow_26 : decode cX0_grow 26 = .ok (.getfield 40, 3) := by decide +kernel
theorem dX0_grow_29 : decode cX0_grow 29 = .ok (.iadd, 1) := by decide +kernel
theorem dX0_grow_30 : decode cX0_grow 30 = .ok (.bipush 6, 2) := by decide +kernel
theorem dX0_grow_32 : decode cX0_grow 32 = .ok (.if_icmp .gt 57, 3) := by decide +kernel
theorem dX0_grow_35 : decode cX0_grow 35 = .ok (.aload_n 0, 1) := by decide +kernel
theorem dX0_grow_36 : decode cX0_grow 36 = .ok (.iload 4, 2) := by decide +kernel
theorem dX0_grow_38 : decode cX0_grow 38 = .ok (.iload_n 1, 1) := by decide +kernel
theorem dX0_grow_39 : decode cX0_grow 39 = .ok (.invokevirtual 28, 3) := by decide +kernel
theorem dX0_grow_42 : decode cX0_grow 42 = .ok (.ifCond .ne 6, 3) := by decide +kernel
theorem dX0_grow_45 : decode cX0_grow 45 = .ok (.goto 44, 3) := by decide +kernel
theorem dX0_grow_48 : decode cX0_grow 48 = .ok (.iload_n 1, 1) := by decide +kernel
theorem dX0_grow_49 : decode cX0_grow 49 = .ok (.iconst 1, 1) := by decide +kernel
theorem dX0_grow_50 : decode cX0_grow 50 = .ok (.iload 4, 2) := by decide +kernel
theorem dX0_grow_52 : decode cX0_grow 52 = .ok (.ishl, 1) := by decide +kernel
theorem dX0_grow_53 : decode cX0_grow 53 = .ok (.ior, 1) := by decide +kernel
theorem dX0_grow_54 : decode cX0_grow 54 = .ok (.istore 5, 2) := by decide +kernel
theorem dX0_grow_56 : decode cX0_grow 56 = .ok (.aload_n 0, 1) := by decide +kernel
theorem dX0_grow_57 : decode cX0_grow 57 = .ok (.iload 4, 2) := by decide +kernel
theorem dX0_grow_59 : decode cX0_grow 59 = .ok (.iload_n 3, 1) := by decide +kernel
theorem dX0_grow_60 : decode cX0_grow 60 = .ok (.invokevirtual 45, 3) := by decide +kernel
theorem dX0_grow_63 : decode cX0_grow 63 = .ok (.istore 6, 2) := by decide +kernel
theorem dX0_grow_65 : decode cX0_grow 65 = .ok (.aload_n 0, 1) := by decide +kernel
theorem dX0_grow_66 : decode cX0_grow 66 = .ok (.iload 5, 2) := by decide +kernel
theorem dX0_grow_68 : decode cX0_grow 68 = .ok (.aload_n 0, 1) := by decide +kernel
theorem dX0_grow_69 : decode cX0_grow 69 = .ok (.iload 6, 2) := by decide +kernel
theorem dX0_grow_71 : decode cX0_grow 71 = .ok (.invokevirtual 48, 3) := by decide +kernel
theorem dX0_grow_74 : decode cX0_grow 74 = .ok (.invokevirtual 62, 3) := by decide +kernel
theorem dX0_grow_77 : decode cX0_grow 77 = .ok (.aload_n 0, 1) := by decide +kernel
theorem dX0_grow_78 : decode cX0_grow 78 = .ok (.iload 5, 2) := by decide +kernel
theorem dX0_grow_80 : decode cX0_grow 80 = .ok (.iload 4, 2) := by decide +kernel
theorem dX0_grow_82 : decode cX0_grow 82 = .ok (.iconst 1, 1) := by decide +kernel
theorem dX0_grow_83 : decode cX0_grow 83 = .ok (.iadd, 1) := by decide +kernel
theorem dX0_grow_84 : decode cX0_grow 84 = .ok (.iload 6, 2) := by decide +kernel
theorem dX0_grow_86 : decode cX0_grow 86 = .ok (.invokevirtual 58, 3) := by decide +kernel
theorem dX0_grow_89 : decode cX0_grow 89 = .ok (.iinc 4 1, 3) := by decide +kernel
theorem dX0_grow_92 : decode cX0_grow 92 = .ok (.goto (-89), 3) := by decide +kernel
theorem dX0_grow_95 : decode cX0_grow 95 = .ok (.return_, 1) := by decide +kernel
theorem dX0_consider_0 : decode cX0_consider 0 = .ok (.iload_n 2, 1) := by decide +kernel
theorem dX0_consider_1 : decode cX0_consider 1 = .ok (.aload_n 0, 1) := by decide +kernel
theorem dX0_consider_2 : decode cX0_consider 2 = .ok (.getfield 55, 3) := by decide +kernel
theorem dX0_consider_5 : decode cX0_consider 5 = .ok (.if_icmp .gt 19, 3) := by decide +kernel
theorem dX0_consider_8 : decode cX0_consider 8 = .ok (.iload_n 2, 1) := by decide +kernel
theorem dX0_consider_9 : decode cX0_consider 9 = .ok (.aload_n 0, 1) := by decide +kernel
theorem dX0_consider_10 : decode cX0_consider 10 = .ok (.getfield 55, 3) := by decide +kernel
theorem dX0_consider_13 : decode cX0_consider 13 = .ok (.if_icmp .ne 21, 3) := by decide +kernel
theorem dX0_consider_16 : decode cX0_consider 16 = .ok (.iload_n 1, 1) := by decide +kernel
theorem dX0_consider_17 : decode cX0_consider 17 = .ok (.aload_n 0, 1) := by decide +kernel
theorem dX0_consider_18 : decode cX0_consider 18 = .ok (.getfield 52, 3) := by decide +kernel
theorem dX0_consider_21 : decode cX0_consider 21 = .ok (.if_icmp .ge 13, 3) := by decide +kernel
theorem dX0_consider_24 : decode cX0_consider 24 = .ok (.aload_n 0, 1) := by decide +kernel
theorem dX0_consider_25 : decode cX0_consider 25 = .ok (.iload_n 2, 1) := by decide +kernel
theorem dX0_consider_26 : decode cX0_consider 26 = .ok (.putfield 55, 3) := by decide +kernel
theorem dX0_consider_29 : decode cX0_consider 29 = .ok (.aload_n 0, 1) := by decide +kernel
theorem dX0_consider_30 : decode cX0_consider 30 = .ok (.iload_n 1, 1) := by decide +kernel
theorem dX0_consider_31 : decode cX0_consider 31 = .ok (.putfield 52, 3) := by decide +kernel
theorem dX0_consider_34 : decode cX0_consider 34 = .ok (.return_, 1) := by decide +kernel
theorem dX0_seat_0 : decode cX0_seat 0 = .ok (.iload_n 2, 1) := by decide +kernel
theorem dX0_seat_1 : decode cX0_seat 1 = .ok (.istore_n 3, 1) := by decide +kernel
theorem dX0_seat_2 : decode cX0_seat 2 = .ok (.iconst 0, 1) := by decide +kernel
theorem dX0_seat_3 : decode cX0_seat 3 = .ok (.istore 4, 2) := by decide +kernel
theorem dX0_seat_5 : decode cX0_seat 5 = .ok (.iload 4, 2) := by decide +kernel
theorem dX0_seat_7 : decode cX0_seat 7 = .ok (.aload_n 0, 1) := by decide +kernel
theorem dX0_seat_8 : decode cX0_seat 8 = .ok (.getfield 18, 3) := by decide +kernel
theorem dX0_seat_11 : decode cX0_seat 11 = .ok (.getfield 36, 3) := by decide +kernel
theorem dX0_seat_14 : decode cX0_seat 14 = .ok (.iload_n 1, 1) := by decide +kernel
theorem dX0_seat_15 : decode cX0_seat 15 = .ok (.aaload, 1) := by decide +kernel
theorem dX0_seat_16 : decode cX0_seat 16 = .ok (.getfield 40, 3) := by decide +kernel
theorem dX0_seat_19 : decode cX0_seat 19 = .ok (.if_icmp .ge 51, 3) := by decide +kernel
theorem dX0_seat_22 : decode cX0_seat 22 = .ok (.iload_n 3, 1) := by decide +kernel
theorem dX0_seat_23 : decode cX0_seat 23 = .ok (.bipush 6, 2) := by decide +kernel
theorem dX0_seat_25 : decode cX0_seat 25 = .ok (.if_icmp .ge 45, 3) := by decide +kernel
theorem dX0_seat_28 : decode cX0_seat 28 = .ok (.aload_n 0, 1) := by decide +kernel
theorem dX0_seat_29 : decode cX0_seat 29 = .ok (.getfield 15, 3) := by decide +kernel
theorem dX0_seat_32 : decode cX0_seat 32 = .ok (.iload_n 3, 1) := by decide +kernel
theorem dX0_seat_33 : decode cX0_seat 33 = .ok (.iload_n 1, 1) := by decide +kernel
theorem dX0_seat_34 : decode cX0_seat 34 = .ok (.iastore, 1) := by decide +kernel
theorem dX0_seat_35 : decode cX0_seat 35 = .ok (.iconst 1, 1) := by decide +kernel
theorem dX0_seat_36 : decode cX0_seat 36 = .ok (.iload_n 3, 1) := by decide +kernel
theorem dX0_seat_37 : decode cX0_seat 37 = .ok (.ishl, 1) := by decide +kernel
theorem dX0_seat_38 : decode cX0_seat 38 = .ok (.istore 5, 2) := by decide +kernel
theorem dX0_seat_40 : decode cX0_seat 40 = .ok (.iload 5, 2) := by decide +kernel
theorem dX0_seat_42 : decode cX0_seat 42 = .ok (.iconst 2, 1) := by decide +kernel
theorem dX0_seat_43 : decode cX0_seat 43 = .ok (.iload_n 3, 1) := by decide +kernel
theorem dX0_seat_44 : decode cX0_seat 44 = .ok (.ishl, 1) := by decide +kernel
theorem dX0_seat_45 : decode cX0_seat 45 = .ok (.if_icmp .ge 16, 3) := by decide +kernel
theorem dX0_seat_48 : decode cX0_seat 48 = .ok (.aload_n 0, 1) := by decide +kernel
theorem dX0_seat_49 : decode cX0_seat 49 = .ok (.iload 5, 2) := by decide +kernel
theorem dX0_seat_51 : decode cX0_seat 51 = .ok (.iload_n 3, 1) := by decide +kernel
theorem dX0_seat_52 : decode cX0_seat 52 = .ok (.invokevirtual 66, 3) := by decide +kernel
theorem dX0_seat_55 : decode cX0_seat 55 = .ok (.iinc 5 1, 3) := by decide +kernel
theorem dX0_seat_58 : decode cX0_seat 58 = .ok (.goto (-18), 3) := by decide +kernel
theorem dX0_seat_61 : decode cX0_seat 61 = .ok (.iinc 3 1, 3) := by decide +kernel
theorem dX0_seat_64 : decode cX0_seat 64 = .ok (.iinc 4 1, 3) := by decide +kernel
theorem dX0_seat_67 : decode cX0_seat 67 = .ok (.goto (-62), 3) := by decide +kernel
theorem dX0_seat_70 : decode cX0_seat 70 = .ok (.iload_n 3, 1) := by decide +kernel
theorem dX0_seat_71 : decode cX0_seat 71 = .ok (.ireturn, 1) := by decide +kernel
theorem dX0_sumUp_0 : decode cX0_sumUp 0 = .ok (.iconst 0, 1) := by decide +kernel
theorem dX0_sumUp_1 : decode cX0_sumUp 1 = .ok (.istore_n 3, 1) := by decide +kernel
theorem dX0_sumUp_2 : decode cX0_sumUp 2 = .ok (.iload_n 3, 1) := by decide +kernel
theorem dX0_sumUp_3 : decode cX0_sumUp 3 = .ok (.iload_n 2, 1) := by decide +kernel
theorem dX0_sumUp_4 : decode cX0_sumUp 4 = .ok (.if_icmp .gt 41, 3) := by decide +kernel
theorem dX0_sumUp_7 : decode cX0_sumUp 7 = .ok (.iload_n 1, 1) := by decide +kernel
theorem dX0_sumUp_8 : decode cX0_sumUp 8 = .ok (.iload_n 3, 1) := by decide +kernel
theorem dX0_sumUp_9 : decode cX0_sumUp 9 = .ok (.iushr, 1) := by decide +kernel
theorem dX0_sumUp_10 : decode cX0_sumUp 10 = .ok (.iconst 1, 1) := by decide +kernel
theorem dX0_sumUp_11 : decode cX0_sumUp 11 = .ok (.iand, 1) := by decide +kernel
theorem dX0_sumUp_12 : decode cX0_sumUp 12 = .ok (.ifCond .eq 27, 3) := by decide +kernel
theorem dX0_sumUp_15 : decode cX0_sumUp 15 = .ok (.aload_n 0, 1) := by decide +kernel
theorem dX0_sumUp_16 : decode cX0_sumUp 16 = .ok (.getfield 9, 3) := by decide +kernel
theorem dX0_sumUp_19 : decode cX0_sumUp 19 = .ok (.iload_n 1, 1) := by decide +kernel
theorem dX0_sumUp_20 : decode cX0_sumUp 20 = .ok (.bipush 6, 2) := by decide +kernel
theorem dX0_sumUp_22 : decode cX0_sumUp 22 = .ok (.imul, 1) := by decide +kernel
theorem dX0_sumUp_23 : decode cX0_sumUp 23 = .ok (.iload_n 3, 1) := by decide +kernel
theorem dX0_sumUp_24 : decode cX0_sumUp 24 = .ok (.iadd, 1) := by decide +kernel
theorem dX0_sumUp_25 : decode cX0_sumUp 25 = .ok (.aload_n 0, 1) := by decide +kernel
theorem dX0_sumUp_26 : decode cX0_sumUp 26 = .ok (.iload_n 1, 1) := by decide +kernel
theorem dX0_sumUp_27 : decode cX0_sumUp 27 = .ok (.iconst 1, 1) := by decide +kernel
theorem dX0_sumUp_28 : decode cX0_sumUp 28 = .ok (.iload_n 3, 1) := by decide +kernel
theorem dX0_sumUp_29 : decode cX0_sumUp 29 = .ok (.ishl, 1) := by decide +kernel
theorem dX0_sumUp_30 : decode cX0_sumUp 30 = .ok (.iconst (-1), 1) := by decide +kernel
theorem dX0_sumUp_31 : decode cX0_sumUp 31 = .ok (.ixor, 1) := by decide +kernel
theorem dX0_sumUp_32 : decode cX0_sumUp 32 = .ok (.iand, 1) := by decide +kernel
theorem dX0_sumUp_33 : decode cX0_sumUp 33 = .ok (.iload_n 3, 1) := by decide +kernel
theorem dX0_sumUp_34 : decode cX0_sumUp 34 = .ok (.iload_n 2, 1) := by decide +kernel
theorem dX0_sumUp_35 : decode cX0_sumUp 35 = .ok (.invokevirtual 69, 3) := by decide +kernel
theorem dX0_sumUp_38 : decode cX0_sumUp 38 = .ok (.iastore, 1) := by decide +kernel
theorem dX0_sumUp_39 : decode cX0_sumUp 39 = .ok (.iinc 3 1, 3) := by decide +kernel
theorem dX0_sumUp_42 : decode cX0_sumUp 42 = .ok (.goto (-40), 3) := by decide +kernel
theorem dX0_sumUp_45 : decode cX0_sumUp 45 = .ok (.return_, 1) := by decide +kernel
theorem dX0_leastSum_0 : decode cX0_leastSum 0 = .ok (.iload_n 1, 1) := by decide +kernel
theorem dX0_leastSum_1 : decode cX0_leastSum 1 = .ok (.ifCond .ne 5, 3) := by decide +kernel
theorem dX0_leastSum_4 : decode cX0_leastSum 4 = .ok (.iconst 0, 1) := by decide +kernel
theorem dX0_leastSum_5 : decode cX0_leastSum 5 = .ok (.ireturn, 1) := by decide +kernel
theorem dX0_leastSum_6 : decode cX0_leastSum 6 = .ok (.ldc 73, 2) := by decide +kernel
theorem dX0_leastSum_8 : decode cX0_leastSum 8 = .ok (.istore 4, 2) := by decide +kernel
theorem dX0_leastSum_10 : decode cX0_leastSum 10 = .ok (.iconst 0, 1) := by decide +kernel
theorem dX0_leastSum_11 : decode cX0_leastSum 11 = .ok (.istore 5, 2) := by decide +kernel
theorem dX0_leastSum_13 : decode cX0_leastSum 13 = .ok (.iload 5, 2) := by decide +kernel
theorem dX0_leastSum_15 : decode cX0_leastSum 15 = .ok (.iload_n 3, 1) := by decide +kernel
theorem dX0_leastSum_16 : decode cX0_leastSum 16 = .ok (.if_icmp .gt 58, 3) := by decide +kernel
theorem dX0_leastSum_19 : decode cX0_leastSum 19 = .ok (.iload_n 1, 1) := by decide +kernel
theorem dX0_leastSum_20 : decode cX0_leastSum 20 = .ok (.iload 5, 2) := by decide +kernel
theorem dX0_leastSum_22 : decode cX0_leastSum 22 = .ok (.iushr, 1) := by decide +kernel
theorem dX0_leastSum_23 : decode cX0_leastSum 23 = .ok (.iconst 1, 1) := by decide +kernel
theorem dX0_leastSum_24 : decode cX0_leastSum 24 = .ok (.iand, 1) := by decide +kernel
theorem dX0_leastSum_25 : decode cX0_leastSum 25 = .ok (.ifCond .eq 43, 3) := by decide +kernel
theorem dX0_leastSum_28 : decode cX0_leastSum 28 = .ok (.iload 4, 2) := by decide +kernel
theorem dX0_leastSum_30 : decode cX0_leastSum 30 = .ok (.aload_n 0, 1) := by decide +kernel
theorem dX0_leastSum_31 : decode cX0_leastSum 31 = .ok (.getfield 9, 3) := by decide +kernel
theorem dX0_leastSum_34 : decode cX0_leastSum 34 = .ok (.iload_n 1, 1) := by decide +kernel
theorem dX0_leastSum_35 : decode cX0_leastSum 35 = .ok (.bipush 6, 2) := by decide +kernel
theorem dX0_leastSum_37 : decode cX0_leastSum 37 = .ok (.imul, 1) := by decide +kernel
theorem dX0_leastSum_38 : decode cX0_leastSum 38 = .ok (.iload 5, 2) := by decide +kernel
theorem dX0_leastSum_40 : decode cX0_leastSum 40 = .ok (.iadd, 1) := by decide +kernel
theorem dX0_leastSum_41 : decode cX0_leastSum 41 = .ok (.iaload, 1) := by decide +kernel
theorem dX0_leastSum_42 : decode cX0_leastSum 42 = .ok (.aload_n 0, 1) := by decide +kernel
theorem dX0_leastSum_43 : decode cX0_leastSum 43 = .ok (.getfield 18, 3) := by decide +kernel
theorem dX0_leastSum_46 : decode cX0_leastSum 46 = .ok (.aload_n 0, 1) := by decide +kernel
theorem dX0_leastSum_47 : decode cX0_leastSum 47 = .ok (.getfield 15, 3) := by decide +kernel
theorem dX0_leastSum_50 : decode cX0_leastSum 50 = .ok (.iload 5, 2) := by decide +kernel
theorem dX0_leastSum_52 : decode cX0_leastSum 52 = .ok (.iaload, 1) := by decide +kernel
theorem dX0_leastSum_53 : decode cX0_leastSum 53 = .ok (.aload_n 0, 1) := by decide +kernel
theorem dX0_leastSum_54 : decode cX0_leastSum 54 = .ok (.getfield 15, 3) := by decide +kernel
theorem dX0_leastSum_57 : decode cX0_leastSum 57 = .ok (.iload_n 2, 1) := by decide +kernel
theorem dX0_leastSum_58 : decode cX0_leastSum 58 = .ok (.iaload, 1) := by decide +kernel
theorem dX0_leastSum_59 : decode cX0_leastSum 59 = .ok (.invokevirtual 32, 3) := by decide +kernel
theorem dX0_leastSum_62 : decode cX0_leastSum 62 = .ok (.iadd, 1) := by decide +kernel
theorem dX0_leastSum_63 : decode cX0_leastSum 63 = .ok (.invokestatic 74, 3) := by decide +kernel
theorem dX0_leastSum_66 : decode cX0_leastSum 66 = .ok (.istore 4, 2) := by decide +kernel
theorem dX0_leastSum_68 : decode cX0_leastSum 68 = .ok (.iinc 5 1, 3) := by decide +kernel
theorem dX0_leastSum_71 : decode cX0_leastSum 71 = .ok (.goto (-58), 3) := by decide +kernel
theorem dX0_leastSum_74 : decode cX0_leastSum 74 = .ok (.iload 4, 2) := by decide +kernel
theorem dX0_leastSum_76 : decode cX0_leastSum 76 = .ok (.ireturn, 1) := by decide +kernel
theorem dX0_boundOfSeated_0 : decode cX0_boundOfSeated 0 = .ok (.iconst 1, 1) := by decide +kernel
theorem dX0_boundOfSeated_1 : decode cX0_boundOfSeated 1 = .ok (.iload_n 1, 1) := by decide +kernel
theorem dX0_boundOfSeated_2 : decode cX0_boundOfSeated 2 = .ok (.ishl, 1) := by decide +kernel
theorem dX0_boundOfSeated_3 : decode cX0_boundOfSeated 3 = .ok (.iconst 1, 1) := by decide +kernel
theorem dX0_boundOfSeated_4 : decode cX0_boundOfSeated 4 = .ok (.isub, 1) := by decide +kernel
theorem dX0_boundOfSeated_5 : decode cX0_boundOfSeated 5 = .ok (.istore_n 2, 1) := by decide +kernel
theorem dX0_boundOfSeated_6 : decode cX0_boundOfSeated 6 = .ok (.ldc 73, 2) := by decide +kernel
theorem dX0_boundOfSeated_8 : decode cX0_boundOfSeated 8 = .ok (.istore_n 3, 1) := by decide +kernel
theorem dX0_boundOfSeated_9 : decode cX0_boundOfSeated 9 = .ok (.iconst 0, 1) := by decide +kernel
theorem dX0_boundOfSeated_10 : decode cX0_boundOfSeated 10 = .ok (.istore 4, 2) := by decide +kernel
theorem dX0_boundOfSeated_12 : decode cX0_boundOfSeated 12 = .ok (.iload 4, 2) := by decide +kernel
theorem dX0_boundOfSeated_14 : decode cX0_boundOfSeated 14 = .ok (.iload_n 1, 1) := by decide +kernel
theorem dX0_boundOfSeated_15 : decode cX0_boundOfSeated 15 = .ok (.if_icmp .ge 26, 3) := by decide +kernel
theorem dX0_boundOfSeated_18 : decode cX0_boundOfSeated 18 = .ok (.iload_n 3, 1) := by decide +kernel
theorem dX0_boundOfSeated_19 : decode cX0_boundOfSeated 19 = .ok (.aload_n 0, 1) := by decide +kernel
theorem dX0_boundOfSeated_20 : decode cX0_boundOfSeated 20 = .ok (.getfield 9, 3) := by decide +kernel
theorem dX0_boundOfSeated_23 : decode cX0_boundOfSeated 23 = .ok (.iload_n 2, 1) := by decide +kernel
theorem dX0_boundOfSeated_24 : decode cX0_boundOfSeated 24 = .ok (.bipush 6, 2) := by decide +kernel
theorem dX0_boundOfSeated_26 : decode cX0_boundOfSeated 26 = .ok (.imul, 1) := by decide +kernel
theorem dX0_boundOfSeated_27 : decode cX0_boundOfSeated 27 = .ok (.iload 4, 2) := by decide +kernel
theorem dX0_boundOfSeated_29 : decode cX0_boundOfSeated 29 = .ok (.iadd, 1) := by decide +kernel
theorem dX0_boundOfSeated_30 : decode cX0_boundOfSeated 30 = .ok (.iaload, 1) := by decide +kernel
theorem dX0_boundOfSeated_31 : decode cX0_boundOfSeated 31 = .ok (.invokestatic 74, 3) := by decide +kernel
theorem dX0_boundOfSeated_34 : decode cX0_boundOfSeated 34 = .ok (.istore_n 3, 1) := by decide +kernel
theorem dX0_boundOfSeated_35 : decode cX0_boundOfSeated 35 = .ok (.iinc 4 1, 3) := by decide +kernel
theorem dX0_boundOfSeated_38 : decode cX0_boundOfSeated 38 = .ok (.goto (-26), 3) := by decide +kernel
theorem dX0_boundOfSeated_41 : decode cX0_boundOfSeated 41 = .ok (.iload_n 3, 1) := by decide +kernel
theorem dX0_boundOfSeated_42 : decode cX0_boundOfSeated 42 = .ok (.ireturn, 1) := by decide +kernel
