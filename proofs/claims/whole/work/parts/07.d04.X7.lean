theorem dX7_add_0 : decode cX7_add 0 = .ok (.aload_n 0, 1) := by decide +kernel
theorem dX7_add_1 : decode cX7_add 1 = .ok (.getfield 21, 3) := by decide +kernel
theorem dX7_add_4 : decode cX7_add 4 = .ok (.bipush 8, 2) := by decide +kernel
theorem dX7_add_6 : decode cX7_add 6 = .ok (.if_icmp .ge 43, 3) := by decide +kernel
theorem dX7_add_9 : decode cX7_add 9 = .ok (.aload_n 0, 1) := by decide +kernel
theorem dX7_add_10 : decode cX7_add 10 = .ok (.getfield 9, 3) := by decide +kernel
theorem dX7_add_13 : decode cX7_add 13 = .ok (.aload_n 0, 1) := by decide +kernel
theorem dX7_add_14 : decode cX7_add 14 = .ok (.getfield 21, 3) := by decide +kernel
theorem dX7_add_17 : decode cX7_add 17 = .ok (.iload_n 1, 1) := by decide +kernel
theorem dX7_add_18 : decode cX7_add 18 = .ok (.iastore, 1) := by decide +kernel
theorem dX7_add_19 : decode cX7_add 19 = .ok (.aload_n 0, 1) := by decide +kernel
theorem dX7_add_20 : decode cX7_add 20 = .ok (.getfield 15, 3) := by decide +kernel
theorem dX7_add_23 : decode cX7_add 23 = .ok (.aload_n 0, 1) := by decide +kernel
theorem dX7_add_24 : decode cX7_add 24 = .ok (.getfield 21, 3) := by decide +kernel
theorem dX7_add_27 : decode cX7_add 27 = .ok (.iload_n 2, 1) := by decide +kernel
theorem dX7_add_28 : decode cX7_add 28 = .ok (.iastore, 1) := by decide +kernel
theorem dX7_add_29 : decode cX7_add 29 = .ok (.aload_n 0, 1) := by decide +kernel
theorem dX7_add_30 : decode cX7_add 30 = .ok (.getfield 18, 3) := by decide +kernel
theorem dX7_add_33 : decode cX7_add 33 = .ok (.aload_n 0, 1) := by decide +kernel
theorem dX7_add_34 : decode cX7_add 34 = .ok (.getfield 21, 3) := by decide +kernel
theorem dX7_add_37 : decode cX7_add 37 = .ok (.iload_n 3, 1) := by decide +kernel
theorem dX7_add_38 : decode cX7_add 38 = .ok (.iastore, 1) := by decide +kernel
theorem dX7_add_39 : decode cX7_add 39 = .ok (.aload_n 0, 1) := by decide +kernel
theorem dX7_add_40 : decode cX7_add 40 = .ok (.dup, 1) := by decide +kernel
theorem dX7_add_41 : decode cX7_add 41 = .ok (.getfield 21, 3) := by decide +kernel
theorem dX7_add_44 : decode cX7_add 44 = .ok (.iconst 1, 1) := by decide +kernel
theorem dX7_add_45 : decode cX7_add 45 = .ok (.iadd, 1) := by decide +kernel
theorem dX7_add_46 : decode cX7_add 46 = .ok (.putfield 21, 3) := by decide +kernel
theorem dX7_add_49 : decode cX7_add 49 = .ok (.return_, 1) := by decide +kernel
theorem dX7_greatest_0 : decode cX7_greatest 0 = .ok (.iconst 0, 1) := by decide +kernel
theorem dX7_greatest_1 : decode cX7_greatest 1 = .ok (.istore_n 3, 1) := by decide +kernel
theorem dX7_greatest_2 : decode cX7_greatest 2 = .ok (.iconst 0, 1) := by decide +kernel
theorem dX7_greatest_3 : decode cX7_greatest 3 = .ok (.istore 4, 2) := by decide +kernel
theorem dX7_greatest_5 : decode cX7_greatest 5 = .ok (.iload 4, 2) := by decide +kernel
theorem dX7_greatest_7 : decode cX7_greatest 7 = .ok (.aload_n 0, 1) := by decide +kernel
theorem dX7_greatest_8 : decode cX7_greatest 8 = .ok (.getfield 21, 3) := by decide +kernel
theorem dX7_greatest_11 : decode cX7_greatest 11 = .ok (.if_icmp .ge 43, 3) := by decide +kernel
theorem dX7_greatest_14 : decode cX7_greatest 14 = .ok (.aload_n 0, 1) := by decide +kernel
theorem dX7_greatest_15 : decode cX7_greatest 15 = .ok (.getfield 9, 3) := by decide +kernel
theorem dX7_greatest_18 : decode cX7_greatest 18 = .ok (.iload 4, 2) := by decide +kernel
theorem dX7_greatest_20 : decode cX7_greatest 20 = .ok (.iaload, 1) := by decide +kernel
theorem dX7_greatest_21 : decode cX7_greatest 21 = .ok (.iload_n 1, 1) := by decide +kernel
theorem dX7_greatest_22 : decode cX7_greatest 22 = .ok (.if_icmp .lt 26, 3) := by decide +kernel
theorem dX7_greatest_25 : decode cX7_greatest 25 = .ok (.aload_n 0, 1) := by decide +kernel
theorem dX7_greatest_26 : decode cX7_greatest 26 = .ok (.getfield 15, 3) := by decide +kernel
theorem dX7_greatest_29 : decode cX7_greatest 29 = .ok (.iload 4, 2) := by decide +kernel
theorem dX7_greatest_31 : decode cX7_greatest 31 = .ok (.iaload, 1) := by decide +kernel
theorem dX7_greatest_32 : decode cX7_greatest 32 = .ok (.iload_n 2, 1) := by decide +kernel
theorem dX7_greatest_33 : decode cX7_greatest 33 = .ok (.if_icmp .gt 15, 3) := by decide +kernel
theorem dX7_greatest_36 : decode cX7_greatest 36 = .ok (.iload_n 3, 1) := by decide +kernel
theorem dX7_greatest_37 : decode cX7_greatest 37 = .ok (.aload_n 0, 1) := by decide +kernel
theorem dX7_greatest_38 : decode cX7_greatest 38 = .ok (.getfield 18, 3) := by decide +kernel
theorem dX7_greatest_41 : decode cX7_greatest 41 = .ok (.iload 4, 2) := by decide +kernel
theorem dX7_greatest_43 : decode cX7_greatest 43 = .ok (.iaload, 1) := by decide +kernel
theorem dX7_greatest_44 : decode cX7_greatest 44 = .ok (.invokestatic 25, 3) := by decide +kernel
theorem dX7_greatest_47 : decode cX7_greatest 47 = .ok (.istore_n 3, 1) := by decide +kernel
theorem dX7_greatest_48 : decode cX7_greatest 48 = .ok (.iinc 4 1, 3) := by decide +kernel
theorem dX7_greatest_51 : decode cX7_greatest 51 = .ok (.goto (-46), 3) := by decide +kernel
theorem dX7_greatest_54 : decode cX7_greatest 54 = .ok (.iload_n 3, 1) := by decide +kernel
theorem dX7_greatest_55 : decode cX7_greatest 55 = .ok (.ireturn, 1) := by decide +kernel
