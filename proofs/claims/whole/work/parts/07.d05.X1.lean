theorem dX1_tell_0 : decode cX1_tell 0 = .ok (.aload_n 0, 1) := by decide +kernel
theorem dX1_tell_1 : decode cX1_tell 1 = .ok (.iload_n 1, 1) := by decide +kernel
theorem dX1_tell_2 : decode cX1_tell 2 = .ok (.putfield 9, 3) := by decide +kernel
theorem dX1_tell_5 : decode cX1_tell 5 = .ok (.aload_n 0, 1) := by decide +kernel
theorem dX1_tell_6 : decode cX1_tell 6 = .ok (.iload_n 2, 1) := by decide +kernel
theorem dX1_tell_7 : decode cX1_tell 7 = .ok (.putfield 15, 3) := by decide +kernel
theorem dX1_tell_10 : decode cX1_tell 10 = .ok (.aload_n 0, 1) := by decide +kernel
theorem dX1_tell_11 : decode cX1_tell 11 = .ok (.iload_n 3, 1) := by decide +kernel
theorem dX1_tell_12 : decode cX1_tell 12 = .ok (.putfield 18, 3) := by decide +kernel
theorem dX1_tell_15 : decode cX1_tell 15 = .ok (.aload_n 0, 1) := by decide +kernel
theorem dX1_tell_16 : decode cX1_tell 16 = .ok (.iload 4, 2) := by decide +kernel
theorem dX1_tell_18 : decode cX1_tell 18 = .ok (.putfield 21, 3) := by decide +kernel
theorem dX1_tell_21 : decode cX1_tell 21 = .ok (.return_, 1) := by decide +kernel
theorem dX1_swap_0 : decode cX1_swap 0 = .ok (.aload_n 0, 1) := by decide +kernel
theorem dX1_swap_1 : decode cX1_swap 1 = .ok (.getfield 18, 3) := by decide +kernel
theorem dX1_swap_4 : decode cX1_swap 4 = .ok (.istore_n 1, 1) := by decide +kernel
theorem dX1_swap_5 : decode cX1_swap 5 = .ok (.aload_n 0, 1) := by decide +kernel
theorem dX1_swap_6 : decode cX1_swap 6 = .ok (.aload_n 0, 1) := by decide +kernel
theorem dX1_swap_7 : decode cX1_swap 7 = .ok (.getfield 21, 3) := by decide +kernel
theorem dX1_swap_10 : decode cX1_swap 10 = .ok (.putfield 18, 3) := by decide +kernel
theorem dX1_swap_13 : decode cX1_swap 13 = .ok (.aload_n 0, 1) := by decide +kernel
theorem dX1_swap_14 : decode cX1_swap 14 = .ok (.iload_n 1, 1) := by decide +kernel
theorem dX1_swap_15 : decode cX1_swap 15 = .ok (.putfield 21, 3) := by decide +kernel
theorem dX1_swap_18 : decode cX1_swap 18 = .ok (.return_, 1) := by decide +kernel
theorem dX1_allows_0 : decode cX1_allows 0 = .ok (.aload_n 1, 1) := by decide +kernel
theorem dX1_allows_1 : decode cX1_allows 1 = .ok (.getfield 24, 3) := by decide +kernel
theorem dX1_allows_4 : decode cX1_allows 4 = .ok (.iconst 3, 1) := by decide +kernel
theorem dX1_allows_5 : decode cX1_allows 5 = .ok (.if_icmp .ne 30, 3) := by decide +kernel
theorem dX1_allows_8 : decode cX1_allows 8 = .ok (.aload_n 0, 1) := by decide +kernel
theorem dX1_allows_9 : decode cX1_allows 9 = .ok (.getfield 9, 3) := by decide +kernel
theorem dX1_allows_12 : decode cX1_allows 12 = .ok (.iconst (-1), 1) := by decide +kernel
theorem dX1_allows_13 : decode cX1_allows 13 = .ok (.if_icmp .eq 22, 3) := by decide +kernel
theorem dX1_allows_16 : decode cX1_allows 16 = .ok (.aload_n 1, 1) := by decide +kernel
theorem dX1_allows_17 : decode cX1_allows 17 = .ok (.getfield 29, 3) := by decide +kernel
theorem dX1_allows_20 : decode cX1_allows 20 = .ok (.aload_n 0, 1) := by decide +kernel
theorem dX1_allows_21 : decode cX1_allows 21 = .ok (.getfield 9, 3) := by decide +kernel
theorem dX1_allows_24 : decode cX1_allows 24 = .ok (.isub, 1) := by decide +kernel
theorem dX1_allows_25 : decode cX1_allows 25 = .ok (.invokestatic 32, 3) := by decide +kernel
theorem dX1_allows_28 : decode cX1_allows 28 = .ok (.aload_n 0, 1) := by decide +kernel
theorem dX1_allows_29 : decode cX1_allows 29 = .ok (.getfield 15, 3) := by decide +kernel
theorem dX1_allows_32 : decode cX1_allows 32 = .ok (.if_icmp .le 6, 3) := by decide +kernel
theorem dX1_allows_35 : decode cX1_allows 35 = .ok (.ldc 38, 2) := by decide +kernel
theorem dX1_allows_37 : decode cX1_allows 37 = .ok (.ireturn, 1) := by decide +kernel
theorem dX1_allows_38 : decode cX1_allows 38 = .ok (.aload_n 1, 1) := by decide +kernel
theorem dX1_allows_39 : decode cX1_allows 39 = .ok (.getfield 29, 3) := by decide +kernel
theorem dX1_allows_42 : decode cX1_allows 42 = .ok (.aload_n 0, 1) := by decide +kernel
theorem dX1_allows_43 : decode cX1_allows 43 = .ok (.getfield 9, 3) := by decide +kernel
theorem dX1_allows_46 : decode cX1_allows 46 = .ok (.if_icmp .ge 10, 3) := by decide +kernel
theorem dX1_allows_49 : decode cX1_allows 49 = .ok (.aload_n 0, 1) := by decide +kernel
theorem dX1_allows_50 : decode cX1_allows 50 = .ok (.getfield 18, 3) := by decide +kernel
theorem dX1_allows_53 : decode cX1_allows 53 = .ok (.goto 7, 3) := by decide +kernel
theorem dX1_allows_56 : decode cX1_allows 56 = .ok (.aload_n 0, 1) := by decide +kernel
theorem dX1_allows_57 : decode cX1_allows 57 = .ok (.getfield 21, 3) := by decide +kernel
theorem dX1_allows_60 : decode cX1_allows 60 = .ok (.ireturn, 1) := by decide +kernel
