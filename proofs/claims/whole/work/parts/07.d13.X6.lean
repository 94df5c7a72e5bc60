theorem dX6_clear_0 : decode cX6_clear 0 = .ok (.aload_n 0, 1) := by decide +kernel
theorem dX6_clear_1 : decode cX6_clear 1 = .ok (.iconst 0, 1) := by decide +kernel
theorem dX6_clear_2 : decode cX6_clear 2 = .ok (.putfield 26, 3) := by decide +kernel
theorem dX6_clear_5 : decode cX6_clear 5 = .ok (.aload_n 0, 1) := by decide +kernel
theorem dX6_clear_6 : decode cX6_clear 6 = .ok (.iconst 0, 1) := by decide +kernel
theorem dX6_clear_7 : decode cX6_clear 7 = .ok (.putfield 30, 3) := by decide +kernel
theorem dX6_clear_10 : decode cX6_clear 10 = .ok (.return_, 1) := by decide +kernel
theorem dX6_takeMast_0 : decode cX6_takeMast 0 = .ok (.aload_n 0, 1) := by decide +kernel
theorem dX6_takeMast_1 : decode cX6_takeMast 1 = .ok (.iconst 1, 1) := by decide +kernel
theorem dX6_takeMast_2 : decode cX6_takeMast 2 = .ok (.putfield 26, 3) := by decide +kernel
theorem dX6_takeMast_5 : decode cX6_takeMast 5 = .ok (.aload_n 0, 1) := by decide +kernel
theorem dX6_takeMast_6 : decode cX6_takeMast 6 = .ok (.iconst 0, 1) := by decide +kernel
theorem dX6_takeMast_7 : decode cX6_takeMast 7 = .ok (.putfield 30, 3) := by decide +kernel
theorem dX6_takeMast_10 : decode cX6_takeMast 10 = .ok (.aload_n 0, 1) := by decide +kernel
theorem dX6_takeMast_11 : decode cX6_takeMast 11 = .ok (.getfield 12, 3) := by decide +kernel
theorem dX6_takeMast_14 : decode cX6_takeMast 14 = .ok (.aload_n 1, 1) := by decide +kernel
theorem dX6_takeMast_15 : decode cX6_takeMast 15 = .ok (.invokevirtual 33, 3) := by decide +kernel
theorem dX6_takeMast_18 : decode cX6_takeMast 18 = .ok (.return_, 1) := by decide +kernel
theorem dX6_takeChannels_0 : decode cX6_takeChannels 0 = .ok (.aload_n 0, 1) := by decide +kernel
theorem dX6_takeChannels_1 : decode cX6_takeChannels 1 = .ok (.iconst 3, 1) := by decide +kernel
theorem dX6_takeChannels_2 : decode cX6_takeChannels 2 = .ok (.putfield 26, 3) := by decide +kernel
theorem dX6_takeChannels_5 : decode cX6_takeChannels 5 = .ok (.aload_n 0, 1) := by decide +kernel
theorem dX6_takeChannels_6 : decode cX6_takeChannels 6 = .ok (.iload_n 2, 1) := by decide +kernel
theorem dX6_takeChannels_7 : decode cX6_takeChannels 7 = .ok (.putfield 30, 3) := by decide +kernel
theorem dX6_takeChannels_10 : decode cX6_takeChannels 10 = .ok (.iconst 0, 1) := by decide +kernel
theorem dX6_takeChannels_11 : decode cX6_takeChannels 11 = .ok (.istore_n 3, 1) := by decide +kernel
theorem dX6_takeChannels_12 : decode cX6_takeChannels 12 = .ok (.iload_n 3, 1) := by decide +kernel
theorem dX6_takeChannels_13 : decode cX6_takeChannels 13 = .ok (.iload_n 2, 1) := by decide +kernel
theorem dX6_takeChannels_14 : decode cX6_takeChannels 14 = .ok (.if_icmp .ge 19, 3) := by decide +kernel
theorem dX6_takeChannels_17 : decode cX6_takeChannels 17 = .ok (.aload_n 0, 1) := by decide +kernel
theorem dX6_takeChannels_18 : decode cX6_takeChannels 18 = .ok (.getfield 18, 3) := by decide +kernel
theorem dX6_takeChannels_21 : decode cX6_takeChannels 21 = .ok (.iload_n 3, 1) := by decide +kernel
theorem dX6_takeChannels_22 : decode cX6_takeChannels 22 = .ok (.aload_n 1, 1) := by decide +kernel
theorem dX6_takeChannels_23 : decode cX6_takeChannels 23 = .ok (.iload_n 3, 1) := by decide +kernel
theorem dX6_takeChannels_24 : decode cX6_takeChannels 24 = .ok (.iaload, 1) := by decide +kernel
theorem dX6_takeChannels_25 : decode cX6_takeChannels 25 = .ok (.i2b, 1) := by decide +kernel
theorem dX6_takeChannels_26 : decode cX6_takeChannels 26 = .ok (.bastore, 1) := by decide +kernel
theorem dX6_takeChannels_27 : decode cX6_takeChannels 27 = .ok (.iinc 3 1, 3) := by decide +kernel
theorem dX6_takeChannels_30 : decode cX6_takeChannels 30 = .ok (.goto (-18), 3) := by decide +kernel
theorem dX6_takeChannels_33 : decode cX6_takeChannels 33 = .ok (.return_, 1) := by decide +kernel
theorem dX6_takeSquares_0 : decode cX6_takeSquares 0 = .ok (.aload_n 0, 1) := by decide +kernel
theorem dX6_takeSquares_1 : decode cX6_takeSquares 1 = .ok (.iconst 4, 1) := by decide +kernel
theorem dX6_takeSquares_2 : decode cX6_takeSquares 2 = .ok (.putfield 26, 3) := by decide +kernel
theorem dX6_takeSquares_5 : decode cX6_takeSquares 5 = .ok (.aload_n 0, 1) := by decide +kernel
theorem dX6_takeSquares_6 : decode cX6_takeSquares 6 = .ok (.aload_n 1, 1) := by decide +kernel
theorem dX6_takeSquares_7 : decode cX6_takeSquares 7 = .ok (.getfield 37, 3) := by decide +kernel
theorem dX6_takeSquares_10 : decode cX6_takeSquares 10 = .ok (.putfield 30, 3) := by decide +kernel
theorem dX6_takeSquares_13 : decode cX6_takeSquares 13 = .ok (.iconst 0, 1) := by decide +kernel
theorem dX6_takeSquares_14 : decode cX6_takeSquares 14 = .ok (.istore_n 3, 1) := by decide +kernel
theorem dX6_takeSquares_15 : decode cX6_takeSquares 15 = .ok (.iload_n 3, 1) := by decide +kernel
theorem dX6_takeSquares_16 : decode cX6_takeSquares 16 = .ok (.aload_n 1, 1) := by decide +kernel
theorem dX6_takeSquares_17 : decode cX6_takeSquares 17 = .ok (.getfield 37, 3) := by decide +kernel
theorem dX6_takeSquares_20 : decode cX6_takeSquares 20 = .ok (.if_icmp .ge 22, 3) := by decide +kernel
theorem dX6_takeSquares_23 : decode cX6_takeSquares 23 = .ok (.aload_n 0, 1) := by decide +kernel
theorem dX6_takeSquares_24 : decode cX6_takeSquares 24 = .ok (.getfield 22, 3) := by decide +kernel
theorem dX6_takeSquares_27 : decode cX6_takeSquares 27 = .ok (.iload_n 3, 1) := by decide +kernel
theorem dX6_takeSquares_28 : decode cX6_takeSquares 28 = .ok (.aload_n 1, 1) := by decide +kernel
theorem dX6_takeSquares_29 : decode cX6_takeSquares 29 = .ok (.iload_n 2, 1) := by decide +kernel
theorem dX6_takeSquares_30 : decode cX6_takeSquares 30 = .ok (.iload_n 3, 1) := by decide +kernel
theorem dX6_takeSquares_31 : decode cX6_takeSquares 31 = .ok (.invokevirtual 42, 3) := by decide +kernel
theorem dX6_takeSquares_34 : decode cX6_takeSquares 34 = .ok (.i2l, 1) := by decide +kernel
theorem dX6_takeSquares_35 : decode cX6_takeSquares 35 = .ok (.lastore, 1) := by decide +kernel
theorem dX6_takeSquares_36 : decode cX6_takeSquares 36 = .ok (.iinc 3 1, 3) := by decide +kernel
theorem dX6_takeSquares_39 : decode cX6_takeSquares 39 = .ok (.goto (-24), 3) := by decide +kernel
theorem dX6_takeSquares_42 : decode cX6_takeSquares 42 = .ok (.return_, 1) := by decide +kernel
theorem dX6_takeZeros_0 : decode cX6_takeZeros 0 = .ok (.aload_n 0, 1) := by decide +kernel
theorem dX6_takeZeros_1 : decode cX6_takeZeros 1 = .ok (.iload_n 1, 1) := by decide +kernel
theorem dX6_takeZeros_2 : decode cX6_takeZeros 2 = .ok (.putfield 26, 3) := by decide +kernel
theorem dX6_takeZeros_5 : decode cX6_takeZeros 5 = .ok (.aload_n 0, 1) := by decide +kernel
theorem dX6_takeZeros_6 : decode cX6_takeZeros 6 = .ok (.iload_n 2, 1) := by decide +kernel
theorem dX6_takeZeros_7 : decode cX6_takeZeros 7 = .ok (.putfield 30, 3) := by decide +kernel
theorem dX6_takeZeros_10 : decode cX6_takeZeros 10 = .ok (.aload_n 0, 1) := by decide +kernel
theorem dX6_takeZeros_11 : decode cX6_takeZeros 11 = .ok (.getfield 18, 3) := by decide +kernel
theorem dX6_takeZeros_14 : decode cX6_takeZeros 14 = .ok (.iconst 0, 1) := by decide +kernel
theorem dX6_takeZeros_15 : decode cX6_takeZeros 15 = .ok (.invokestatic 46, 3) := by decide +kernel
theorem dX6_takeZeros_18 : decode cX6_takeZeros 18 = .ok (.aload_n 0, 1) := by decide +kernel
theorem dX6_takeZeros_19 : decode cX6_takeZeros 19 = .ok (.getfield 22, 3) := by decide +kernel
theorem dX6_takeZeros_22 : decode cX6_takeZeros 22 = .ok (.lconst 0, 1) := by decide +kernel
theorem dX6_takeZeros_23 : decode cX6_takeZeros 23 = .ok (.invokestatic 52, 3) := by decide +kernel
theorem dX6_takeZeros_26 : decode cX6_takeZeros 26 = .ok (.return_, 1) := by decide +kernel
theorem dX6_isRow_0 : decode cX6_isRow 0 = .ok (.aload_n 0, 1) := by decide +kernel
theorem dX6_isRow_1 : decode cX6_isRow 1 = .ok (.getfield 26, 3) := by decide +kernel
theorem dX6_isRow_4 : decode cX6_isRow 4 = .ok (.iconst 3, 1) := by decide +kernel
theorem dX6_isRow_5 : decode cX6_isRow 5 = .ok (.if_icmp .eq 11, 3) := by decide +kernel
theorem dX6_isRow_8 : decode cX6_isRow 8 = .ok (.aload_n 0, 1) := by decide +kernel
theorem dX6_isRow_9 : decode cX6_isRow 9 = .ok (.getfield 26, 3) := by decide +kernel
theorem dX6_isRow_12 : decode cX6_isRow 12 = .ok (.iconst 4, 1) := by decide +kernel
theorem dX6_isRow_13 : decode cX6_isRow 13 = .ok (.if_icmp .ne 7, 3) := by decide +kernel
theorem dX6_isRow_16 : decode cX6_isRow 16 = .ok (.iconst 1, 1) := by decide +kernel
theorem dX6_isRow_17 : decode cX6_isRow 17 = .ok (.goto 4, 3) := by decide +kernel
theorem dX6_isRow_20 : decode cX6_isRow 20 = .ok (.iconst 0, 1) := by decide +kernel
theorem dX6_isRow_21 : decode cX6_isRow 21 = .ok (.ireturn, 1) := by decide +kernel
theorem dX6_hasRange_0 : decode cX6_hasRange 0 = .ok (.iload_n 2, 1) := by decide +kernel
theorem dX6_hasRange_1 : decode cX6_hasRange 1 = .ok (.ifCond .lt 29, 3) := by decide +kernel
theorem dX6_hasRange_4 : decode cX6_hasRange 4 = .ok (.iload_n 1, 1) := by decide +kernel
theorem dX6_hasRange_5 : decode cX6_hasRange 5 = .ok (.ifCond .lt 25, 3) := by decide +kernel
theorem dX6_hasRange_8 : decode cX6_hasRange 8 = .ok (.iload_n 1, 1) := by decide +kernel
theorem dX6_hasRange_9 : decode cX6_hasRange 9 = .ok (.aload_n 0, 1) := by decide +kernel
theorem dX6_hasRange_10 : decode cX6_hasRange 10 = .ok (.getfield 30, 3) := by decide +kernel
theorem dX6_hasRange_13 : decode cX6_hasRange 13 = .ok (.if_icmp .gt 17, 3) := by decide +kernel
theorem dX6_hasRange_16 : decode cX6_hasRange 16 = .ok (.iload_n 2, 1) := by decide +kernel
theorem dX6_hasRange_17 : decode cX6_hasRange 17 = .ok (.aload_n 0, 1) := by decide +kernel
theorem dX6_hasRange_18 : decode cX6_hasRange 18 = .ok (.getfield 30, 3) := by decide +kernel
theorem dX6_hasRange_21 : decode cX6_hasRange 21 = .ok (.iload_n 1, 1) := by decide +kernel
theorem dX6_hasRange_22 : decode cX6_hasRange 22 = .ok (.isub, 1) := by decide +kernel
theorem dX6_hasRange_23 : decode cX6_hasRange 23 = .ok (.if_icmp .gt 7, 3) := by decide +kernel
theorem dX6_hasRange_26 : decode cX6_hasRange 26 = .ok (.iconst 1, 1) := by decide +kernel
theorem dX6_hasRange_27 : decode cX6_hasRange 27 = .ok (.goto 4, 3) := by decide +kernel
theorem dX6_hasRange_30 : decode cX6_hasRange 30 = .ok (.iconst 0, 1) := by decide +kernel
theorem dX6_hasRange_31 : decode cX6_hasRange 31 = .ok (.ireturn, 1) := by decide +kernel
theorem dX6_at_0 : decode cX6_at 0 = .ok (.aload_n 0, 1) := by decide +kernel
theorem dX6_at_1 : decode cX6_at 1 = .ok (.getfield 26, 3) := by decide +kernel
theorem dX6_at_4 : decode cX6_at 4 = .ok (.iconst 3, 1) := by decide +kernel
theorem dX6_at_5 : decode cX6_at 5 = .ok (.if_icmp .ne 13, 3) := by decide +kernel
theorem dX6_at_8 : decode cX6_at 8 = .ok (.aload_n 0, 1) := by decide +kernel
theorem dX6_at_9 : decode cX6_at 9 = .ok (.getfield 18, 3) := by decide +kernel
theorem dX6_at_12 : decode cX6_at 12 = .ok (.iload_n 1, 1) := by decide +kernel
theorem dX6_at_13 : decode cX6_at 13 = .ok (.baload, 1) := by decide +kernel
theorem dX6_at_14 : decode cX6_at 14 = .ok (.i2l, 1) := by decide +kernel
theorem dX6_at_15 : decode cX6_at 15 = .ok (.goto 9, 3) := by decide +kernel
theorem dX6_at_18 : decode cX6_at 18 = .ok (.aload_n 0, 1) := by decide +kernel
theorem dX6_at_19 : decode cX6_at 19 = .ok (.getfield 22, 3) := by decide +kernel
theorem dX6_at_22 : decode cX6_at 22 = .ok (.iload_n 1, 1) := by decide +kernel
theorem dX6_at_23 : decode cX6_at 23 = .ok (.laload, 1) := by decide +kernel
theorem dX6_at_24 : decode cX6_at 24 = .ok (.lreturn, 1) := by decide +kernel
theorem dX6_copyTo_0 : decode cX6_copyTo 0 = .ok (.aload_n 0, 1) := by decide +kernel
theorem dX6_copyTo_1 : decode cX6_copyTo 1 = .ok (.getfield 26, 3) := by decide +kernel
theorem dX6_copyTo_4 : decode cX6_copyTo 4 = .ok (.iconst 3, 1) := by decide +kernel
theorem dX6_copyTo_5 : decode cX6_copyTo 5 = .ok (.if_icmp .ne 21, 3) := by decide +kernel
theorem dX6_copyTo_8 : decode cX6_copyTo 8 = .ok (.aload_n 0, 1) := by decide +kernel
theorem dX6_copyTo_9 : decode cX6_copyTo 9 = .ok (.getfield 18, 3) := by decide +kernel
theorem dX6_copyTo_12 : decode cX6_copyTo 12 = .ok (.iload_n 1, 1) := by decide +kernel
theorem dX6_copyTo_13 : decode cX6_copyTo 13 = .ok (.aload_n 2, 1) := by decide +kernel
theorem dX6_copyTo_14 : decode cX6_copyTo 14 = .ok (.getfield 18, 3) := by decide +kernel
theorem dX6_copyTo_17 : decode cX6_copyTo 17 = .ok (.iload_n 3, 1) := by decide +kernel
theorem dX6_copyTo_18 : decode cX6_copyTo 18 = .ok (.iload 4, 2) := by decide +kernel
theorem dX6_copyTo_20 : decode cX6_copyTo 20 = .ok (.invokestatic 55, 3) := by decide +kernel
theorem dX6_copyTo_23 : decode cX6_copyTo 23 = .ok (.goto 18, 3) := by decide +kernel
theorem dX6_copyTo_26 : decode cX6_copyTo 26 = .ok (.aload_n 0, 1) := by decide +kernel
theorem dX6_copyTo_27 : decode cX6_copyTo 27 = .ok (.getfield 22, 3) := by decide +kernel
theorem dX6_copyTo_30 : decode cX6_copyTo 30 = .ok (.iload_n 1, 1) := by decide +kernel
theorem dX6_copyTo_31 : decode cX6_copyTo 31 = .ok (.aload_n 2, 1) := by decide +kernel
theorem dX6_copyTo_32 : decode cX6_copyTo 32 = .ok (.getfield 22, 3) := by decide +kernel
theorem dX6_copyTo_35 : decode cX6_copyTo 35 = .ok (.iload_n 3, 1) := by decide +kernel
theorem dX6_copyTo_36 : decode cX6_copyTo 36 = .ok (.iload 4, 2) := by decide +kernel
theorem dX6_copyTo_38 : decode cX6_copyTo 38 = .ok (.invokestatic 55, 3) := by decide +kernel
theorem dX6_copyTo_41 : decode cX6_copyTo 41 = .ok (.return_, 1) := by decide +kernel
