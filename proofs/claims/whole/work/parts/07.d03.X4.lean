theorem dX4_begin_0 : decode cX4_begin 0 = .ok (.aload_n 0, 1) := by decide +kernel
theorem dX4_begin_1 : decode cX4_begin 1 = .ok (.iload_n 1, 1) := by decide +kernel
theorem dX4_begin_2 : decode cX4_begin 2 = .ok (.putfield 9, 3) := by decide +kernel
theorem dX4_begin_5 : decode cX4_begin 5 = .ok (.aload_n 0, 1) := by decide +kernel
theorem dX4_begin_6 : decode cX4_begin 6 = .ok (.iload_n 2, 1) := by decide +kernel
theorem dX4_begin_7 : decode cX4_begin 7 = .ok (.putfield 15, 3) := by decide +kernel
theorem dX4_begin_10 : decode cX4_begin 10 = .ok (.aload_n 0, 1) := by decide +kernel
theorem dX4_begin_11 : decode cX4_begin 11 = .ok (.iload_n 3, 1) := by decide +kernel
theorem dX4_begin_12 : decode cX4_begin 12 = .ok (.invokevirtual 18, 3) := by decide +kernel
theorem dX4_begin_15 : decode cX4_begin 15 = .ok (.aload_n 0, 1) := by decide +kernel
theorem dX4_begin_16 : decode cX4_begin 16 = .ok (.iload 4, 2) := by decide +kernel
theorem dX4_begin_18 : decode cX4_begin 18 = .ok (.putfield 22, 3) := by decide +kernel
theorem dX4_begin_21 : decode cX4_begin 21 = .ok (.aload_n 0, 1) := by decide +kernel
theorem dX4_begin_22 : decode cX4_begin 22 = .ok (.iload 5, 2) := by decide +kernel
theorem dX4_begin_24 : decode cX4_begin 24 = .ok (.putfield 25, 3) := by decide +kernel
theorem dX4_begin_27 : decode cX4_begin 27 = .ok (.aload_n 0, 1) := by decide +kernel
theorem dX4_begin_28 : decode cX4_begin 28 = .ok (.iload 6, 2) := by decide +kernel
theorem dX4_begin_30 : decode cX4_begin 30 = .ok (.putfield 28, 3) := by decide +kernel
theorem dX4_begin_33 : decode cX4_begin 33 = .ok (.aload_n 0, 1) := by decide +kernel
theorem dX4_begin_34 : decode cX4_begin 34 = .ok (.ldc 31, 2) := by decide +kernel
theorem dX4_begin_36 : decode cX4_begin 36 = .ok (.putfield 32, 3) := by decide +kernel
theorem dX4_begin_39 : decode cX4_begin 39 = .ok (.aload_n 0, 1) := by decide +kernel
theorem dX4_begin_40 : decode cX4_begin 40 = .ok (.iconst 5, 1) := by decide +kernel
theorem dX4_begin_41 : decode cX4_begin 41 = .ok (.putfield 35, 3) := by decide +kernel
theorem dX4_begin_44 : decode cX4_begin 44 = .ok (.return_, 1) := by decide +kernel
theorem dX4_goTo_0 : decode cX4_goTo 0 = .ok (.aload_n 0, 1) := by decide +kernel
theorem dX4_goTo_1 : decode cX4_goTo 1 = .ok (.iload_n 1, 1) := by decide +kernel
theorem dX4_goTo_2 : decode cX4_goTo 2 = .ok (.bipush 64, 2) := by decide +kernel
theorem dX4_goTo_4 : decode cX4_goTo 4 = .ok (.idiv, 1) := by decide +kernel
theorem dX4_goTo_5 : decode cX4_goTo 5 = .ok (.putfield 38, 3) := by decide +kernel
theorem dX4_goTo_8 : decode cX4_goTo 8 = .ok (.aload_n 0, 1) := by decide +kernel
theorem dX4_goTo_9 : decode cX4_goTo 9 = .ok (.iload_n 1, 1) := by decide +kernel
theorem dX4_goTo_10 : decode cX4_goTo 10 = .ok (.bipush 64, 2) := by decide +kernel
theorem dX4_goTo_12 : decode cX4_goTo 12 = .ok (.irem, 1) := by decide +kernel
theorem dX4_goTo_13 : decode cX4_goTo 13 = .ok (.putfield 41, 3) := by decide +kernel
theorem dX4_goTo_16 : decode cX4_goTo 16 = .ok (.return_, 1) := by decide +kernel
theorem dX4_takeAll_0 : decode cX4_takeAll 0 = .ok (.aload_n 0, 1) := by decide +kernel
theorem dX4_takeAll_1 : decode cX4_takeAll 1 = .ok (.aload_n 1, 1) := by decide +kernel
theorem dX4_takeAll_2 : decode cX4_takeAll 2 = .ok (.getfield 9, 3) := by decide +kernel
theorem dX4_takeAll_5 : decode cX4_takeAll 5 = .ok (.putfield 9, 3) := by decide +kernel
theorem dX4_takeAll_8 : decode cX4_takeAll 8 = .ok (.aload_n 0, 1) := by decide +kernel
theorem dX4_takeAll_9 : decode cX4_takeAll 9 = .ok (.aload_n 1, 1) := by decide +kernel
theorem dX4_takeAll_10 : decode cX4_takeAll 10 = .ok (.getfield 15, 3) := by decide +kernel
theorem dX4_takeAll_13 : decode cX4_takeAll 13 = .ok (.putfield 15, 3) := by decide +kernel
theorem dX4_takeAll_16 : decode cX4_takeAll 16 = .ok (.aload_n 0, 1) := by decide +kernel
theorem dX4_takeAll_17 : decode cX4_takeAll 17 = .ok (.aload_n 1, 1) := by decide +kernel
theorem dX4_takeAll_18 : decode cX4_takeAll 18 = .ok (.getfield 38, 3) := by decide +kernel
theorem dX4_takeAll_21 : decode cX4_takeAll 21 = .ok (.putfield 38, 3) := by decide +kernel
theorem dX4_takeAll_24 : decode cX4_takeAll 24 = .ok (.aload_n 0, 1) := by decide +kernel
theorem dX4_takeAll_25 : decode cX4_takeAll 25 = .ok (.aload_n 1, 1) := by decide +kernel
theorem dX4_takeAll_26 : decode cX4_takeAll 26 = .ok (.getfield 41, 3) := by decide +kernel
theorem dX4_takeAll_29 : decode cX4_takeAll 29 = .ok (.putfield 41, 3) := by decide +kernel
theorem dX4_takeAll_32 : decode cX4_takeAll 32 = .ok (.aload_n 0, 1) := by decide +kernel
theorem dX4_takeAll_33 : decode cX4_takeAll 33 = .ok (.aload_n 1, 1) := by decide +kernel
theorem dX4_takeAll_34 : decode cX4_takeAll 34 = .ok (.getfield 22, 3) := by decide +kernel
theorem dX4_takeAll_37 : decode cX4_takeAll 37 = .ok (.putfield 22, 3) := by decide +kernel
theorem dX4_takeAll_40 : decode cX4_takeAll 40 = .ok (.aload_n 0, 1) := by decide +kernel
theorem dX4_takeAll_41 : decode cX4_takeAll 41 = .ok (.aload_n 1, 1) := by decide +kernel
theorem dX4_takeAll_42 : decode cX4_takeAll 42 = .ok (.getfield 25, 3) := by decide +kernel
theorem dX4_takeAll_45 : decode cX4_takeAll 45 = .ok (.putfield 25, 3) := by decide +kernel
theorem dX4_takeAll_48 : decode cX4_takeAll 48 = .ok (.aload_n 0, 1) := by decide +kernel
theorem dX4_takeAll_49 : decode cX4_takeAll 49 = .ok (.aload_n 1, 1) := by decide +kernel
theorem dX4_takeAll_50 : decode cX4_takeAll 50 = .ok (.getfield 28, 3) := by decide +kernel
theorem dX4_takeAll_53 : decode cX4_takeAll 53 = .ok (.putfield 28, 3) := by decide +kernel
theorem dX4_takeAll_56 : decode cX4_takeAll 56 = .ok (.aload_n 0, 1) := by decide +kernel
theorem dX4_takeAll_57 : decode cX4_takeAll 57 = .ok (.aload_n 1, 1) := by decide +kernel
theorem dX4_takeAll_58 : decode cX4_takeAll 58 = .ok (.getfield 32, 3) := by decide +kernel
theorem dX4_takeAll_61 : decode cX4_takeAll 61 = .ok (.putfield 32, 3) := by decide +kernel
theorem dX4_takeAll_64 : decode cX4_takeAll 64 = .ok (.aload_n 0, 1) := by decide +kernel
theorem dX4_takeAll_65 : decode cX4_takeAll 65 = .ok (.aload_n 1, 1) := by decide +kernel
theorem dX4_takeAll_66 : decode cX4_takeAll 66 = .ok (.getfield 35, 3) := by decide +kernel
theorem dX4_takeAll_69 : decode cX4_takeAll 69 = .ok (.putfield 35, 3) := by decide +kernel
theorem dX4_takeAll_72 : decode cX4_takeAll 72 = .ok (.return_, 1) := by decide +kernel
theorem dX4_trait_0 : decode cX4_trait 0 = .ok (.iload_n 1, 1) := by decide +kernel
theorem dX4_trait_1 : decode cX4_trait 1 = .ok (.tableswitch 103 0 7 #[47, 52, 57, 62, 67, 72, 77, 85], 47) := by decide +kernel
theorem dX4_trait_48 : decode cX4_trait 48 = .ok (.aload_n 0, 1) := by decide +kernel
theorem dX4_trait_49 : decode cX4_trait 49 = .ok (.getfield 15, 3) := by decide +kernel
theorem dX4_trait_52 : decode cX4_trait 52 = .ok (.ireturn, 1) := by decide +kernel
theorem dX4_trait_53 : decode cX4_trait 53 = .ok (.aload_n 0, 1) := by decide +kernel
theorem dX4_trait_54 : decode cX4_trait 54 = .ok (.getfield 38, 3) := by decide +kernel
theorem dX4_trait_57 : decode cX4_trait 57 = .ok (.ireturn, 1) := by decide +kernel
theorem dX4_trait_58 : decode cX4_trait 58 = .ok (.aload_n 0, 1) := by decide +kernel
theorem dX4_trait_59 : decode cX4_trait 59 = .ok (.getfield 41, 3) := by decide +kernel
theorem dX4_trait_62 : decode cX4_trait 62 = .ok (.ireturn, 1) := by decide +kernel
theorem dX4_trait_63 : decode cX4_trait 63 = .ok (.aload_n 0, 1) := by decide +kernel
theorem dX4_trait_64 : decode cX4_trait 64 = .ok (.getfield 22, 3) := by decide +kernel
theorem dX4_trait_67 : decode cX4_trait 67 = .ok (.ireturn, 1) := by decide +kernel
theorem dX4_trait_68 : decode cX4_trait 68 = .ok (.aload_n 0, 1) := by decide +kernel
theorem dX4_trait_69 : decode cX4_trait 69 = .ok (.getfield 25, 3) := by decide +kernel
theorem dX4_trait_72 : decode cX4_trait 72 = .ok (.ireturn, 1) := by decide +kernel
theorem dX4_trait_73 : decode cX4_trait 73 = .ok (.aload_n 0, 1) := by decide +kernel
theorem dX4_trait_74 : decode cX4_trait 74 = .ok (.getfield 28, 3) := by decide +kernel
theorem dX4_trait_77 : decode cX4_trait 77 = .ok (.ireturn, 1) := by decide +kernel
theorem dX4_trait_78 : decode cX4_trait 78 = .ok (.aload_n 0, 1) := by decide +kernel
theorem dX4_trait_79 : decode cX4_trait 79 = .ok (.getfield 32, 3) := by decide +kernel
theorem dX4_trait_82 : decode cX4_trait 82 = .ok (.invokestatic 44, 3) := by decide +kernel
theorem dX4_trait_85 : decode cX4_trait 85 = .ok (.ireturn, 1) := by decide +kernel
theorem dX4_trait_86 : decode cX4_trait 86 = .ok (.aload_n 0, 1) := by decide +kernel
theorem dX4_trait_87 : decode cX4_trait 87 = .ok (.getfield 15, 3) := by decide +kernel
theorem dX4_trait_90 : decode cX4_trait 90 = .ok (.iconst 1, 1) := by decide +kernel
theorem dX4_trait_91 : decode cX4_trait 91 = .ok (.if_icmp .ne 10, 3) := by decide +kernel
theorem dX4_trait_94 : decode cX4_trait 94 = .ok (.aload_n 0, 1) := by decide +kernel
theorem dX4_trait_95 : decode cX4_trait 95 = .ok (.getfield 35, 3) := by decide +kernel
theorem dX4_trait_98 : decode cX4_trait 98 = .ok (.goto 5, 3) := by decide +kernel
theorem dX4_trait_101 : decode cX4_trait 101 = .ok (.bipush (-2), 2) := by decide +kernel
theorem dX4_trait_103 : decode cX4_trait 103 = .ok (.ireturn, 1) := by decide +kernel
theorem dX4_trait_104 : decode cX4_trait 104 = .ok (.iconst (-1), 1) := by decide +kernel
theorem dX4_trait_105 : decode cX4_trait 105 = .ok (.ireturn, 1) := by decide +kernel
theorem dX4_heaviness_0 : decode cX4_heaviness 0 = .ok (.aload_n 0, 1) := by decide +kernel
theorem dX4_heaviness_1 : decode cX4_heaviness 1 = .ok (.getfield 9, 3) := by decide +kernel
theorem dX4_heaviness_4 : decode cX4_heaviness 4 = .ok (.iconst 5, 1) := by decide +kernel
theorem dX4_heaviness_5 : decode cX4_heaviness 5 = .ok (.aload_n 0, 1) := by decide +kernel
theorem dX4_heaviness_6 : decode cX4_heaviness 6 = .ok (.getfield 25, 3) := by decide +kernel
theorem dX4_heaviness_9 : decode cX4_heaviness 9 = .ok (.imul, 1) := by decide +kernel
theorem dX4_heaviness_10 : decode cX4_heaviness 10 = .ok (.iadd, 1) := by decide +kernel
theorem dX4_heaviness_11 : decode cX4_heaviness 11 = .ok (.aload_n 0, 1) := by decide +kernel
theorem dX4_heaviness_12 : decode cX4_heaviness 12 = .ok (.getfield 22, 3) := by decide +kernel
theorem dX4_heaviness_15 : decode cX4_heaviness 15 = .ok (.iadd, 1) := by decide +kernel
theorem dX4_heaviness_16 : decode cX4_heaviness 16 = .ok (.istore_n 1, 1) := by decide +kernel
theorem dX4_heaviness_17 : decode cX4_heaviness 17 = .ok (.aload_n 0, 1) := by decide +kernel
theorem dX4_heaviness_18 : decode cX4_heaviness 18 = .ok (.getfield 15, 3) := by decide +kernel
theorem dX4_heaviness_21 : decode cX4_heaviness 21 = .ok (.tableswitch 43 1 3 #[27, 34, 39], 27) := by decide +kernel
theorem dX4_heaviness_48 : decode cX4_heaviness 48 = .ok (.iload_n 1, 1) := by decide +kernel
theorem dX4_heaviness_49 : decode cX4_heaviness 49 = .ok (.aload_n 0, 1) := by decide +kernel
theorem dX4_heaviness_50 : decode cX4_heaviness 50 = .ok (.getfield 35, 3) := by decide +kernel
theorem dX4_heaviness_53 : decode cX4_heaviness 53 = .ok (.iadd, 1) := by decide +kernel
theorem dX4_heaviness_54 : decode cX4_heaviness 54 = .ok (.ireturn, 1) := by decide +kernel
theorem dX4_heaviness_55 : decode cX4_heaviness 55 = .ok (.iload_n 1, 1) := by decide +kernel
theorem dX4_heaviness_56 : decode cX4_heaviness 56 = .ok (.bipush 100, 2) := by decide +kernel
theorem dX4_heaviness_58 : decode cX4_heaviness 58 = .ok (.iadd, 1) := by decide +kernel
theorem dX4_heaviness_59 : decode cX4_heaviness 59 = .ok (.ireturn, 1) := by decide +kernel
theorem dX4_heaviness_60 : decode cX4_heaviness 60 = .ok (.iconst 2, 1) := by decide +kernel
theorem dX4_heaviness_61 : decode cX4_heaviness 61 = .ok (.iload_n 1, 1) := by decide +kernel
theorem dX4_heaviness_62 : decode cX4_heaviness 62 = .ok (.imul, 1) := by decide +kernel
theorem dX4_heaviness_63 : decode cX4_heaviness 63 = .ok (.ireturn, 1) := by decide +kernel
theorem dX4_heaviness_64 : decode cX4_heaviness 64 = .ok (.iload_n 1, 1) := by decide +kernel
theorem dX4_heaviness_65 : decode cX4_heaviness 65 = .ok (.ireturn, 1) := by decide +kernel
