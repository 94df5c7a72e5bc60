theorem dX10_weightOf_38 : decode cX10_weightOf 38 = .ok (.if_icmp .ne 14, 3) := by decide +kernel
theorem dX10_weightOf_41 : decode cX10_weightOf 41 = .ok (.iload_n 2, 1) := by decide +kernel
theorem dX10_weightOf_42 : decode cX10_weightOf 42 = .ok (.aload_n 0, 1) := by decide +kernel
theorem dX10_weightOf_43 : decode cX10_weightOf 43 = .ok (.getfield 31, 3) := by decide +kernel
theorem dX10_weightOf_46 : decode cX10_weightOf 46 = .ok (.iload_n 1, 1) := by decide +kernel
theorem dX10_weightOf_47 : decode cX10_weightOf 47 = .ok (.iaload, 1) := by decide +kernel
theorem dX10_weightOf_48 : decode cX10_weightOf 48 = .ok (.iadd, 1) := by decide +kernel
theorem dX10_weightOf_49 : decode cX10_weightOf 49 = .ok (.goto 23, 3) := by decide +kernel
theorem dX10_weightOf_52 : decode cX10_weightOf 52 = .ok (.aload_n 0, 1) := by decide +kernel
theorem dX10_weightOf_53 : decode cX10_weightOf 53 = .ok (.getfield 7, 3) := by decide +kernel
theorem dX10_weightOf_56 : decode cX10_weightOf 56 = .ok (.iload_n 1, 1) := by decide +kernel
theorem dX10_weightOf_57 : decode cX10_weightOf 57 = .ok (.iaload, 1) := by decide +kernel
theorem dX10_weightOf_58 : decode cX10_weightOf 58 = .ok (.iconst 2, 1) := by decide +kernel
theorem dX10_weightOf_59 : decode cX10_weightOf 59 = .ok (.if_icmp .ne 10, 3) := by decide +kernel
theorem dX10_weightOf_62 : decode cX10_weightOf 62 = .ok (.iload_n 2, 1) := by decide +kernel
theorem dX10_weightOf_63 : decode cX10_weightOf 63 = .ok (.bipush 100, 2) := by decide +kernel
theorem dX10_weightOf_65 : decode cX10_weightOf 65 = .ok (.iadd, 1) := by decide +kernel
theorem dX10_weightOf_66 : decode cX10_weightOf 66 = .ok (.goto 6, 3) := by decide +kernel
theorem dX10_weightOf_69 : decode cX10_weightOf 69 = .ok (.iconst 2, 1) := by decide +kernel
theorem dX10_weightOf_70 : decode cX10_weightOf 70 = .ok (.iload_n 2, 1) := by decide +kernel
theorem dX10_weightOf_71 : decode cX10_weightOf 71 = .ok (.imul, 1) := by decide +kernel
theorem dX10_weightOf_72 : decode cX10_weightOf 72 = .ok (.ireturn, 1) := by decide +kernel
theorem dX10_keep_0 : decode cX10_keep 0 = .ok (.aload_n 0, 1) := by decide +kernel
theorem dX10_keep_1 : decode cX10_keep 1 = .ok (.iconst 0, 1) := by decide +kernel
theorem dX10_keep_2 : decode cX10_keep 2 = .ok (.putfield 102, 3) := by decide +kernel
theorem dX10_keep_5 : decode cX10_keep 5 = .ok (.iload_n 1, 1) := by decide +kernel
theorem dX10_keep_6 : decode cX10_keep 6 = .ok (.invokestatic 266, 3) := by decide +kernel
theorem dX10_keep_9 : decode cX10_keep 9 = .ok (.ifCond .eq 34, 3) := by decide +kernel
theorem dX10_keep_12 : decode cX10_keep 12 = .ok (.iload_n 2, 1) := by decide +kernel
theorem dX10_keep_13 : decode cX10_keep 13 = .ok (.ifCond .eq 26, 3) := by decide +kernel
theorem dX10_keep_16 : decode cX10_keep 16 = .ok (.iload_n 2, 1) := by decide +kernel
theorem dX10_keep_17 : decode cX10_keep 17 = .ok (.iconst 1, 1) := by decide +kernel
theorem dX10_keep_18 : decode cX10_keep 18 = .ok (.if_icmp .eq 8, 3) := by decide +kernel
theorem dX10_keep_21 : decode cX10_keep 21 = .ok (.iload_n 2, 1) := by decide +kernel
theorem dX10_keep_22 : decode cX10_keep 22 = .ok (.iconst 4, 1) := by decide +kernel
theorem dX10_keep_23 : decode cX10_keep 23 = .ok (.if_icmp .ne 11, 3) := by decide +kernel
theorem dX10_keep_26 : decode cX10_keep 26 = .ok (.aload_n 0, 1) := by decide +kernel
theorem dX10_keep_27 : decode cX10_keep 27 = .ok (.iload_n 3, 1) := by decide +kernel
theorem dX10_keep_28 : decode cX10_keep 28 = .ok (.invokevirtual 132, 3) := by decide +kernel
theorem dX10_keep_31 : decode cX10_keep 31 = .ok (.ifCond .ne 8, 3) := by decide +kernel
theorem dX10_keep_34 : decode cX10_keep 34 = .ok (.iload_n 2, 1) := by decide +kernel
theorem dX10_keep_35 : decode cX10_keep 35 = .ok (.iconst 3, 1) := by decide +kernel
theorem dX10_keep_36 : decode cX10_keep 36 = .ok (.if_icmp .ne 7, 3) := by decide +kernel
theorem dX10_keep_39 : decode cX10_keep 39 = .ok (.iconst 1, 1) := by decide +kernel
theorem dX10_keep_40 : decode cX10_keep 40 = .ok (.goto 4, 3) := by decide +kernel
theorem dX10_keep_43 : decode cX10_keep 43 = .ok (.iconst 0, 1) := by decide +kernel
theorem dX10_keep_44 : decode cX10_keep 44 = .ok (.istore 4, 2) := by decide +kernel
theorem dX10_keep_46 : decode cX10_keep 46 = .ok (.iload 4, 2) := by decide +kernel
theorem dX10_keep_48 : decode cX10_keep 48 = .ok (.ifCond .ne 5, 3) := by decide +kernel
theorem dX10_keep_51 : decode cX10_keep 51 = .ok (.iconst (-1), 1) := by decide +kernel
theorem dX10_keep_52 : decode cX10_keep 52 = .ok (.ireturn, 1) := by decide +kernel
theorem dX10_keep_53 : decode cX10_keep 53 = .ok (.aload_n 0, 1) := by decide +kernel
theorem dX10_keep_54 : decode cX10_keep 54 = .ok (.getfield 83, 3) := by decide +kernel
theorem dX10_keep_57 : decode cX10_keep 57 = .ok (.iload_n 1, 1) := by decide +kernel
theorem dX10_keep_58 : decode cX10_keep 58 = .ok (.iload_n 2, 1) := by decide +kernel
theorem dX10_keep_59 : decode cX10_keep 59 = .ok (.iastore, 1) := by decide +kernel
theorem dX10_keep_60 : decode cX10_keep 60 = .ok (.aload_n 0, 1) := by decide +kernel
theorem dX10_keep_61 : decode cX10_keep 61 = .ok (.getfield 86, 3) := by decide +kernel
theorem dX10_keep_64 : decode cX10_keep 64 = .ok (.iload_n 1, 1) := by decide +kernel
theorem dX10_keep_65 : decode cX10_keep 65 = .ok (.iload_n 2, 1) := by decide +kernel
theorem dX10_keep_66 : decode cX10_keep 66 = .ok (.iconst 3, 1) := by decide +kernel
theorem dX10_keep_67 : decode cX10_keep 67 = .ok (.if_icmp .ne 10, 3) := by decide +kernel
theorem dX10_keep_70 : decode cX10_keep 70 = .ok (.aload_n 0, 1) := by decide +kernel
theorem dX10_keep_71 : decode cX10_keep 71 = .ok (.getfield 108, 3) := by decide +kernel
theorem dX10_keep_74 : decode cX10_keep 74 = .ok (.goto 16, 3) := by decide +kernel
theorem dX10_keep_77 : decode cX10_keep 77 = .ok (.iload_n 2, 1) := by decide +kernel
theorem dX10_keep_78 : decode cX10_keep 78 = .ok (.iconst 4, 1) := by decide +kernel
theorem dX10_keep_79 : decode cX10_keep 79 = .ok (.if_icmp .ne 10, 3) := by decide +kernel
theorem dX10_keep_82 : decode cX10_keep 82 = .ok (.aload_n 0, 1) := by decide +kernel
theorem dX10_keep_83 : decode cX10_keep 83 = .ok (.getfield 105, 3) := by decide +kernel
theorem dX10_keep_86 : decode cX10_keep 86 = .ok (.goto 4, 3) := by decide +kernel
theorem dX10_keep_89 : decode cX10_keep 89 = .ok (.iconst 0, 1) := by decide +kernel
theorem dX10_keep_90 : decode cX10_keep 90 = .ok (.iastore, 1) := by decide +kernel
theorem dX10_keep_91 : decode cX10_keep 91 = .ok (.iload_n 2, 1) := by decide +kernel
theorem dX10_keep_92 : decode cX10_keep 92 = .ok (.iconst 1, 1) := by decide +kernel
theorem dX10_keep_93 : decode cX10_keep 93 = .ok (.if_icmp .ne 35, 3) := by decide +kernel
theorem dX10_keep_96 : decode cX10_keep 96 = .ok (.aload_n 0, 1) := by decide +kernel
theorem dX10_keep_97 : decode cX10_keep 97 = .ok (.getfield 89, 3) := by decide +kernel
theorem dX10_keep_100 : decode cX10_keep 100 = .ok (.iload_n 1, 1) := by decide +kernel
theorem dX10_keep_101 : decode cX10_keep 101 = .ok (.aload_n 0, 1) := by decide +kernel
theorem dX10_keep_102 : decode cX10_keep 102 = .ok (.iload_n 3, 1) := by decide +kernel
theorem dX10_keep_103 : decode cX10_keep 103 = .ok (.invokevirtual 269, 3) := by decide +kernel
theorem dX10_keep_106 : decode cX10_keep 106 = .ok (.iastore, 1) := by decide +kernel
theorem dX10_keep_107 : decode cX10_keep 107 = .ok (.aload_n 0, 1) := by decide +kernel
theorem dX10_keep_108 : decode cX10_keep 108 = .ok (.getfield 92, 3) := by decide +kernel
theorem dX10_keep_111 : decode cX10_keep 111 = .ok (.iload_n 1, 1) := by decide +kernel
theorem dX10_keep_112 : decode cX10_keep 112 = .ok (.aload_n 0, 1) := by decide +kernel
theorem dX10_keep_113 : decode cX10_keep 113 = .ok (.getfield 7, 3) := by decide +kernel
theorem dX10_keep_116 : decode cX10_keep 116 = .ok (.iload_n 3, 1) := by decide +kernel
theorem dX10_keep_117 : decode cX10_keep 117 = .ok (.iaload, 1) := by decide +kernel
theorem dX10_keep_118 : decode cX10_keep 118 = .ok (.ifCond .ne 8, 3) := by decide +kernel
theorem dX10_keep_121 : decode cX10_keep 121 = .ok (.bipush (-15), 2) := by decide +kernel
theorem dX10_keep_123 : decode cX10_keep 123 = .ok (.goto 4, 3) := by decide +kernel
theorem dX10_keep_126 : decode cX10_keep 126 = .ok (.iload_n 3, 1) := by decide +kernel
theorem dX10_keep_127 : decode cX10_keep 127 = .ok (.iastore, 1) := by decide +kernel
theorem dX10_keep_128 : decode cX10_keep 128 = .ok (.iconst 0, 1) := by decide +kernel
theorem dX10_keep_129 : decode cX10_keep 129 = .ok (.istore 5, 2) := by decide +kernel
theorem dX10_keep_131 : decode cX10_keep 131 = .ok (.iload 5, 2) := by decide +kernel
theorem dX10_keep_133 : decode cX10_keep 133 = .ok (.aload_n 0, 1) := by decide +kernel
theorem dX10_keep_134 : decode cX10_keep 134 = .ok (.getfield 86, 3) := by decide +kernel
theorem dX10_keep_137 : decode cX10_keep 137 = .ok (.iload_n 1, 1) := by decide +kernel
theorem dX10_keep_138 : decode cX10_keep 138 = .ok (.iaload, 1) := by decide +kernel
theorem dX10_keep_139 : decode cX10_keep 139 = .ok (.if_icmp .ge 45, 3) := by decide +kernel
theorem dX10_keep_142 : decode cX10_keep 142 = .ok (.aload_n 0, 1) := by decide +kernel
theorem dX10_keep_143 : decode cX10_keep 143 = .ok (.getfield 95, 3) := by decide +kernel
theorem dX10_keep_146 : decode cX10_keep 146 = .ok (.bipush 60, 2) := by decide +kernel
theorem dX10_keep_148 : decode cX10_keep 148 = .ok (.iload_n 1, 1) := by decide +kernel
theorem dX10_keep_149 : decode cX10_keep 149 = .ok (.imul, 1) := by decide +kernel
theorem dX10_keep_150 : decode cX10_keep 150 = .ok (.iload 5, 2) := by decide +kernel
theorem dX10_keep_152 : decode cX10_keep 152 = .ok (.iadd, 1) := by decide +kernel
theorem dX10_keep_153 : decode cX10_keep 153 = .ok (.iload_n 2, 1) := by decide +kernel
theorem dX10_keep_154 : decode cX10_keep 154 = .ok (.iconst 3, 1) := by decide +kernel
theorem dX10_keep_155 : decode cX10_keep 155 = .ok (.if_icmp .ne 14, 3) := by decide +kernel
theorem dX10_keep_158 : decode cX10_keep 158 = .ok (.aload_n 0, 1) := by decide +kernel
theorem dX10_keep_159 : decode cX10_keep 159 = .ok (.getfield 40, 3) := by decide +kernel
theorem dX10_keep_162 : decode cX10_keep 162 = .ok (.iload 5, 2) := by decide +kernel
theorem dX10_keep_164 : decode cX10_keep 164 = .ok (.iaload, 1) := by decide +kernel
theorem dX10_keep_165 : decode cX10_keep 165 = .ok (.i2l, 1) := by decide +kernel
theorem dX10_keep_166 : decode cX10_keep 166 = .ok (.goto 11, 3) := by decide +kernel
theorem dX10_keep_169 : decode cX10_keep 169 = .ok (.aload_n 0, 1) := by decide +kernel
theorem dX10_keep_170 : decode cX10_keep 170 = .ok (.iload_n 3, 1) := by decide +kernel
theorem dX10_keep_171 : decode cX10_keep 171 = .ok (.iload 5, 2) := by decide +kernel
theorem dX10_keep_173 : decode cX10_keep 173 = .ok (.invokevirtual 128, 3) := by decide +kernel
theorem dX10_keep_176 : decode cX10_keep 176 = .ok (.i2l, 1) := by decide +kernel
theorem dX10_keep_177 : decode cX10_keep 177 = .ok (.lastore, 1) := by decide +kernel
theorem dX10_keep_178 : decode cX10_keep 178 = .ok (.iinc 5 1, 3) := by decide +kernel
theorem dX10_keep_181 : decode cX10_keep 181 = .ok (.goto (-50), 3) := by decide +kernel
theorem dX10_keep_184 : decode cX10_keep 184 = .ok (.iconst 0, 1) := by decide +kernel
theorem dX10_keep_185 : decode cX10_keep 185 = .ok (.ireturn, 1) := by decide +kernel
theorem dX10_make_0 : decode cX10_make 0 = .ok (.aload_n 0, 1) := by decide +kernel
theorem dX10_make_1 : decode cX10_make 1 = .ok (.iconst 0, 1) := by decide +kernel
theorem dX10_make_2 : decode cX10_make 2 = .ok (.putfield 102, 3) := by decide +kernel
theorem dX10_make_5 : decode cX10_make 5 = .ok (.iload_n 1, 1) := by decide +kernel
theorem dX10_make_6 : decode cX10_make 6 = .ok (.invokestatic 266, 3) := by decide +kernel
theorem dX10_make_9 : decode cX10_make 9 = .ok (.ifCond .eq 23, 3) := by decide +kernel
theorem dX10_make_12 : decode cX10_make 12 = .ok (.iload_n 2, 1) := by decide +kernel
theorem dX10_make_13 : decode cX10_make 13 = .ok (.i2l, 1) := by decide +kernel
theorem dX10_make_14 : decode cX10_make 14 = .ok (.ldc2_w 118, 3) := by decide +kernel
theorem dX10_make_17 : decode cX10_make 17 = .ok (.ldc2_w 158, 3) := by decide +kernel
theorem dX10_make_20 : decode cX10_make 20 = .ok (.invokestatic 113, 3) := by decide +kernel
theorem dX10_make_23 : decode cX10_make 23 = .ok (.ifCond .eq 9, 3) := by decide +kernel
theorem dX10_make_26 : decode cX10_make 26 = .ok (.iload_n 3, 1) := by decide +kernel
theorem dX10_make_27 : decode cX10_make 27 = .ok (.bipush 60, 2) := by decide +kernel
theorem dX10_make_29 : decode cX10_make 29 = .ok (.if_icmp .le 5, 3) := by decide +kernel
theorem dX10_make_32 : decode cX10_make 32 = .ok (.iconst (-1), 1) := by decide +kernel
theorem dX10_make_33 : decode cX10_make 33 = .ok (.ireturn, 1) := by decide +kernel
theorem dX10_make_34 : decode cX10_make 34 = .ok (.iload_n 3, 1) := by decide +kernel
theorem dX10_make_35 : decode cX10_make 35 = .ok (.ifCond .ge 6, 3) := by decide +kernel
theorem dX10_make_38 : decode cX10_make 38 = .ok (.bipush (-14), 2) := by decide +kernel
theorem dX10_make_40 : decode cX10_make 40 = .ok (.ireturn, 1) := by decide +kernel
theorem dX10_make_41 : decode cX10_make 41 = .ok (.aload_n 0, 1) := by decide +kernel
theorem dX10_make_42 : decode cX10_make 42 = .ok (.getfield 83, 3) := by decide +kernel
theorem dX10_make_45 : decode cX10_make 45 = .ok (.iload_n 1, 1) := by decide +kernel
theorem dX10_make_46 : decode cX10_make 46 = .ok (.iload_n 2, 1) := by decide +kernel
theorem dX10_make_47 : decode cX10_make 47 = .ok (.iastore, 1) := by decide +kernel
theorem dX10_make_48 : decode cX10_make 48 = .ok (.aload_n 0, 1) := by decide +kernel
theorem dX10_make_49 : decode cX10_make 49 = .ok (.getfield 86, 3) := by decide +kernel
theorem dX10_make_52 : decode cX10_make 52 = .ok (.iload_n 1, 1) := by decide +kernel
theorem dX10_make_53 : decode cX10_make 53 = .ok (.iload_n 3, 1) := by decide +kernel
theorem dX10_make_54 : decode cX10_make 54 = .ok (.iastore, 1) := by decide +kernel
theorem dX10_make_55 : decode cX10_make 55 = .ok (.iconst 0, 1) := by decide +kernel
theorem dX10_make_56 : decode cX10_make 56 = .ok (.istore 4, 2) := by decide +kernel
theorem dX10_make_58 : decode cX10_make 58 = .ok (.iload 4, 2) := by decide +kernel
theorem dX10_make_60 : decode cX10_make 60 = .ok (.iload_n 3, 1) := by decide +kernel
theorem dX10_make_61 : decode cX10_make 61 = .ok (.if_icmp .ge 22, 3) := by decide +kernel
theorem dX10_make_64 : decode cX10_make 64 = .ok (.aload_n 0, 1) := by decide +kernel
theorem dX10_make_65 : decode cX10_make 65 = .ok (.getfield 95, 3) := by decide +kernel
theorem dX10_make_68 : decode cX10_make 68 = .ok (.bipush 60, 2) := by decide +kernel
theorem dX10_make_70 : decode cX10_make 70 = .ok (.iload_n 1, 1) := by decide +kernel
theorem dX10_make_71 : decode cX10_make 71 = .ok (.imul, 1) := by decide +kernel
theorem dX10_make_72 : decode cX10_make 72 = .ok (.iload 4, 2) := by decide +kernel
theorem dX10_make_74 : decode cX10_make 74 = .ok (.iadd, 1) := by decide +kernel
theorem dX10_make_75 : decode cX10_make 75 = .ok (.lconst 0, 1) := by decide +kernel
theorem dX10_make_76 : decode cX10_make 76 = .ok (.lastore, 1) := by decide +kernel
theorem dX10_make_77 : decode cX10_make 77 = .ok (.iinc 4 1, 3) := by decide +kernel
theorem dX10_make_80 : decode cX10_make 80 = .ok (.goto (-22), 3) := by decide +kernel
theorem dX10_make_83 : decode cX10_make 83 = .ok (.iconst 0, 1) := by decide +kernel
theorem dX10_make_84 : decode cX10_make 84 = .ok (.ireturn, 1) := by decide +kernel
theorem dX10_element_0 : decode cX10_element 0 = .ok (.iload_n 1, 1) := by decide +kernel
theorem dX10_element_1 : decode cX10_element 1 = .ok (.invokestatic 266, 3) := by decide +kernel
theorem dX10_element_4 : decode cX10_element 4 = .ok (.ifCond .eq 35, 3) := by decide +kernel
theorem dX10_element_7 : decode cX10_element 7 = .ok (.aload_n 0, 1) := by decide +kernel
theorem dX10_element_8 : decode cX10_element 8 = .ok (.getfield 83, 3) := by decide +kernel
theorem dX10_element_11 : decode cX10_element 11 = .ok (.iload_n 1, 1) := by decide +kernel
theorem dX10_element_12 : decode cX10_element 12 = .ok (.iaload, 1) := by decide +kernel
theorem dX10_element_13 : decode cX10_element 13 = .ok (.iconst 2, 1) := by decide +kernel
theorem dX10_element_14 : decode cX10_element 14 = .ok (.if_icmp .le 25, 3) := by decide +kernel
theorem dX10_element_17 : decode cX10_element 17 = .ok (.iload_n 2, 1) := by decide +kernel
theorem dX10_element_18 : decode cX10_element 18 = .ok (.i2l, 1) := by decide +kernel
theorem dX10_element_19 : decode cX10_element 19 = .ok (.lconst 0, 1) := by decide +kernel
theorem dX10_element_20 : decode cX10_element 20 = .ok (.aload_n 0, 1) := by decide +kernel
theorem dX10_element_21 : decode cX10_element 21 = .ok (.getfield 86, 3) := by decide +kernel
theorem dX10_element_24 : decode cX10_element 24 = .ok (.iload_n 1, 1) := by decide +kernel
theorem dX10_element_25 : decode cX10_element 25 = .ok (.iaload, 1) := by decide +kernel
theorem dX10_element_26 : decode cX10_element 26 = .ok (.iconst 1, 1) := by decide +kernel
theorem dX10_element_27 : decode cX10_element 27 = .ok (.isub, 1) := by decide +kernel
theorem dX10_element_28 : decode cX10_element 28 = .ok (.i2l, 1) := by decide +kernel
theorem dX10_element_29 : decode cX10_element 29 = .ok (.invokestatic 113, 3) := by decide +kernel
theorem dX10_element_32 : decode cX10_element 32 = .ok (.ifCond .eq 7, 3) := by decide +kernel
theorem dX10_element_35 : decode cX10_element 35 = .ok (.iconst 1, 1) := by decide +kernel
theorem dX10_element_36 : decode cX10_element 36 = .ok (.goto 4, 3) := by decide +kernel
theorem dX10_element_39 : decode cX10_element 39 = .ok (.iconst 0, 1) := by decide +kernel
theorem dX10_element_40 : decode cX10_element 40 = .ok (.istore_n 3, 1) := by decide +kernel
theorem dX10_element_41 : decode cX10_element 41 = .ok (.aload_n 0, 1) := by decide +kernel
theorem dX10_element_42 : decode cX10_element 42 = .ok (.iload_n 1, 1) := by decide +kernel
theorem dX10_element_43 : decode cX10_element 43 = .ok (.invokestatic 266, 3) := by decide +kernel
theorem dX10_element_46 : decode cX10_element 46 = .ok (.ifCond .ne 7, 3) := by decide +kernel
theorem dX10_element_49 : decode cX10_element 49 = .ok (.iconst 1, 1) := by decide +kernel
theorem dX10_element_50 : decode cX10_element 50 = .ok (.goto 12, 3) := by decide +kernel
theorem dX10_element_53 : decode cX10_element 53 = .ok (.iload_n 3, 1) := by decide +kernel
theorem dX10_element_54 : decode cX10_element 54 = .ok (.ifCond .eq 7, 3) := by decide +kernel
theorem dX10_element_57 : decode cX10_element 57 = .ok (.iconst 0, 1) := by decide +kernel
theorem dX10_element_58 : decode cX10_element 58 = .ok (.goto 4, 3) := by decide +kernel
theorem dX10_element_61 : decode cX10_element 61 = .ok (.iconst 2, 1) := by decide +kernel
theorem dX10_element_62 : decode cX10_element 62 = .ok (.putfield 102, 3) := by decide +kernel
theorem dX10_element_65 : decode cX10_element 65 = .ok (.iload_n 3, 1) := by decide +kernel
theorem dX10_element_66 : decode cX10_element 66 = .ok (.ifCond .eq 17, 3) := by decide +kernel
theorem dX10_element_69 : decode cX10_element 69 = .ok (.aload_n 0, 1) := by decide +kernel
theorem dX10_element_70 : decode cX10_element 70 = .ok (.getfield 95, 3) := by decide +kernel
theorem dX10_element_73 : decode cX10_element 73 = .ok (.bipush 60, 2) := by decide +kernel
theorem dX10_element_75 : decode cX10_element 75 = .ok (.iload_n 1, 1) := by decide +kernel
theorem dX10_element_76 : decode cX10_element 76 = .ok (.imul, 1) := by decide +kernel
theorem dX10_element_77 : decode cX10_element 77 = .ok (.iload_n 2, 1) := by decide +kernel
theorem dX10_element_78 : decode cX10_element 78 = .ok (.iadd, 1) := by decide +kernel
theorem dX10_element_79 : decode cX10_element 79 = .ok (.laload, 1) := by decide +kernel
theorem dX10_element_80 : decode cX10_element 80 = .ok (.goto 4, 3) := by decide +kernel
theorem dX10_element_83 : decode cX10_element 83 = .ok (.lconst 0, 1) := by decide +kernel
theorem dX10_element_84 : decode cX10_element 84 = .ok (.lreturn, 1) := by decide +kernel
theorem dX10_hasPlaces_0 : decode cX10_hasPlaces 0 = .ok (.iload_n 3, 1) := by decide +kernel
theorem dX10_hasPlaces_1 : decode cX10_hasPlaces 1 = .ok (.ifCond .lt 33, 3) := by decide +kernel
theorem dX10_hasPlaces_4 : decode cX10_hasPlaces 4 = .ok (.iload_n 2, 1) := by decide +kernel
theorem dX10_hasPlaces_5 : decode cX10_hasPlaces 5 = .ok (.ifCond .lt 29, 3) := by decide +kernel
theorem dX10_hasPlaces_8 : decode cX10_hasPlaces 8 = .ok (.iload_n 2, 1) := by decide +kernel
theorem dX10_hasPlaces_9 : decode cX10_hasPlaces 9 = .ok (.aload_n 0, 1) := by decide +kernel
theorem dX10_hasPlaces_10 : decode cX10_hasPlaces 10 = .ok (.getfield 86, 3) := by decide +kernel
theorem dX10_hasPlaces_13 : decode cX10_hasPlaces 13 = .ok (.iload_n 1, 1) := by decide +kernel
theorem dX10_hasPlaces_14 : decode cX10_hasPlaces 14 = .ok (.iaload, 1) := by decide +kernel
theorem dX10_hasPlaces_15 : decode cX10_hasPlaces 15 = .ok (.if_icmp .gt 19, 3) := by decide +kernel
theorem dX10_hasPlaces_18 : decode cX10_hasPlaces 18 = .ok (.iload_n 3, 1) := by decide +kernel
theorem dX10_hasPlaces_19 : decode cX10_hasPlaces 19 = .ok (.aload_n 0, 1) := by decide +kernel
theorem dX10_hasPlaces_20 : decode cX10_hasPlaces 20 = .ok (.getfield 86, 3) := by decide +kernel
theorem dX10_hasPlaces_23 : decode cX10_hasPlaces 23 = .ok (.iload_n 1, 1) := by decide +kernel
theorem dX10_hasPlaces_24 : decode cX10_hasPlaces 24 = .ok (.iaload, 1) := by decide +kernel
theorem dX10_hasPlaces_25 : decode cX10_hasPlaces 25 = .ok (.iload_n 2, 1) := by decide +kernel
theorem dX10_hasPlaces_26 : decode cX10_hasPlaces 26 = .ok (.isub, 1) := by decide +kernel
theorem dX10_hasPlaces_27 : decode cX10_hasPlaces 27 = .ok (.if_icmp .gt 7, 3) := by decide +kernel
theorem dX10_hasPlaces_30 : decode cX10_hasPlaces 30 = .ok (.iconst 1, 1) := by decide +kernel
theorem dX10_hasPlaces_31 : decode cX10_hasPlaces 31 = .ok (.goto 4, 3) := by decide +kernel
theorem dX10_hasPlaces_34 : decode cX10_hasPlaces 34 = .ok (.iconst 0, 1) := by decide +kernel
theorem dX10_hasPlaces_35 : decode cX10_hasPlaces 35 = .ok (.ireturn, 1) := by decide +kernel
theorem dX10_copy_0 : decode cX10_copy 0 = .ok (.aload_n 0, 1) := by decide +kernel
theorem dX10_copy_1 : decode cX10_copy 1 = .ok (.iconst 0, 1) := by decide +kernel
theorem dX10_copy_2 : decode cX10_copy 2 = .ok (.putfield 102, 3) := by decide +kernel
theorem dX10_copy_5 : decode cX10_copy 5 = .ok (.iload_n 1, 1) := by decide +kernel
theorem dX10_copy_6 : decode cX10_copy 6 = .ok (.invokestatic 266, 3) := by decide +kernel
theorem dX10_copy_9 : decode cX10_copy 9 = .ok (.ifCond .eq 10, 3) := by decide +kernel
theorem dX10_copy_12 : decode cX10_copy 12 = .ok (.iload_n 3, 1) := by decide +kernel
theorem dX10_copy_13 : decode cX10_copy 13 = .ok (.invokestatic 266, 3) := by decide +kernel
theorem dX10_copy_16 : decode cX10_copy 16 = .ok (.ifCond .ne 5, 3) := by decide +kernel
theorem dX10_copy_19 : decode cX10_copy 19 = .ok (.iconst (-1), 1) := by decide +kernel
theorem dX10_copy_20 : decode cX10_copy 20 = .ok (.ireturn, 1) := by decide +kernel
theorem dX10_copy_21 : decode cX10_copy 21 = .ok (.aload_n 0, 1) := by decide +kernel
theorem dX10_copy_22 : decode cX10_copy 22 = .ok (.getfield 83, 3) := by decide +kernel
theorem dX10_copy_25 : decode cX10_copy 25 = .ok (.iload_n 1, 1) := by decide +kernel
theorem dX10_copy_26 : decode cX10_copy 26 = .ok (.iaload, 1) := by decide +kernel
theorem dX10_copy_27 : decode cX10_copy 27 = .ok (.ifCond .eq 12, 3) := by decide +kernel
theorem dX10_copy_30 : decode cX10_copy 30 = .ok (.aload_n 0, 1) := by decide +kernel
theorem dX10_copy_31 : decode cX10_copy 31 = .ok (.getfield 83, 3) := by decide +kernel
theorem dX10_copy_34 : decode cX10_copy 34 = .ok (.iload_n 3, 1) := by decide +kernel
theorem dX10_copy_35 : decode cX10_copy 35 = .ok (.iaload, 1) := by decide +kernel
theorem dX10_copy_36 : decode cX10_copy 36 = .ok (.ifCond .ne 6, 3) := by decide +kernel
theorem dX10_copy_39 : decode cX10_copy 39 = .ok (.bipush (-11), 2) := by decide +kernel
theorem dX10_copy_41 : decode cX10_copy 41 = .ok (.ireturn, 1) := by decide +kernel
theorem dX10_copy_42 : decode cX10_copy 42 = .ok (.aload_n 0, 1) := by decide +kernel
theorem dX10_copy_43 : decode cX10_copy 43 = .ok (.getfield 83, 3) := by decide +kernel
theorem dX10_copy_46 : decode cX10_copy 46 = .ok (.iload_n 1, 1) := by decide +kernel
theorem dX10_copy_47 : decode cX10_copy 47 = .ok (.iaload, 1) := by decide +kernel
theorem dX10_copy_48 : decode cX10_copy 48 = .ok (.iconst 3, 1) := by decide +kernel
theorem dX10_copy_49 : decode cX10_copy 49 = .ok (.if_icmp .lt 18, 3) := by decide +kernel
theorem dX10_copy_52 : decode cX10_copy 52 = .ok (.aload_n 0, 1) := by decide +kernel
theorem dX10_copy_53 : decode cX10_copy 53 = .ok (.getfield 83, 3) := by decide +kernel
theorem dX10_copy_56 : decode cX10_copy 56 = .ok (.iload_n 1, 1) := by decide +kernel
theorem dX10_copy_57 : decode cX10_copy 57 = .ok (.iaload, 1) := by decide +kernel
theorem dX10_copy_58 : decode cX10_copy 58 = .ok (.aload_n 0, 1) := by decide +kernel
theorem dX10_copy_59 : decode cX10_copy 59 = .ok (.getfield 83, 3) := by decide +kernel
theorem dX10_copy_62 : decode cX10_copy 62 = .ok (.iload_n 3, 1) := by decide +kernel
theorem dX10_copy_63 : decode cX10_copy 63 = .ok (.iaload, 1) := by decide +kernel
theorem dX10_copy_64 : decode cX10_copy 64 = .ok (.if_icmp .eq 6, 3) := by decide +kernel
theorem dX10_copy_67 : decode cX10_copy 67 = .ok (.bipush (-12), 2) := by decide +kernel
theorem dX10_copy_69 : decode cX10_copy 69 = .ok (.ireturn, 1) := by decide +kernel
theorem dX10_copy_70 : decode cX10_copy 70 = .ok (.aload_n 0, 1) := by decide +kernel
theorem dX10_copy_71 : decode cX10_copy 71 = .ok (.iload_n 1, 1) := by decide +kernel
theorem dX10_copy_72 : decode cX10_copy 72 = .ok (.iload_n 2, 1) := by decide +kernel
theorem dX10_copy_73 : decode cX10_copy 73 = .ok (.iload 5, 2) := by decide +kernel
theorem dX10_copy_75 : decode cX10_copy 75 = .ok (.invokevirtual 272, 3) := by decide +kernel
theorem dX10_copy_78 : decode cX10_copy 78 = .ok (.ifCond .eq 15, 3) := by decide +kernel
theorem dX10_copy_81 : decode cX10_copy 81 = .ok (.aload_n 0, 1) := by decide +kernel
theorem dX10_copy_82 : decode cX10_copy 82 = .ok (.iload_n 3, 1) := by decide +kernel
theorem dX10_copy_83 : decode cX10_copy 83 = .ok (.iload 4, 2) := by decide +kernel
theorem dX10_copy_85 : decode cX10_copy 85 = .ok (.iload 5, 2) := by decide +kernel
theorem dX10_copy_87 : decode cX10_copy 87 = .ok (.invokevirtual 272, 3) := by decide +kernel
theorem dX10_copy_90 : decode cX10_copy 90 = .ok (.ifCond .ne 6, 3) := by decide +kernel
theorem dX10_copy_93 : decode cX10_copy 93 = .ok (.bipush (-13), 2) := by decide +kernel
theorem dX10_copy_95 : decode cX10_copy 95 = .ok (.ireturn, 1) := by decide +kernel
theorem dX10_copy_96 : decode cX10_copy 96 = .ok (.iconst 0, 1) := by decide +kernel
theorem dX10_copy_97 : decode cX10_copy 97 = .ok (.istore 6, 2) := by decide +kernel
theorem dX10_copy_99 : decode cX10_copy 99 = .ok (.iload 6, 2) := by decide +kernel
theorem dX10_copy_101 : decode cX10_copy 101 = .ok (.iload 5, 2) := by decide +kernel
theorem dX10_copy_103 : decode cX10_copy 103 = .ok (.if_icmp .ge 30, 3) := by decide +kernel
theorem dX10_copy_106 : decode cX10_copy 106 = .ok (.aload_n 0, 1) := by decide +kernel
theorem dX10_copy_107 : decode cX10_copy 107 = .ok (.getfield 99, 3) := by decide +kernel
theorem dX10_copy_110 : decode cX10_copy 110 = .ok (.iload 6, 2) := by decide +kernel
theorem dX10_copy_112 : decode cX10_copy 112 = .ok (.aload_n 0, 1) := by decide +kernel
theorem dX10_copy_113 : decode cX10_copy 113 = .ok (.getfield 95, 3) := by decide +kernel
theorem dX10_copy_116 : decode cX10_copy 116 = .ok (.bipush 60, 2) := by decide +kernel
theorem dX10_copy_118 : decode cX10_copy 118 = .ok (.iload_n 1, 1) := by decide +kernel
theorem dX10_copy_119 : decode cX10_copy 119 = .ok (.imul, 1) := by decide +kernel
theorem dX10_copy_120 : decode cX10_copy 120 = .ok (.iload_n 2, 1) := by decide +kernel
theorem dX10_copy_121 : decode cX10_copy 121 = .ok (.iadd, 1) := by decide +kernel
theorem dX10_copy_122 : decode cX10_copy 122 = .ok (.iload 6, 2) := by decide +kernel
theorem dX10_copy_124 : decode cX10_copy 124 = .ok (.iadd, 1) := by decide +kernel
theorem dX10_copy_125 : decode cX10_copy 125 = .ok (.laload, 1) := by decide +kernel
theorem dX10_copy_126 : decode cX10_copy 126 = .ok (.lastore, 1) := by decide +kernel
theorem dX10_copy_127 : decode cX10_copy 127 = .ok (.iinc 6 1, 3) := by decide +kernel
theorem dX10_copy_130 : decode cX10_copy 130 = .ok (.goto (-31), 3) := by decide +kernel
theorem dX10_copy_133 : decode cX10_copy 133 = .ok (.iconst 0, 1) := by decide +kernel
theorem dX10_copy_134 : decode cX10_copy 134 = .ok (.istore 6, 2) := by decide +kernel
theorem dX10_copy_136 : decode cX10_copy 136 = .ok (.iload 6, 2) := by decide +kernel
theorem dX10_copy_138 : decode cX10_copy 138 = .ok (.iload 5, 2) := by decide +kernel
theorem dX10_copy_140 : decode cX10_copy 140 = .ok (.if_icmp .ge 31, 3) := by decide +kernel
theorem dX10_copy_143 : decode cX10_copy 143 = .ok (.aload_n 0, 1) := by decide +kernel
theorem dX10_copy_144 : decode cX10_copy 144 = .ok (.getfield 95, 3) := by decide +kernel
theorem dX10_copy_147 : decode cX10_copy 147 = .ok (.bipush 60, 2) := by decide +kernel
theorem dX10_copy_149 : decode cX10_copy 149 = .ok (.iload_n 3, 1) := by decide +kernel
theorem dX10_copy_150 : decode cX10_copy 150 = .ok (.imul, 1) := by decide +kernel
theorem dX10_copy_151 : decode cX10_copy 151 = .ok (.iload 4, 2) := by decide +kernel
theorem dX10_copy_153 : decode cX10_copy 153 = .ok (.iadd, 1) := by decide +kernel
theorem dX10_copy_154 : decode cX10_copy 154 = .ok (.iload 6, 2) := by decide +kernel
theorem dX10_copy_156 : decode cX10_copy 156 = .ok (.iadd, 1) := by decide +kernel
theorem dX10_copy_157 : decode cX10_copy 157 = .ok (.aload_n 0, 1) := by decide +kernel
theorem dX10_copy_158 : decode cX10_copy 158 = .ok (.getfield 99, 3) := by decide +kernel
theorem dX10_copy_161 : decode cX10_copy 161 = .ok (.iload 6, 2) := by decide +kernel
theorem dX10_copy_163 : decode cX10_copy 163 = .ok (.laload, 1) := by decide +kernel
theorem dX10_copy_164 : decode cX10_copy 164 = .ok (.lastore, 1) := by decide +kernel
theorem dX10_copy_165 : decode cX10_copy 165 = .ok (.iinc 6 1, 3) := by decide +kernel
theorem dX10_copy_168 : decode cX10_copy 168 = .ok (.goto (-32), 3) := by decide +kernel
theorem dX10_copy_171 : decode cX10_copy 171 = .ok (.iload 5, 2) := by decide +kernel
theorem dX10_copy_173 : decode cX10_copy 173 = .ok (.ireturn, 1) := by decide +kernel
theorem dX10_denied_0 : decode cX10_denied 0 = .ok (.iload_n 1, 1) := by decide +kernel
theorem dX10_denied_1 : decode cX10_denied 1 = .ok (.invokestatic 266, 3) := by decide +kernel
theorem dX10_denied_4 : decode cX10_denied 4 = .ok (.ifCond .ne 7, 3) := by decide +kernel
theorem dX10_denied_7 : decode cX10_denied 7 = .ok (.iconst (-1), 1) := by decide +kernel
theorem dX10_denied_8 : decode cX10_denied 8 = .ok (.goto 33, 3) := by decide +kernel
theorem dX10_denied_11 : decode cX10_denied 11 = .ok (.aload_n 0, 1) := by decide +kernel
theorem dX10_denied_12 : decode cX10_denied 12 = .ok (.getfield 83, 3) := by decide +kernel
theorem dX10_denied_15 : decode cX10_denied 15 = .ok (.iload_n 1, 1) := by decide +kernel
theorem dX10_denied_16 : decode cX10_denied 16 = .ok (.iaload, 1) := by decide +kernel
theorem dX10_denied_17 : decode cX10_denied 17 = .ok (.ifCond .ne 8, 3) := by decide +kernel
theorem dX10_denied_20 : decode cX10_denied 20 = .ok (.bipush (-11), 2) := by decide +kernel
theorem dX10_denied_22 : decode cX10_denied 22 = .ok (.goto 19, 3) := by decide +kernel
theorem dX10_denied_25 : decode cX10_denied 25 = .ok (.aload_n 0, 1) := by decide +kernel
theorem dX10_denied_26 : decode cX10_denied 26 = .ok (.getfield 83, 3) := by decide +kernel
theorem dX10_denied_29 : decode cX10_denied 29 = .ok (.iload_n 1, 1) := by decide +kernel
theorem dX10_denied_30 : decode cX10_denied 30 = .ok (.iaload, 1) := by decide +kernel
theorem dX10_denied_31 : decode cX10_denied 31 = .ok (.iconst 1, 1) := by decide +kernel
theorem dX10_denied_32 : decode cX10_denied 32 = .ok (.if_icmp .le 8, 3) := by decide +kernel
theorem dX10_denied_35 : decode cX10_denied 35 = .ok (.bipush (-12), 2) := by decide +kernel
theorem dX10_denied_37 : decode cX10_denied 37 = .ok (.goto 4, 3) := by decide +kernel
theorem dX10_denied_40 : decode cX10_denied 40 = .ok (.iconst 0, 1) := by decide +kernel
theorem dX10_denied_41 : decode cX10_denied 41 = .ok (.ireturn, 1) := by decide +kernel
theorem dX10_weight_0 : decode cX10_weight 0 = .ok (.aload_n 0, 1) := by decide +kernel
theorem dX10_weight_1 : decode cX10_weight 1 = .ok (.iconst 0, 1) := by decide +kernel
theorem dX10_weight_2 : decode cX10_weight 2 = .ok (.putfield 102, 3) := by decide +kernel
theorem dX10_weight_5 : decode cX10_weight 5 = .ok (.aload_n 0, 1) := by decide +kernel
theorem dX10_weight_6 : decode cX10_weight 6 = .ok (.iload_n 1, 1) := by decide +kernel
theorem dX10_weight_7 : decode cX10_weight 7 = .ok (.invokevirtual 275, 3) := by decide +kernel
theorem dX10_weight_10 : decode cX10_weight 10 = .ok (.istore_n 2, 1) := by decide +kernel
theorem dX10_weight_11 : decode cX10_weight 11 = .ok (.iload_n 2, 1) := by decide +kernel
theorem dX10_weight_12 : decode cX10_weight 12 = .ok (.ifCond .ge 7, 3) := by decide +kernel
theorem dX10_weight_15 : decode cX10_weight 15 = .ok (.iload_n 2, 1) := by decide +kernel
theorem dX10_weight_16 : decode cX10_weight 16 = .ok (.goto 9, 3) := by decide +kernel
theorem dX10_weight_19 : decode cX10_weight 19 = .ok (.aload_n 0, 1) := by decide +kernel
theorem dX10_weight_20 : decode cX10_weight 20 = .ok (.getfield 89, 3) := by decide +kernel
theorem dX10_weight_23 : decode cX10_weight 23 = .ok (.iload_n 1, 1) := by decide +kernel
theorem dX10_weight_24 : decode cX10_weight 24 = .ok (.iaload, 1) := by decide +kernel
theorem dX10_weight_25 : decode cX10_weight 25 = .ok (.ireturn, 1) := by decide +kernel
theorem dX10_toss_0 : decode cX10_toss 0 = .ok (.aload_n 0, 1) := by decide +kernel
theorem dX10_toss_1 : decode cX10_toss 1 = .ok (.iconst 0, 1) := by decide +kernel
theorem dX10_toss_2 : decode cX10_toss 2 = .ok (.putfield 102, 3) := by decide +kernel
theorem dX10_toss_5 : decode cX10_toss 5 = .ok (.aload_n 0, 1) := by decide +kernel
theorem dX10_toss_6 : decode cX10_toss 6 = .ok (.iload_n 1, 1) := by decide +kernel
theorem dX10_toss_7 : decode cX10_toss 7 = .ok (.invokevirtual 275, 3) := by decide +kernel
theorem dX10_toss_10 : decode cX10_toss 10 = .ok (.istore_n 2, 1) := by decide +kernel
theorem dX10_toss_11 : decode cX10_toss 11 = .ok (.iload_n 2, 1) := by decide +kernel
theorem dX10_toss_12 : decode cX10_toss 12 = .ok (.ifCond .ge 7, 3) := by decide +kernel
theorem dX10_toss_15 : decode cX10_toss 15 = .ok (.iload_n 2, 1) := by decide +kernel
theorem dX10_toss_16 : decode cX10_toss 16 = .ok (.goto 9, 3) := by decide +kernel
theorem dX10_toss_19 : decode cX10_toss 19 = .ok (.aload_n 0, 1) := by decide +kernel
theorem dX10_toss_20 : decode cX10_toss 20 = .ok (.getfield 92, 3) := by decide +kernel
theorem dX10_toss_23 : decode cX10_toss 23 = .ok (.iload_n 1, 1) := by decide +kernel
theorem dX10_toss_24 : decode cX10_toss 24 = .ok (.iaload, 1) := by decide +kernel
theorem dX10_toss_25 : decode cX10_toss 25 = .ok (.ireturn, 1) := by decide +kernel
