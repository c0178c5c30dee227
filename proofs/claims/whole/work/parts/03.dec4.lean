theorem dX8_mark_120 : decode cX8_mark 120 = .ok (.putfield 199, 3) := by decide +kernel
theorem dX8_mark_123 : decode cX8_mark 123 = .ok (.iload 5, 2) := by decide +kernel
theorem dX8_mark_125 : decode cX8_mark 125 = .ok (.ireturn, 1) := by decide +kernel
theorem dX8_mark_126 : decode cX8_mark 126 = .ok (.aload_n 0, 1) := by decide +kernel
theorem dX8_mark_127 : decode cX8_mark 127 = .ok (.dup, 1) := by decide +kernel
theorem dX8_mark_128 : decode cX8_mark 128 = .ok (.getfield 199, 3) := by decide +kernel
theorem dX8_mark_131 : decode cX8_mark 131 = .ok (.ldc2_w 207, 3) := by decide +kernel
theorem dX8_mark_134 : decode cX8_mark 134 = .ok (.ladd, 1) := by decide +kernel
theorem dX8_mark_135 : decode cX8_mark 135 = .ok (.putfield 199, 3) := by decide +kernel
theorem dX8_mark_138 : decode cX8_mark 138 = .ok (.iconst 2, 1) := by decide +kernel
theorem dX8_mark_139 : decode cX8_mark 139 = .ok (.iload 4, 2) := by decide +kernel
theorem dX8_mark_141 : decode cX8_mark 141 = .ok (.imul, 1) := by decide +kernel
theorem dX8_mark_142 : decode cX8_mark 142 = .ok (.ireturn, 1) := by decide +kernel
theorem dX8_mark_143 : decode cX8_mark 143 = .ok (.aload_n 0, 1) := by decide +kernel
theorem dX8_mark_144 : decode cX8_mark 144 = .ok (.dup, 1) := by decide +kernel
theorem dX8_mark_145 : decode cX8_mark 145 = .ok (.getfield 199, 3) := by decide +kernel
theorem dX8_mark_148 : decode cX8_mark 148 = .ok (.ldc2_w 209, 3) := by decide +kernel
theorem dX8_mark_151 : decode cX8_mark 151 = .ok (.ladd, 1) := by decide +kernel
theorem dX8_mark_152 : decode cX8_mark 152 = .ok (.putfield 199, 3) := by decide +kernel
theorem dX8_mark_155 : decode cX8_mark 155 = .ok (.iload 5, 2) := by decide +kernel
theorem dX8_mark_157 : decode cX8_mark 157 = .ok (.iload_n 2, 1) := by decide +kernel
theorem dX8_mark_158 : decode cX8_mark 158 = .ok (.iadd, 1) := by decide +kernel
theorem dX8_mark_159 : decode cX8_mark 159 = .ok (.ireturn, 1) := by decide +kernel
theorem dX8_mark_160 : decode cX8_mark 160 = .ok (.aload_n 0, 1) := by decide +kernel
theorem dX8_mark_161 : decode cX8_mark 161 = .ok (.dup, 1) := by decide +kernel
theorem dX8_mark_162 : decode cX8_mark 162 = .ok (.getfield 199, 3) := by decide +kernel
theorem dX8_mark_165 : decode cX8_mark 165 = .ok (.ldc2_w 211, 3) := by decide +kernel
theorem dX8_mark_168 : decode cX8_mark 168 = .ok (.ladd, 1) := by decide +kernel
theorem dX8_mark_169 : decode cX8_mark 169 = .ok (.putfield 199, 3) := by decide +kernel
theorem dX8_mark_172 : decode cX8_mark 172 = .ok (.iload_n 3, 1) := by decide +kernel
theorem dX8_mark_173 : decode cX8_mark 173 = .ok (.aload_n 0, 1) := by decide +kernel
theorem dX8_mark_174 : decode cX8_mark 174 = .ok (.getfield 23, 3) := by decide +kernel
theorem dX8_mark_177 : decode cX8_mark 177 = .ok (.iconst 0, 1) := by decide +kernel
theorem dX8_mark_178 : decode cX8_mark 178 = .ok (.iaload, 1) := by decide +kernel
theorem dX8_mark_179 : decode cX8_mark 179 = .ok (.iadd, 1) := by decide +kernel
theorem dX8_mark_180 : decode cX8_mark 180 = .ok (.ireturn, 1) := by decide +kernel
theorem dX8_mark_181 : decode cX8_mark 181 = .ok (.aload_n 0, 1) := by decide +kernel
theorem dX8_mark_182 : decode cX8_mark 182 = .ok (.dup, 1) := by decide +kernel
theorem dX8_mark_183 : decode cX8_mark 183 = .ok (.getfield 199, 3) := by decide +kernel
theorem dX8_mark_186 : decode cX8_mark 186 = .ok (.lconst 1, 1) := by decide +kernel
theorem dX8_mark_187 : decode cX8_mark 187 = .ok (.ladd, 1) := by decide +kernel
theorem dX8_mark_188 : decode cX8_mark 188 = .ok (.putfield 199, 3) := by decide +kernel
theorem dX8_mark_191 : decode cX8_mark 191 = .ok (.iload_n 3, 1) := by decide +kernel
theorem dX8_mark_192 : decode cX8_mark 192 = .ok (.ireturn, 1) := by decide +kernel
theorem dX8_keep_0 : decode cX8_keep 0 = .ok (.iload_n 1, 1) := by decide +kernel
theorem dX8_keep_1 : decode cX8_keep 1 = .ok (.iconst 0, 1) := by decide +kernel
theorem dX8_keep_2 : decode cX8_keep 2 = .ok (.iconst 1, 1) := by decide +kernel
theorem dX8_keep_3 : decode cX8_keep 3 = .ok (.invokestatic 60, 3) := by decide +kernel
theorem dX8_keep_6 : decode cX8_keep 6 = .ok (.ifCond .ne 5, 3) := by decide +kernel
theorem dX8_keep_9 : decode cX8_keep 9 = .ok (.iconst (-1), 1) := by decide +kernel
theorem dX8_keep_10 : decode cX8_keep 10 = .ok (.ireturn, 1) := by decide +kernel
theorem dX8_keep_11 : decode cX8_keep 11 = .ok (.iconst 0, 1) := by decide +kernel
theorem dX8_keep_12 : decode cX8_keep 12 = .ok (.istore_n 2, 1) := by decide +kernel
theorem dX8_keep_13 : decode cX8_keep 13 = .ok (.iload_n 2, 1) := by decide +kernel
theorem dX8_keep_14 : decode cX8_keep 14 = .ok (.sipush 1233, 3) := by decide +kernel
theorem dX8_keep_17 : decode cX8_keep 17 = .ok (.if_icmp .ge 27, 3) := by decide +kernel
theorem dX8_keep_20 : decode cX8_keep 20 = .ok (.aload_n 0, 1) := by decide +kernel
theorem dX8_keep_21 : decode cX8_keep 21 = .ok (.getfield 26, 3) := by decide +kernel
theorem dX8_keep_24 : decode cX8_keep 24 = .ok (.sipush 1233, 3) := by decide +kernel
theorem dX8_keep_27 : decode cX8_keep 27 = .ok (.iload_n 1, 1) := by decide +kernel
theorem dX8_keep_28 : decode cX8_keep 28 = .ok (.imul, 1) := by decide +kernel
theorem dX8_keep_29 : decode cX8_keep 29 = .ok (.iload_n 2, 1) := by decide +kernel
theorem dX8_keep_30 : decode cX8_keep 30 = .ok (.iadd, 1) := by decide +kernel
theorem dX8_keep_31 : decode cX8_keep 31 = .ok (.aload_n 0, 1) := by decide +kernel
theorem dX8_keep_32 : decode cX8_keep 32 = .ok (.getfield 23, 3) := by decide +kernel
theorem dX8_keep_35 : decode cX8_keep 35 = .ok (.iload_n 2, 1) := by decide +kernel
theorem dX8_keep_36 : decode cX8_keep 36 = .ok (.iaload, 1) := by decide +kernel
theorem dX8_keep_37 : decode cX8_keep 37 = .ok (.iastore, 1) := by decide +kernel
theorem dX8_keep_38 : decode cX8_keep 38 = .ok (.iinc 2 1, 3) := by decide +kernel
theorem dX8_keep_41 : decode cX8_keep 41 = .ok (.goto (-28), 3) := by decide +kernel
theorem dX8_keep_44 : decode cX8_keep 44 = .ok (.aload_n 0, 1) := by decide +kernel
theorem dX8_keep_45 : decode cX8_keep 45 = .ok (.getfield 29, 3) := by decide +kernel
theorem dX8_keep_48 : decode cX8_keep 48 = .ok (.iload_n 1, 1) := by decide +kernel
theorem dX8_keep_49 : decode cX8_keep 49 = .ok (.iconst 1, 1) := by decide +kernel
theorem dX8_keep_50 : decode cX8_keep 50 = .ok (.bastore, 1) := by decide +kernel
theorem dX8_keep_51 : decode cX8_keep 51 = .ok (.aload_n 0, 1) := by decide +kernel
theorem dX8_keep_52 : decode cX8_keep 52 = .ok (.getfield 23, 3) := by decide +kernel
theorem dX8_keep_55 : decode cX8_keep 55 = .ok (.iconst 0, 1) := by decide +kernel
theorem dX8_keep_56 : decode cX8_keep 56 = .ok (.iaload, 1) := by decide +kernel
theorem dX8_keep_57 : decode cX8_keep 57 = .ok (.ireturn, 1) := by decide +kernel
theorem dX8_back_0 : decode cX8_back 0 = .ok (.iload_n 1, 1) := by decide +kernel
theorem dX8_back_1 : decode cX8_back 1 = .ok (.iconst 0, 1) := by decide +kernel
theorem dX8_back_2 : decode cX8_back 2 = .ok (.iconst 1, 1) := by decide +kernel
theorem dX8_back_3 : decode cX8_back 3 = .ok (.invokestatic 60, 3) := by decide +kernel
theorem dX8_back_6 : decode cX8_back 6 = .ok (.ifCond .ne 5, 3) := by decide +kernel
theorem dX8_back_9 : decode cX8_back 9 = .ok (.iconst (-1), 1) := by decide +kernel
theorem dX8_back_10 : decode cX8_back 10 = .ok (.ireturn, 1) := by decide +kernel
theorem dX8_back_11 : decode cX8_back 11 = .ok (.aload_n 0, 1) := by decide +kernel
theorem dX8_back_12 : decode cX8_back 12 = .ok (.getfield 29, 3) := by decide +kernel
theorem dX8_back_15 : decode cX8_back 15 = .ok (.iload_n 1, 1) := by decide +kernel
theorem dX8_back_16 : decode cX8_back 16 = .ok (.baload, 1) := by decide +kernel
theorem dX8_back_17 : decode cX8_back 17 = .ok (.ifCond .ne 6, 3) := by decide +kernel
theorem dX8_back_20 : decode cX8_back 20 = .ok (.bipush (-2), 2) := by decide +kernel
theorem dX8_back_22 : decode cX8_back 22 = .ok (.ireturn, 1) := by decide +kernel
theorem dX8_back_23 : decode cX8_back 23 = .ok (.iconst 0, 1) := by decide +kernel
theorem dX8_back_24 : decode cX8_back 24 = .ok (.istore_n 2, 1) := by decide +kernel
theorem dX8_back_25 : decode cX8_back 25 = .ok (.iload_n 2, 1) := by decide +kernel
theorem dX8_back_26 : decode cX8_back 26 = .ok (.sipush 1233, 3) := by decide +kernel
theorem dX8_back_29 : decode cX8_back 29 = .ok (.if_icmp .ge 27, 3) := by decide +kernel
theorem dX8_back_32 : decode cX8_back 32 = .ok (.aload_n 0, 1) := by decide +kernel
theorem dX8_back_33 : decode cX8_back 33 = .ok (.getfield 23, 3) := by decide +kernel
theorem dX8_back_36 : decode cX8_back 36 = .ok (.iload_n 2, 1) := by decide +kernel
theorem dX8_back_37 : decode cX8_back 37 = .ok (.aload_n 0, 1) := by decide +kernel
theorem dX8_back_38 : decode cX8_back 38 = .ok (.getfield 26, 3) := by decide +kernel
theorem dX8_back_41 : decode cX8_back 41 = .ok (.sipush 1233, 3) := by decide +kernel
theorem dX8_back_44 : decode cX8_back 44 = .ok (.iload_n 1, 1) := by decide +kernel
theorem dX8_back_45 : decode cX8_back 45 = .ok (.imul, 1) := by decide +kernel
theorem dX8_back_46 : decode cX8_back 46 = .ok (.iload_n 2, 1) := by decide +kernel
theorem dX8_back_47 : decode cX8_back 47 = .ok (.iadd, 1) := by decide +kernel
theorem dX8_back_48 : decode cX8_back 48 = .ok (.iaload, 1) := by decide +kernel
theorem dX8_back_49 : decode cX8_back 49 = .ok (.iastore, 1) := by decide +kernel
theorem dX8_back_50 : decode cX8_back 50 = .ok (.iinc 2 1, 3) := by decide +kernel
theorem dX8_back_53 : decode cX8_back 53 = .ok (.goto (-28), 3) := by decide +kernel
theorem dX8_back_56 : decode cX8_back 56 = .ok (.aload_n 0, 1) := by decide +kernel
theorem dX8_back_57 : decode cX8_back 57 = .ok (.getfield 23, 3) := by decide +kernel
theorem dX8_back_60 : decode cX8_back 60 = .ok (.iconst 0, 1) := by decide +kernel
theorem dX8_back_61 : decode cX8_back 61 = .ok (.iaload, 1) := by decide +kernel
theorem dX8_back_62 : decode cX8_back 62 = .ok (.ireturn, 1) := by decide +kernel
theorem dX8_count_0 : decode cX8_count 0 = .ok (.iload_n 1, 1) := by decide +kernel
theorem dX8_count_1 : decode cX8_count 1 = .ok (.tableswitch 72 0 5 #[39, 44, 49, 54, 59, 67], 39) := by decide +kernel
theorem dX8_count_40 : decode cX8_count 40 = .ok (.aload_n 0, 1) := by decide +kernel
theorem dX8_count_41 : decode cX8_count 41 = .ok (.getfield 57, 3) := by decide +kernel
theorem dX8_count_44 : decode cX8_count 44 = .ok (.ireturn, 1) := by decide +kernel
theorem dX8_count_45 : decode cX8_count 45 = .ok (.aload_n 0, 1) := by decide +kernel
theorem dX8_count_46 : decode cX8_count 46 = .ok (.getfield 19, 3) := by decide +kernel
theorem dX8_count_49 : decode cX8_count 49 = .ok (.ireturn, 1) := by decide +kernel
theorem dX8_count_50 : decode cX8_count 50 = .ok (.aload_n 0, 1) := by decide +kernel
theorem dX8_count_51 : decode cX8_count 51 = .ok (.getfield 125, 3) := by decide +kernel
theorem dX8_count_54 : decode cX8_count 54 = .ok (.ireturn, 1) := by decide +kernel
theorem dX8_count_55 : decode cX8_count 55 = .ok (.aload_n 0, 1) := by decide +kernel
theorem dX8_count_56 : decode cX8_count 56 = .ok (.getfield 128, 3) := by decide +kernel
theorem dX8_count_59 : decode cX8_count 59 = .ok (.ireturn, 1) := by decide +kernel
theorem dX8_count_60 : decode cX8_count 60 = .ok (.aload_n 0, 1) := by decide +kernel
theorem dX8_count_61 : decode cX8_count 61 = .ok (.getfield 23, 3) := by decide +kernel
theorem dX8_count_64 : decode cX8_count 64 = .ok (.bipush 112, 2) := by decide +kernel
theorem dX8_count_66 : decode cX8_count 66 = .ok (.iaload, 1) := by decide +kernel
theorem dX8_count_67 : decode cX8_count 67 = .ok (.ireturn, 1) := by decide +kernel
theorem dX8_count_68 : decode cX8_count 68 = .ok (.aload_n 0, 1) := by decide +kernel
theorem dX8_count_69 : decode cX8_count 69 = .ok (.getfield 64, 3) := by decide +kernel
theorem dX8_count_72 : decode cX8_count 72 = .ok (.ireturn, 1) := by decide +kernel
theorem dX8_count_73 : decode cX8_count 73 = .ok (.iconst (-1), 1) := by decide +kernel
theorem dX8_count_74 : decode cX8_count 74 = .ok (.ireturn, 1) := by decide +kernel
theorem dX8_trace_0 : decode cX8_trace 0 = .ok (.aload_n 0, 1) := by decide +kernel
theorem dX8_trace_1 : decode cX8_trace 1 = .ok (.getfield 199, 3) := by decide +kernel
theorem dX8_trace_4 : decode cX8_trace 4 = .ok (.lreturn, 1) := by decide +kernel
theorem dJ6_bitCount_0f7a4_0 : decode cJ6_bitCount_0f7a4 0 = .ok (.iload_n 0, 1) := by decide +kernel
theorem dJ6_bitCount_0f7a4_1 : decode cJ6_bitCount_0f7a4 1 = .ok (.iload_n 0, 1) := by decide +kernel
theorem dJ6_bitCount_0f7a4_2 : decode cJ6_bitCount_0f7a4 2 = .ok (.iconst 1, 1) := by decide +kernel
theorem dJ6_bitCount_0f7a4_3 : decode cJ6_bitCount_0f7a4 3 = .ok (.iushr, 1) := by decide +kernel
theorem dJ6_bitCount_0f7a4_4 : decode cJ6_bitCount_0f7a4 4 = .ok (.ldc_w 265, 3) := by decide +kernel
theorem dJ6_bitCount_0f7a4_7 : decode cJ6_bitCount_0f7a4 7 = .ok (.iand, 1) := by decide +kernel
theorem dJ6_bitCount_0f7a4_8 : decode cJ6_bitCount_0f7a4 8 = .ok (.isub, 1) := by decide +kernel
theorem dJ6_bitCount_0f7a4_9 : decode cJ6_bitCount_0f7a4 9 = .ok (.istore_n 0, 1) := by decide +kernel
theorem dJ6_bitCount_0f7a4_10 : decode cJ6_bitCount_0f7a4 10 = .ok (.iload_n 0, 1) := by decide +kernel
theorem dJ6_bitCount_0f7a4_11 : decode cJ6_bitCount_0f7a4 11 = .ok (.ldc_w 266, 3) := by decide +kernel
theorem dJ6_bitCount_0f7a4_14 : decode cJ6_bitCount_0f7a4 14 = .ok (.iand, 1) := by decide +kernel
theorem dJ6_bitCount_0f7a4_15 : decode cJ6_bitCount_0f7a4 15 = .ok (.iload_n 0, 1) := by decide +kernel
theorem dJ6_bitCount_0f7a4_16 : decode cJ6_bitCount_0f7a4 16 = .ok (.iconst 2, 1) := by decide +kernel
theorem dJ6_bitCount_0f7a4_17 : decode cJ6_bitCount_0f7a4 17 = .ok (.iushr, 1) := by decide +kernel
theorem dJ6_bitCount_0f7a4_18 : decode cJ6_bitCount_0f7a4 18 = .ok (.ldc_w 266, 3) := by decide +kernel
theorem dJ6_bitCount_0f7a4_21 : decode cJ6_bitCount_0f7a4 21 = .ok (.iand, 1) := by decide +kernel
theorem dJ6_bitCount_0f7a4_22 : decode cJ6_bitCount_0f7a4 22 = .ok (.iadd, 1) := by decide +kernel
theorem dJ6_bitCount_0f7a4_23 : decode cJ6_bitCount_0f7a4 23 = .ok (.istore_n 0, 1) := by decide +kernel
theorem dJ6_bitCount_0f7a4_24 : decode cJ6_bitCount_0f7a4 24 = .ok (.iload_n 0, 1) := by decide +kernel
theorem dJ6_bitCount_0f7a4_25 : decode cJ6_bitCount_0f7a4 25 = .ok (.iload_n 0, 1) := by decide +kernel
theorem dJ6_bitCount_0f7a4_26 : decode cJ6_bitCount_0f7a4 26 = .ok (.iconst 4, 1) := by decide +kernel
theorem dJ6_bitCount_0f7a4_27 : decode cJ6_bitCount_0f7a4 27 = .ok (.iushr, 1) := by decide +kernel
theorem dJ6_bitCount_0f7a4_28 : decode cJ6_bitCount_0f7a4 28 = .ok (.iadd, 1) := by decide +kernel
theorem dJ6_bitCount_0f7a4_29 : decode cJ6_bitCount_0f7a4 29 = .ok (.ldc_w 267, 3) := by decide +kernel
theorem dJ6_bitCount_0f7a4_32 : decode cJ6_bitCount_0f7a4 32 = .ok (.iand, 1) := by decide +kernel
theorem dJ6_bitCount_0f7a4_33 : decode cJ6_bitCount_0f7a4 33 = .ok (.istore_n 0, 1) := by decide +kernel
theorem dJ6_bitCount_0f7a4_34 : decode cJ6_bitCount_0f7a4 34 = .ok (.iload_n 0, 1) := by decide +kernel
theorem dJ6_bitCount_0f7a4_35 : decode cJ6_bitCount_0f7a4 35 = .ok (.iload_n 0, 1) := by decide +kernel
theorem dJ6_bitCount_0f7a4_36 : decode cJ6_bitCount_0f7a4 36 = .ok (.bipush 8, 2) := by decide +kernel
theorem dJ6_bitCount_0f7a4_38 : decode cJ6_bitCount_0f7a4 38 = .ok (.iushr, 1) := by decide +kernel
theorem dJ6_bitCount_0f7a4_39 : decode cJ6_bitCount_0f7a4 39 = .ok (.iadd, 1) := by decide +kernel
theorem dJ6_bitCount_0f7a4_40 : decode cJ6_bitCount_0f7a4 40 = .ok (.istore_n 0, 1) := by decide +kernel
theorem dJ6_bitCount_0f7a4_41 : decode cJ6_bitCount_0f7a4 41 = .ok (.iload_n 0, 1) := by decide +kernel
theorem dJ6_bitCount_0f7a4_42 : decode cJ6_bitCount_0f7a4 42 = .ok (.iload_n 0, 1) := by decide +kernel
theorem dJ6_bitCount_0f7a4_43 : decode cJ6_bitCount_0f7a4 43 = .ok (.bipush 16, 2) := by decide +kernel
theorem dJ6_bitCount_0f7a4_45 : decode cJ6_bitCount_0f7a4 45 = .ok (.iushr, 1) := by decide +kernel
theorem dJ6_bitCount_0f7a4_46 : decode cJ6_bitCount_0f7a4 46 = .ok (.iadd, 1) := by decide +kernel
theorem dJ6_bitCount_0f7a4_47 : decode cJ6_bitCount_0f7a4 47 = .ok (.istore_n 0, 1) := by decide +kernel
theorem dJ6_bitCount_0f7a4_48 : decode cJ6_bitCount_0f7a4 48 = .ok (.iload_n 0, 1) := by decide +kernel
theorem dJ6_bitCount_0f7a4_49 : decode cJ6_bitCount_0f7a4 49 = .ok (.bipush 63, 2) := by decide +kernel
theorem dJ6_bitCount_0f7a4_51 : decode cJ6_bitCount_0f7a4 51 = .ok (.iand, 1) := by decide +kernel
theorem dJ6_bitCount_0f7a4_52 : decode cJ6_bitCount_0f7a4 52 = .ok (.ireturn, 1) := by decide +kernel
theorem dJ9_max_7cf53_0 : decode cJ9_max_7cf53 0 = .ok (.iload_n 0, 1) := by decide +kernel
theorem dJ9_max_7cf53_1 : decode cJ9_max_7cf53 1 = .ok (.iload_n 1, 1) := by decide +kernel
theorem dJ9_max_7cf53_2 : decode cJ9_max_7cf53 2 = .ok (.if_icmp .lt 7, 3) := by decide +kernel
theorem dJ9_max_7cf53_5 : decode cJ9_max_7cf53 5 = .ok (.iload_n 0, 1) := by decide +kernel
theorem dJ9_max_7cf53_6 : decode cJ9_max_7cf53 6 = .ok (.goto 4, 3) := by decide +kernel
theorem dJ9_max_7cf53_9 : decode cJ9_max_7cf53 9 = .ok (.iload_n 1, 1) := by decide +kernel
theorem dJ9_max_7cf53_10 : decode cJ9_max_7cf53 10 = .ok (.ireturn, 1) := by decide +kernel
theorem dJ9_min_7cf53_0 : decode cJ9_min_7cf53 0 = .ok (.iload_n 0, 1) := by decide +kernel
theorem dJ9_min_7cf53_1 : decode cJ9_min_7cf53 1 = .ok (.iload_n 1, 1) := by decide +kernel
theorem dJ9_min_7cf53_2 : decode cJ9_min_7cf53 2 = .ok (.if_icmp .gt 7, 3) := by decide +kernel
theorem dJ9_min_7cf53_5 : decode cJ9_min_7cf53 5 = .ok (.iload_n 0, 1) := by decide +kernel
theorem dJ9_min_7cf53_6 : decode cJ9_min_7cf53 6 = .ok (.goto 4, 3) := by decide +kernel
theorem dJ9_min_7cf53_9 : decode cJ9_min_7cf53 9 = .ok (.iload_n 1, 1) := by decide +kernel
theorem dJ9_min_7cf53_10 : decode cJ9_min_7cf53 10 = .ok (.ireturn, 1) := by decide +kernel
theorem dJ7_fill_53178_0 : decode cJ7_fill_53178 0 = .ok (.iconst 0, 1) := by decide +kernel
theorem dJ7_fill_53178_1 : decode cJ7_fill_53178 1 = .ok (.istore_n 2, 1) := by decide +kernel
theorem dJ7_fill_53178_2 : decode cJ7_fill_53178 2 = .ok (.aload_n 0, 1) := by decide +kernel
theorem dJ7_fill_53178_3 : decode cJ7_fill_53178 3 = .ok (.arraylength, 1) := by decide +kernel
theorem dJ7_fill_53178_4 : decode cJ7_fill_53178 4 = .ok (.istore_n 3, 1) := by decide +kernel
theorem dJ7_fill_53178_5 : decode cJ7_fill_53178 5 = .ok (.iload_n 2, 1) := by decide +kernel
theorem dJ7_fill_53178_6 : decode cJ7_fill_53178 6 = .ok (.iload_n 3, 1) := by decide +kernel
theorem dJ7_fill_53178_7 : decode cJ7_fill_53178 7 = .ok (.if_icmp .ge 13, 3) := by decide +kernel
theorem dJ7_fill_53178_10 : decode cJ7_fill_53178 10 = .ok (.aload_n 0, 1) := by decide +kernel
theorem dJ7_fill_53178_11 : decode cJ7_fill_53178 11 = .ok (.iload_n 2, 1) := by decide +kernel
theorem dJ7_fill_53178_12 : decode cJ7_fill_53178 12 = .ok (.iload_n 1, 1) := by decide +kernel
theorem dJ7_fill_53178_13 : decode cJ7_fill_53178 13 = .ok (.iastore, 1) := by decide +kernel
theorem dJ7_fill_53178_14 : decode cJ7_fill_53178 14 = .ok (.iinc 2 1, 3) := by decide +kernel
theorem dJ7_fill_53178_17 : decode cJ7_fill_53178 17 = .ok (.goto (-12), 3) := by decide +kernel
theorem dJ7_fill_53178_20 : decode cJ7_fill_53178 20 = .ok (.return_, 1) := by decide +kernel
theorem dL_law_0 : decode cL_law 0 = .ok (.new 7, 3) := by decide +kernel
theorem dL_law_3 : decode cL_law 3 = .ok (.dup, 1) := by decide +kernel
theorem dL_law_4 : decode cL_law 4 = .ok (.invokespecial 9, 3) := by decide +kernel
theorem dL_law_7 : decode cL_law 7 = .ok (.astore_n 1, 1) := by decide +kernel
theorem dL_law_8 : decode cL_law 8 = .ok (.new 10, 3) := by decide +kernel
theorem dL_law_11 : decode cL_law 11 = .ok (.dup, 1) := by decide +kernel
theorem dL_law_12 : decode cL_law 12 = .ok (.invokespecial 12, 3) := by decide +kernel
theorem dL_law_15 : decode cL_law 15 = .ok (.astore_n 2, 1) := by decide +kernel
theorem dL_law_16 : decode cL_law 16 = .ok (.iconst 0, 1) := by decide +kernel
theorem dL_law_17 : decode cL_law 17 = .ok (.istore_n 3, 1) := by decide +kernel
theorem dL_law_18 : decode cL_law 18 = .ok (.iload_n 3, 1) := by decide +kernel
theorem dL_law_19 : decode cL_law 19 = .ok (.aload_n 0, 1) := by decide +kernel
theorem dL_law_20 : decode cL_law 20 = .ok (.arraylength, 1) := by decide +kernel
theorem dL_law_21 : decode cL_law 21 = .ok (.iconst 5, 1) := by decide +kernel
theorem dL_law_22 : decode cL_law 22 = .ok (.isub, 1) := by decide +kernel
theorem dL_law_23 : decode cL_law 23 = .ok (.if_icmp .gt 935, 3) := by decide +kernel
theorem dL_law_26 : decode cL_law 26 = .ok (.aload_n 0, 1) := by decide +kernel
theorem dL_law_27 : decode cL_law 27 = .ok (.iload_n 3, 1) := by decide +kernel
theorem dL_law_28 : decode cL_law 28 = .ok (.iaload, 1) := by decide +kernel
theorem dL_law_29 : decode cL_law 29 = .ok (.bipush 31, 2) := by decide +kernel
theorem dL_law_31 : decode cL_law 31 = .ok (.iand, 1) := by decide +kernel
theorem dL_law_32 : decode cL_law 32 = .ok (.tableswitch 920 0 28 #[132, 155, 168, 181, 214, 247, 280, 313, 336, 369, 402, 425, 448, 461, 484, 517, 570, 613, 636, 689, 712, 735, 768, 791, 804, 837, 860, 883, 906], 132) := by decide +kernel
theorem dL_law_164 : decode cL_law 164 = .ok (.aload_n 1, 1) := by decide +kernel
theorem dL_law_165 : decode cL_law 165 = .ok (.aload_n 0, 1) := by decide +kernel
theorem dL_law_166 : decode cL_law 166 = .ok (.iload_n 3, 1) := by decide +kernel
theorem dL_law_167 : decode cL_law 167 = .ok (.iconst 1, 1) := by decide +kernel
theorem dL_law_168 : decode cL_law 168 = .ok (.iadd, 1) := by decide +kernel
theorem dL_law_169 : decode cL_law 169 = .ok (.iaload, 1) := by decide +kernel
theorem dL_law_170 : decode cL_law 170 = .ok (.invokevirtual 13, 3) := by decide +kernel
theorem dL_law_173 : decode cL_law 173 = .ok (.aload_n 2, 1) := by decide +kernel
theorem dL_law_174 : decode cL_law 174 = .ok (.aload_n 0, 1) := by decide +kernel
theorem dL_law_175 : decode cL_law 175 = .ok (.iload_n 3, 1) := by decide +kernel
theorem dL_law_176 : decode cL_law 176 = .ok (.iconst 1, 1) := by decide +kernel
theorem dL_law_177 : decode cL_law 177 = .ok (.iadd, 1) := by decide +kernel
theorem dL_law_178 : decode cL_law 178 = .ok (.iaload, 1) := by decide +kernel
theorem dL_law_179 : decode cL_law 179 = .ok (.invokevirtual 17, 3) := by decide +kernel
theorem dL_law_182 : decode cL_law 182 = .ok (.if_icmp .eq 770, 3) := by decide +kernel
theorem dL_law_185 : decode cL_law 185 = .ok (.iconst 0, 1) := by decide +kernel
theorem dL_law_186 : decode cL_law 186 = .ok (.ireturn, 1) := by decide +kernel
theorem dL_law_187 : decode cL_law 187 = .ok (.aload_n 1, 1) := by decide +kernel
theorem dL_law_188 : decode cL_law 188 = .ok (.invokevirtual 18, 3) := by decide +kernel
theorem dL_law_191 : decode cL_law 191 = .ok (.aload_n 2, 1) := by decide +kernel
theorem dL_law_192 : decode cL_law 192 = .ok (.invokevirtual 22, 3) := by decide +kernel
theorem dL_law_195 : decode cL_law 195 = .ok (.if_icmp .eq 757, 3) := by decide +kernel
theorem dL_law_198 : decode cL_law 198 = .ok (.iconst 0, 1) := by decide +kernel
theorem dL_law_199 : decode cL_law 199 = .ok (.ireturn, 1) := by decide +kernel
theorem dL_law_200 : decode cL_law 200 = .ok (.aload_n 1, 1) := by decide +kernel
theorem dL_law_201 : decode cL_law 201 = .ok (.invokevirtual 23, 3) := by decide +kernel
theorem dL_law_204 : decode cL_law 204 = .ok (.aload_n 2, 1) := by decide +kernel
theorem dL_law_205 : decode cL_law 205 = .ok (.invokevirtual 26, 3) := by decide +kernel
theorem dL_law_208 : decode cL_law 208 = .ok (.if_icmp .eq 744, 3) := by decide +kernel
theorem dL_law_211 : decode cL_law 211 = .ok (.iconst 0, 1) := by decide +kernel
theorem dL_law_212 : decode cL_law 212 = .ok (.ireturn, 1) := by decide +kernel
theorem dL_law_213 : decode cL_law 213 = .ok (.aload_n 1, 1) := by decide +kernel
theorem dL_law_214 : decode cL_law 214 = .ok (.aload_n 0, 1) := by decide +kernel
theorem dL_law_215 : decode cL_law 215 = .ok (.iload_n 3, 1) := by decide +kernel
theorem dL_law_216 : decode cL_law 216 = .ok (.iconst 1, 1) := by decide +kernel
theorem dL_law_217 : decode cL_law 217 = .ok (.iadd, 1) := by decide +kernel
theorem dL_law_218 : decode cL_law 218 = .ok (.iaload, 1) := by decide +kernel
theorem dL_law_219 : decode cL_law 219 = .ok (.aload_n 0, 1) := by decide +kernel
theorem dL_law_220 : decode cL_law 220 = .ok (.iload_n 3, 1) := by decide +kernel
theorem dL_law_221 : decode cL_law 221 = .ok (.iconst 2, 1) := by decide +kernel
theorem dL_law_222 : decode cL_law 222 = .ok (.iadd, 1) := by decide +kernel
theorem dL_law_223 : decode cL_law 223 = .ok (.iaload, 1) := by decide +kernel
theorem dL_law_224 : decode cL_law 224 = .ok (.invokevirtual 27, 3) := by decide +kernel
theorem dL_law_227 : decode cL_law 227 = .ok (.aload_n 2, 1) := by decide +kernel
theorem dL_law_228 : decode cL_law 228 = .ok (.aload_n 0, 1) := by decide +kernel
theorem dL_law_229 : decode cL_law 229 = .ok (.iload_n 3, 1) := by decide +kernel
theorem dL_law_230 : decode cL_law 230 = .ok (.iconst 1, 1) := by decide +kernel
theorem dL_law_231 : decode cL_law 231 = .ok (.iadd, 1) := by decide +kernel
theorem dL_law_232 : decode cL_law 232 = .ok (.iaload, 1) := by decide +kernel
theorem dL_law_233 : decode cL_law 233 = .ok (.aload_n 0, 1) := by decide +kernel
theorem dL_law_234 : decode cL_law 234 = .ok (.iload_n 3, 1) := by decide +kernel
theorem dL_law_235 : decode cL_law 235 = .ok (.iconst 2, 1) := by decide +kernel
theorem dL_law_236 : decode cL_law 236 = .ok (.iadd, 1) := by decide +kernel
theorem dL_law_237 : decode cL_law 237 = .ok (.iaload, 1) := by decide +kernel
theorem dL_law_238 : decode cL_law 238 = .ok (.invokevirtual 31, 3) := by decide +kernel
theorem dL_law_241 : decode cL_law 241 = .ok (.if_icmp .eq 711, 3) := by decide +kernel
theorem dL_law_244 : decode cL_law 244 = .ok (.iconst 0, 1) := by decide +kernel
theorem dL_law_245 : decode cL_law 245 = .ok (.ireturn, 1) := by decide +kernel
theorem dL_law_246 : decode cL_law 246 = .ok (.aload_n 1, 1) := by decide +kernel
theorem dL_law_247 : decode cL_law 247 = .ok (.aload_n 0, 1) := by decide +kernel
theorem dL_law_248 : decode cL_law 248 = .ok (.iload_n 3, 1) := by decide +kernel
theorem dL_law_249 : decode cL_law 249 = .ok (.iconst 1, 1) := by decide +kernel
theorem dL_law_250 : decode cL_law 250 = .ok (.iadd, 1) := by decide +kernel
theorem dL_law_251 : decode cL_law 251 = .ok (.iaload, 1) := by decide +kernel
theorem dL_law_252 : decode cL_law 252 = .ok (.aload_n 0, 1) := by decide +kernel
theorem dL_law_253 : decode cL_law 253 = .ok (.iload_n 3, 1) := by decide +kernel
theorem dL_law_254 : decode cL_law 254 = .ok (.iconst 2, 1) := by decide +kernel
theorem dL_law_255 : decode cL_law 255 = .ok (.iadd, 1) := by decide +kernel
theorem dL_law_256 : decode cL_law 256 = .ok (.iaload, 1) := by decide +kernel
theorem dL_law_257 : decode cL_law 257 = .ok (.invokevirtual 32, 3) := by decide +kernel
theorem dL_law_260 : decode cL_law 260 = .ok (.aload_n 2, 1) := by decide +kernel
theorem dL_law_261 : decode cL_law 261 = .ok (.aload_n 0, 1) := by decide +kernel
theorem dL_law_262 : decode cL_law 262 = .ok (.iload_n 3, 1) := by decide +kernel
theorem dL_law_263 : decode cL_law 263 = .ok (.iconst 1, 1) := by decide +kernel
theorem dL_law_264 : decode cL_law 264 = .ok (.iadd, 1) := by decide +kernel
theorem dL_law_265 : decode cL_law 265 = .ok (.iaload, 1) := by decide +kernel
theorem dL_law_266 : decode cL_law 266 = .ok (.aload_n 0, 1) := by decide +kernel
theorem dL_law_267 : decode cL_law 267 = .ok (.iload_n 3, 1) := by decide +kernel
theorem dL_law_268 : decode cL_law 268 = .ok (.iconst 2, 1) := by decide +kernel
theorem dL_law_269 : decode cL_law 269 = .ok (.iadd, 1) := by decide +kernel
theorem dL_law_270 : decode cL_law 270 = .ok (.iaload, 1) := by decide +kernel
theorem dL_law_271 : decode cL_law 271 = .ok (.invokevirtual 35, 3) := by decide +kernel
theorem dL_law_274 : decode cL_law 274 = .ok (.if_icmp .eq 678, 3) := by decide +kernel
theorem dL_law_277 : decode cL_law 277 = .ok (.iconst 0, 1) := by decide +kernel
theorem dL_law_278 : decode cL_law 278 = .ok (.ireturn, 1) := by decide +kernel
theorem dL_law_279 : decode cL_law 279 = .ok (.aload_n 1, 1) := by decide +kernel
theorem dL_law_280 : decode cL_law 280 = .ok (.aload_n 0, 1) := by decide +kernel
theorem dL_law_281 : decode cL_law 281 = .ok (.iload_n 3, 1) := by decide +kernel
theorem dL_law_282 : decode cL_law 282 = .ok (.iconst 1, 1) := by decide +kernel
theorem dL_law_283 : decode cL_law 283 = .ok (.iadd, 1) := by decide +kernel
theorem dL_law_284 : decode cL_law 284 = .ok (.iaload, 1) := by decide +kernel
theorem dL_law_285 : decode cL_law 285 = .ok (.aload_n 0, 1) := by decide +kernel
theorem dL_law_286 : decode cL_law 286 = .ok (.iload_n 3, 1) := by decide +kernel
theorem dL_law_287 : decode cL_law 287 = .ok (.iconst 2, 1) := by decide +kernel
theorem dL_law_288 : decode cL_law 288 = .ok (.iadd, 1) := by decide +kernel
theorem dL_law_289 : decode cL_law 289 = .ok (.iaload, 1) := by decide +kernel
theorem dL_law_290 : decode cL_law 290 = .ok (.invokevirtual 36, 3) := by decide +kernel
theorem dL_law_293 : decode cL_law 293 = .ok (.aload_n 2, 1) := by decide +kernel
theorem dL_law_294 : decode cL_law 294 = .ok (.aload_n 0, 1) := by decide +kernel
theorem dL_law_295 : decode cL_law 295 = .ok (.iload_n 3, 1) := by decide +kernel
theorem dL_law_296 : decode cL_law 296 = .ok (.iconst 1, 1) := by decide +kernel
theorem dL_law_297 : decode cL_law 297 = .ok (.iadd, 1) := by decide +kernel
theorem dL_law_298 : decode cL_law 298 = .ok (.iaload, 1) := by decide +kernel
theorem dL_law_299 : decode cL_law 299 = .ok (.aload_n 0, 1) := by decide +kernel
theorem dL_law_300 : decode cL_law 300 = .ok (.iload_n 3, 1) := by decide +kernel
theorem dL_law_301 : decode cL_law 301 = .ok (.iconst 2, 1) := by decide +kernel
theorem dL_law_302 : decode cL_law 302 = .ok (.iadd, 1) := by decide +kernel
theorem dL_law_303 : decode cL_law 303 = .ok (.iaload, 1) := by decide +kernel
theorem dL_law_304 : decode cL_law 304 = .ok (.invokevirtual 39, 3) := by decide +kernel
theorem dL_law_307 : decode cL_law 307 = .ok (.if_icmp .eq 645, 3) := by decide +kernel
theorem dL_law_310 : decode cL_law 310 = .ok (.iconst 0, 1) := by decide +kernel
theorem dL_law_311 : decode cL_law 311 = .ok (.ireturn, 1) := by decide +kernel
theorem dL_law_312 : decode cL_law 312 = .ok (.aload_n 1, 1) := by decide +kernel
theorem dL_law_313 : decode cL_law 313 = .ok (.aload_n 0, 1) := by decide +kernel
theorem dL_law_314 : decode cL_law 314 = .ok (.iload_n 3, 1) := by decide +kernel
theorem dL_law_315 : decode cL_law 315 = .ok (.iconst 1, 1) := by decide +kernel
theorem dL_law_316 : decode cL_law 316 = .ok (.iadd, 1) := by decide +kernel
theorem dL_law_317 : decode cL_law 317 = .ok (.iaload, 1) := by decide +kernel
theorem dL_law_318 : decode cL_law 318 = .ok (.aload_n 0, 1) := by decide +kernel
theorem dL_law_319 : decode cL_law 319 = .ok (.iload_n 3, 1) := by decide +kernel
theorem dL_law_320 : decode cL_law 320 = .ok (.iconst 2, 1) := by decide +kernel
theorem dL_law_321 : decode cL_law 321 = .ok (.iadd, 1) := by decide +kernel
theorem dL_law_322 : decode cL_law 322 = .ok (.iaload, 1) := by decide +kernel
theorem dL_law_323 : decode cL_law 323 = .ok (.invokevirtual 40, 3) := by decide +kernel
theorem dL_law_326 : decode cL_law 326 = .ok (.aload_n 2, 1) := by decide +kernel
theorem dL_law_327 : decode cL_law 327 = .ok (.aload_n 0, 1) := by decide +kernel
theorem dL_law_328 : decode cL_law 328 = .ok (.iload_n 3, 1) := by decide +kernel
theorem dL_law_329 : decode cL_law 329 = .ok (.iconst 1, 1) := by decide +kernel
theorem dL_law_330 : decode cL_law 330 = .ok (.iadd, 1) := by decide +kernel
theorem dL_law_331 : decode cL_law 331 = .ok (.iaload, 1) := by decide +kernel
theorem dL_law_332 : decode cL_law 332 = .ok (.aload_n 0, 1) := by decide +kernel
theorem dL_law_333 : decode cL_law 333 = .ok (.iload_n 3, 1) := by decide +kernel
theorem dL_law_334 : decode cL_law 334 = .ok (.iconst 2, 1) := by decide +kernel
theorem dL_law_335 : decode cL_law 335 = .ok (.iadd, 1) := by decide +kernel
theorem dL_law_336 : decode cL_law 336 = .ok (.iaload, 1) := by decide +kernel
theorem dL_law_337 : decode cL_law 337 = .ok (.invokevirtual 43, 3) := by decide +kernel
theorem dL_law_340 : decode cL_law 340 = .ok (.if_icmp .eq 612, 3) := by decide +kernel
theorem dL_law_343 : decode cL_law 343 = .ok (.iconst 0, 1) := by decide +kernel
theorem dL_law_344 : decode cL_law 344 = .ok (.ireturn, 1) := by decide +kernel
theorem dL_law_345 : decode cL_law 345 = .ok (.aload_n 1, 1) := by decide +kernel
theorem dL_law_346 : decode cL_law 346 = .ok (.aload_n 0, 1) := by decide +kernel
theorem dL_law_347 : decode cL_law 347 = .ok (.iload_n 3, 1) := by decide +kernel
theorem dL_law_348 : decode cL_law 348 = .ok (.iconst 1, 1) := by decide +kernel
theorem dL_law_349 : decode cL_law 349 = .ok (.iadd, 1) := by decide +kernel
theorem dL_law_350 : decode cL_law 350 = .ok (.iaload, 1) := by decide +kernel
theorem dL_law_351 : decode cL_law 351 = .ok (.invokevirtual 44, 3) := by decide +kernel
theorem dL_law_354 : decode cL_law 354 = .ok (.aload_n 2, 1) := by decide +kernel
theorem dL_law_355 : decode cL_law 355 = .ok (.aload_n 0, 1) := by decide +kernel
theorem dL_law_356 : decode cL_law 356 = .ok (.iload_n 3, 1) := by decide +kernel
theorem dL_law_357 : decode cL_law 357 = .ok (.iconst 1, 1) := by decide +kernel
theorem dL_law_358 : decode cL_law 358 = .ok (.iadd, 1) := by decide +kernel
theorem dL_law_359 : decode cL_law 359 = .ok (.iaload, 1) := by decide +kernel
theorem dL_law_360 : decode cL_law 360 = .ok (.invokevirtual 47, 3) := by decide +kernel
theorem dL_law_363 : decode cL_law 363 = .ok (.if_icmp .eq 589, 3) := by decide +kernel
theorem dL_law_366 : decode cL_law 366 = .ok (.iconst 0, 1) := by decide +kernel
theorem dL_law_367 : decode cL_law 367 = .ok (.ireturn, 1) := by decide +kernel
theorem dL_law_368 : decode cL_law 368 = .ok (.aload_n 1, 1) := by decide +kernel
theorem dL_law_369 : decode cL_law 369 = .ok (.aload_n 0, 1) := by decide +kernel
theorem dL_law_370 : decode cL_law 370 = .ok (.iload_n 3, 1) := by decide +kernel
theorem dL_law_371 : decode cL_law 371 = .ok (.iconst 1, 1) := by decide +kernel
theorem dL_law_372 : decode cL_law 372 = .ok (.iadd, 1) := by decide +kernel
theorem dL_law_373 : decode cL_law 373 = .ok (.iaload, 1) := by decide +kernel
theorem dL_law_374 : decode cL_law 374 = .ok (.aload_n 0, 1) := by decide +kernel
theorem dL_law_375 : decode cL_law 375 = .ok (.iload_n 3, 1) := by decide +kernel
theorem dL_law_376 : decode cL_law 376 = .ok (.iconst 2, 1) := by decide +kernel
theorem dL_law_377 : decode cL_law 377 = .ok (.iadd, 1) := by decide +kernel
theorem dL_law_378 : decode cL_law 378 = .ok (.iaload, 1) := by decide +kernel
theorem dL_law_379 : decode cL_law 379 = .ok (.invokevirtual 48, 3) := by decide +kernel
theorem dL_law_382 : decode cL_law 382 = .ok (.aload_n 2, 1) := by decide +kernel
theorem dL_law_383 : decode cL_law 383 = .ok (.aload_n 0, 1) := by decide +kernel
theorem dL_law_384 : decode cL_law 384 = .ok (.iload_n 3, 1) := by decide +kernel
theorem dL_law_385 : decode cL_law 385 = .ok (.iconst 1, 1) := by decide +kernel
theorem dL_law_386 : decode cL_law 386 = .ok (.iadd, 1) := by decide +kernel
theorem dL_law_387 : decode cL_law 387 = .ok (.iaload, 1) := by decide +kernel
theorem dL_law_388 : decode cL_law 388 = .ok (.aload_n 0, 1) := by decide +kernel
theorem dL_law_389 : decode cL_law 389 = .ok (.iload_n 3, 1) := by decide +kernel
theorem dL_law_390 : decode cL_law 390 = .ok (.iconst 2, 1) := by decide +kernel
theorem dL_law_391 : decode cL_law 391 = .ok (.iadd, 1) := by decide +kernel
theorem dL_law_392 : decode cL_law 392 = .ok (.iaload, 1) := by decide +kernel
theorem dL_law_393 : decode cL_law 393 = .ok (.invokevirtual 51, 3) := by decide +kernel
theorem dL_law_396 : decode cL_law 396 = .ok (.if_icmp .eq 556, 3) := by decide +kernel
theorem dL_law_399 : decode cL_law 399 = .ok (.iconst 0, 1) := by decide +kernel
theorem dL_law_400 : decode cL_law 400 = .ok (.ireturn, 1) := by decide +kernel
theorem dL_law_401 : decode cL_law 401 = .ok (.aload_n 1, 1) := by decide +kernel
theorem dL_law_402 : decode cL_law 402 = .ok (.aload_n 0, 1) := by decide +kernel
theorem dL_law_403 : decode cL_law 403 = .ok (.iload_n 3, 1) := by decide +kernel
theorem dL_law_404 : decode cL_law 404 = .ok (.iconst 1, 1) := by decide +kernel
theorem dL_law_405 : decode cL_law 405 = .ok (.iadd, 1) := by decide +kernel
theorem dL_law_406 : decode cL_law 406 = .ok (.iaload, 1) := by decide +kernel
theorem dL_law_407 : decode cL_law 407 = .ok (.aload_n 0, 1) := by decide +kernel
theorem dL_law_408 : decode cL_law 408 = .ok (.iload_n 3, 1) := by decide +kernel
theorem dL_law_409 : decode cL_law 409 = .ok (.iconst 2, 1) := by decide +kernel
theorem dL_law_410 : decode cL_law 410 = .ok (.iadd, 1) := by decide +kernel
theorem dL_law_411 : decode cL_law 411 = .ok (.iaload, 1) := by decide +kernel
theorem dL_law_412 : decode cL_law 412 = .ok (.invokevirtual 52, 3) := by decide +kernel
theorem dL_law_415 : decode cL_law 415 = .ok (.aload_n 2, 1) := by decide +kernel
theorem dL_law_416 : decode cL_law 416 = .ok (.aload_n 0, 1) := by decide +kernel
theorem dL_law_417 : decode cL_law 417 = .ok (.iload_n 3, 1) := by decide +kernel
theorem dL_law_418 : decode cL_law 418 = .ok (.iconst 1, 1) := by decide +kernel
theorem dL_law_419 : decode cL_law 419 = .ok (.iadd, 1) := by decide +kernel
theorem dL_law_420 : decode cL_law 420 = .ok (.iaload, 1) := by decide +kernel
theorem dL_law_421 : decode cL_law 421 = .ok (.aload_n 0, 1) := by decide +kernel
theorem dL_law_422 : decode cL_law 422 = .ok (.iload_n 3, 1) := by decide +kernel
theorem dL_law_423 : decode cL_law 423 = .ok (.iconst 2, 1) := by decide +kernel
theorem dL_law_424 : decode cL_law 424 = .ok (.iadd, 1) := by decide +kernel
theorem dL_law_425 : decode cL_law 425 = .ok (.iaload, 1) := by decide +kernel
theorem dL_law_426 : decode cL_law 426 = .ok (.invokevirtual 55, 3) := by decide +kernel
theorem dL_law_429 : decode cL_law 429 = .ok (.if_icmp .eq 523, 3) := by decide +kernel
theorem dL_law_432 : decode cL_law 432 = .ok (.iconst 0, 1) := by decide +kernel
theorem dL_law_433 : decode cL_law 433 = .ok (.ireturn, 1) := by decide +kernel
theorem dL_law_434 : decode cL_law 434 = .ok (.aload_n 1, 1) := by decide +kernel
theorem dL_law_435 : decode cL_law 435 = .ok (.aload_n 0, 1) := by decide +kernel
theorem dL_law_436 : decode cL_law 436 = .ok (.iload_n 3, 1) := by decide +kernel
theorem dL_law_437 : decode cL_law 437 = .ok (.iconst 1, 1) := by decide +kernel
theorem dL_law_438 : decode cL_law 438 = .ok (.iadd, 1) := by decide +kernel
theorem dL_law_439 : decode cL_law 439 = .ok (.iaload, 1) := by decide +kernel
theorem dL_law_440 : decode cL_law 440 = .ok (.invokevirtual 56, 3) := by decide +kernel
theorem dL_law_443 : decode cL_law 443 = .ok (.aload_n 2, 1) := by decide +kernel
theorem dL_law_444 : decode cL_law 444 = .ok (.aload_n 0, 1) := by decide +kernel
theorem dL_law_445 : decode cL_law 445 = .ok (.iload_n 3, 1) := by decide +kernel
theorem dL_law_446 : decode cL_law 446 = .ok (.iconst 1, 1) := by decide +kernel
theorem dL_law_447 : decode cL_law 447 = .ok (.iadd, 1) := by decide +kernel
theorem dL_law_448 : decode cL_law 448 = .ok (.iaload, 1) := by decide +kernel
theorem dL_law_449 : decode cL_law 449 = .ok (.invokevirtual 59, 3) := by decide +kernel
theorem dL_law_452 : decode cL_law 452 = .ok (.if_icmp .eq 500, 3) := by decide +kernel
theorem dL_law_455 : decode cL_law 455 = .ok (.iconst 0, 1) := by decide +kernel
theorem dL_law_456 : decode cL_law 456 = .ok (.ireturn, 1) := by decide +kernel
theorem dL_law_457 : decode cL_law 457 = .ok (.aload_n 1, 1) := by decide +kernel
theorem dL_law_458 : decode cL_law 458 = .ok (.aload_n 0, 1) := by decide +kernel
theorem dL_law_459 : decode cL_law 459 = .ok (.iload_n 3, 1) := by decide +kernel
theorem dL_law_460 : decode cL_law 460 = .ok (.iconst 1, 1) := by decide +kernel
theorem dL_law_461 : decode cL_law 461 = .ok (.iadd, 1) := by decide +kernel
theorem dL_law_462 : decode cL_law 462 = .ok (.iaload, 1) := by decide +kernel
theorem dL_law_463 : decode cL_law 463 = .ok (.invokevirtual 60, 3) := by decide +kernel
theorem dL_law_466 : decode cL_law 466 = .ok (.aload_n 2, 1) := by decide +kernel
theorem dL_law_467 : decode cL_law 467 = .ok (.aload_n 0, 1) := by decide +kernel
theorem dL_law_468 : decode cL_law 468 = .ok (.iload_n 3, 1) := by decide +kernel
theorem dL_law_469 : decode cL_law 469 = .ok (.iconst 1, 1) := by decide +kernel
theorem dL_law_470 : decode cL_law 470 = .ok (.iadd, 1) := by decide +kernel
theorem dL_law_471 : decode cL_law 471 = .ok (.iaload, 1) := by decide +kernel
theorem dL_law_472 : decode cL_law 472 = .ok (.invokevirtual 63, 3) := by decide +kernel
theorem dL_law_475 : decode cL_law 475 = .ok (.if_icmp .eq 477, 3) := by decide +kernel
theorem dL_law_478 : decode cL_law 478 = .ok (.iconst 0, 1) := by decide +kernel
theorem dL_law_479 : decode cL_law 479 = .ok (.ireturn, 1) := by decide +kernel
theorem dL_law_480 : decode cL_law 480 = .ok (.aload_n 1, 1) := by decide +kernel
theorem dL_law_481 : decode cL_law 481 = .ok (.invokevirtual 64, 3) := by decide +kernel
theorem dL_law_484 : decode cL_law 484 = .ok (.aload_n 2, 1) := by decide +kernel
theorem dL_law_485 : decode cL_law 485 = .ok (.invokevirtual 67, 3) := by decide +kernel
theorem dL_law_488 : decode cL_law 488 = .ok (.if_icmp .eq 464, 3) := by decide +kernel
theorem dL_law_491 : decode cL_law 491 = .ok (.iconst 0, 1) := by decide +kernel
theorem dL_law_492 : decode cL_law 492 = .ok (.ireturn, 1) := by decide +kernel
theorem dL_law_493 : decode cL_law 493 = .ok (.aload_n 1, 1) := by decide +kernel
theorem dL_law_494 : decode cL_law 494 = .ok (.aload_n 0, 1) := by decide +kernel
theorem dL_law_495 : decode cL_law 495 = .ok (.iload_n 3, 1) := by decide +kernel
theorem dL_law_496 : decode cL_law 496 = .ok (.iconst 1, 1) := by decide +kernel
theorem dL_law_497 : decode cL_law 497 = .ok (.iadd, 1) := by decide +kernel
theorem dL_law_498 : decode cL_law 498 = .ok (.iaload, 1) := by decide +kernel
theorem dL_law_499 : decode cL_law 499 = .ok (.invokevirtual 68, 3) := by decide +kernel
theorem dL_law_502 : decode cL_law 502 = .ok (.aload_n 2, 1) := by decide +kernel
theorem dL_law_503 : decode cL_law 503 = .ok (.aload_n 0, 1) := by decide +kernel
theorem dL_law_504 : decode cL_law 504 = .ok (.iload_n 3, 1) := by decide +kernel
theorem dL_law_505 : decode cL_law 505 = .ok (.iconst 1, 1) := by decide +kernel
theorem dL_law_506 : decode cL_law 506 = .ok (.iadd, 1) := by decide +kernel
theorem dL_law_507 : decode cL_law 507 = .ok (.iaload, 1) := by decide +kernel
theorem dL_law_508 : decode cL_law 508 = .ok (.invokevirtual 71, 3) := by decide +kernel
theorem dL_law_511 : decode cL_law 511 = .ok (.if_icmp .eq 441, 3) := by decide +kernel
theorem dL_law_514 : decode cL_law 514 = .ok (.iconst 0, 1) := by decide +kernel
theorem dL_law_515 : decode cL_law 515 = .ok (.ireturn, 1) := by decide +kernel
theorem dL_law_516 : decode cL_law 516 = .ok (.aload_n 1, 1) := by decide +kernel
theorem dL_law_517 : decode cL_law 517 = .ok (.aload_n 0, 1) := by decide +kernel
theorem dL_law_518 : decode cL_law 518 = .ok (.iload_n 3, 1) := by decide +kernel
theorem dL_law_519 : decode cL_law 519 = .ok (.iconst 1, 1) := by decide +kernel
theorem dL_law_520 : decode cL_law 520 = .ok (.iadd, 1) := by decide +kernel
theorem dL_law_521 : decode cL_law 521 = .ok (.iaload, 1) := by decide +kernel
theorem dL_law_522 : decode cL_law 522 = .ok (.aload_n 0, 1) := by decide +kernel
theorem dL_law_523 : decode cL_law 523 = .ok (.iload_n 3, 1) := by decide +kernel
theorem dL_law_524 : decode cL_law 524 = .ok (.iconst 2, 1) := by decide +kernel
theorem dL_law_525 : decode cL_law 525 = .ok (.iadd, 1) := by decide +kernel
theorem dL_law_526 : decode cL_law 526 = .ok (.iaload, 1) := by decide +kernel
theorem dL_law_527 : decode cL_law 527 = .ok (.invokevirtual 72, 3) := by decide +kernel
theorem dL_law_530 : decode cL_law 530 = .ok (.aload_n 2, 1) := by decide +kernel
theorem dL_law_531 : decode cL_law 531 = .ok (.aload_n 0, 1) := by decide +kernel
theorem dL_law_532 : decode cL_law 532 = .ok (.iload_n 3, 1) := by decide +kernel
theorem dL_law_533 : decode cL_law 533 = .ok (.iconst 1, 1) := by decide +kernel
theorem dL_law_534 : decode cL_law 534 = .ok (.iadd, 1) := by decide +kernel
theorem dL_law_535 : decode cL_law 535 = .ok (.iaload, 1) := by decide +kernel
theorem dL_law_536 : decode cL_law 536 = .ok (.aload_n 0, 1) := by decide +kernel
theorem dL_law_537 : decode cL_law 537 = .ok (.iload_n 3, 1) := by decide +kernel
theorem dL_law_538 : decode cL_law 538 = .ok (.iconst 2, 1) := by decide +kernel
theorem dL_law_539 : decode cL_law 539 = .ok (.iadd, 1) := by decide +kernel
theorem dL_law_540 : decode cL_law 540 = .ok (.iaload, 1) := by decide +kernel
theorem dL_law_541 : decode cL_law 541 = .ok (.invokevirtual 75, 3) := by decide +kernel
theorem dL_law_544 : decode cL_law 544 = .ok (.if_icmp .eq 408, 3) := by decide +kernel
theorem dL_law_547 : decode cL_law 547 = .ok (.iconst 0, 1) := by decide +kernel
theorem dL_law_548 : decode cL_law 548 = .ok (.ireturn, 1) := by decide +kernel
theorem dL_law_549 : decode cL_law 549 = .ok (.aload_n 1, 1) := by decide +kernel
theorem dL_law_550 : decode cL_law 550 = .ok (.aload_n 0, 1) := by decide +kernel
theorem dL_law_551 : decode cL_law 551 = .ok (.iload_n 3, 1) := by decide +kernel
theorem dL_law_552 : decode cL_law 552 = .ok (.iconst 1, 1) := by decide +kernel
theorem dL_law_553 : decode cL_law 553 = .ok (.iadd, 1) := by decide +kernel
theorem dL_law_554 : decode cL_law 554 = .ok (.iaload, 1) := by decide +kernel
theorem dL_law_555 : decode cL_law 555 = .ok (.aload_n 0, 1) := by decide +kernel
theorem dL_law_556 : decode cL_law 556 = .ok (.iload_n 3, 1) := by decide +kernel
theorem dL_law_557 : decode cL_law 557 = .ok (.iconst 2, 1) := by decide +kernel
theorem dL_law_558 : decode cL_law 558 = .ok (.iadd, 1) := by decide +kernel
theorem dL_law_559 : decode cL_law 559 = .ok (.iaload, 1) := by decide +kernel
theorem dL_law_560 : decode cL_law 560 = .ok (.aload_n 0, 1) := by decide +kernel
theorem dL_law_561 : decode cL_law 561 = .ok (.iload_n 3, 1) := by decide +kernel
theorem dL_law_562 : decode cL_law 562 = .ok (.iconst 3, 1) := by decide +kernel
theorem dL_law_563 : decode cL_law 563 = .ok (.iadd, 1) := by decide +kernel
theorem dL_law_564 : decode cL_law 564 = .ok (.iaload, 1) := by decide +kernel
theorem dL_law_565 : decode cL_law 565 = .ok (.aload_n 0, 1) := by decide +kernel
theorem dL_law_566 : decode cL_law 566 = .ok (.iload_n 3, 1) := by decide +kernel
theorem dL_law_567 : decode cL_law 567 = .ok (.iconst 4, 1) := by decide +kernel
theorem dL_law_568 : decode cL_law 568 = .ok (.iadd, 1) := by decide +kernel
theorem dL_law_569 : decode cL_law 569 = .ok (.iaload, 1) := by decide +kernel
theorem dL_law_570 : decode cL_law 570 = .ok (.invokevirtual 76, 3) := by decide +kernel
theorem dL_law_573 : decode cL_law 573 = .ok (.aload_n 2, 1) := by decide +kernel
theorem dL_law_574 : decode cL_law 574 = .ok (.aload_n 0, 1) := by decide +kernel
theorem dL_law_575 : decode cL_law 575 = .ok (.iload_n 3, 1) := by decide +kernel
theorem dL_law_576 : decode cL_law 576 = .ok (.iconst 1, 1) := by decide +kernel
theorem dL_law_577 : decode cL_law 577 = .ok (.iadd, 1) := by decide +kernel
theorem dL_law_578 : decode cL_law 578 = .ok (.iaload, 1) := by decide +kernel
theorem dL_law_579 : decode cL_law 579 = .ok (.aload_n 0, 1) := by decide +kernel
theorem dL_law_580 : decode cL_law 580 = .ok (.iload_n 3, 1) := by decide +kernel
theorem dL_law_581 : decode cL_law 581 = .ok (.iconst 2, 1) := by decide +kernel
theorem dL_law_582 : decode cL_law 582 = .ok (.iadd, 1) := by decide +kernel
theorem dL_law_583 : decode cL_law 583 = .ok (.iaload, 1) := by decide +kernel
theorem dL_law_584 : decode cL_law 584 = .ok (.aload_n 0, 1) := by decide +kernel
theorem dL_law_585 : decode cL_law 585 = .ok (.iload_n 3, 1) := by decide +kernel
theorem dL_law_586 : decode cL_law 586 = .ok (.iconst 3, 1) := by decide +kernel
theorem dL_law_587 : decode cL_law 587 = .ok (.iadd, 1) := by decide +kernel
theorem dL_law_588 : decode cL_law 588 = .ok (.iaload, 1) := by decide +kernel
theorem dL_law_589 : decode cL_law 589 = .ok (.aload_n 0, 1) := by decide +kernel
theorem dL_law_590 : decode cL_law 590 = .ok (.iload_n 3, 1) := by decide +kernel
theorem dL_law_591 : decode cL_law 591 = .ok (.iconst 4, 1) := by decide +kernel
theorem dL_law_592 : decode cL_law 592 = .ok (.iadd, 1) := by decide +kernel
theorem dL_law_593 : decode cL_law 593 = .ok (.iaload, 1) := by decide +kernel
theorem dL_law_594 : decode cL_law 594 = .ok (.invokevirtual 80, 3) := by decide +kernel
theorem dL_law_597 : decode cL_law 597 = .ok (.if_icmp .eq 355, 3) := by decide +kernel
theorem dL_law_600 : decode cL_law 600 = .ok (.iconst 0, 1) := by decide +kernel
theorem dL_law_601 : decode cL_law 601 = .ok (.ireturn, 1) := by decide +kernel
theorem dL_law_602 : decode cL_law 602 = .ok (.aload_n 1, 1) := by decide +kernel
theorem dL_law_603 : decode cL_law 603 = .ok (.aload_n 0, 1) := by decide +kernel
theorem dL_law_604 : decode cL_law 604 = .ok (.iload_n 3, 1) := by decide +kernel
theorem dL_law_605 : decode cL_law 605 = .ok (.iconst 1, 1) := by decide +kernel
theorem dL_law_606 : decode cL_law 606 = .ok (.iadd, 1) := by decide +kernel
theorem dL_law_607 : decode cL_law 607 = .ok (.iaload, 1) := by decide +kernel
theorem dL_law_608 : decode cL_law 608 = .ok (.aload_n 0, 1) := by decide +kernel
theorem dL_law_609 : decode cL_law 609 = .ok (.iload_n 3, 1) := by decide +kernel
theorem dL_law_610 : decode cL_law 610 = .ok (.iconst 2, 1) := by decide +kernel
theorem dL_law_611 : decode cL_law 611 = .ok (.iadd, 1) := by decide +kernel
theorem dL_law_612 : decode cL_law 612 = .ok (.iaload, 1) := by decide +kernel
theorem dL_law_613 : decode cL_law 613 = .ok (.aload_n 0, 1) := by decide +kernel
theorem dL_law_614 : decode cL_law 614 = .ok (.iload_n 3, 1) := by decide +kernel
theorem dL_law_615 : decode cL_law 615 = .ok (.iconst 3, 1) := by decide +kernel
theorem dL_law_616 : decode cL_law 616 = .ok (.iadd, 1) := by decide +kernel
theorem dL_law_617 : decode cL_law 617 = .ok (.iaload, 1) := by decide +kernel
theorem dL_law_618 : decode cL_law 618 = .ok (.invokevirtual 81, 3) := by decide +kernel
theorem dL_law_621 : decode cL_law 621 = .ok (.aload_n 2, 1) := by decide +kernel
theorem dL_law_622 : decode cL_law 622 = .ok (.aload_n 0, 1) := by decide +kernel
theorem dL_law_623 : decode cL_law 623 = .ok (.iload_n 3, 1) := by decide +kernel
theorem dL_law_624 : decode cL_law 624 = .ok (.iconst 1, 1) := by decide +kernel
theorem dL_law_625 : decode cL_law 625 = .ok (.iadd, 1) := by decide +kernel
theorem dL_law_626 : decode cL_law 626 = .ok (.iaload, 1) := by decide +kernel
theorem dL_law_627 : decode cL_law 627 = .ok (.aload_n 0, 1) := by decide +kernel
theorem dL_law_628 : decode cL_law 628 = .ok (.iload_n 3, 1) := by decide +kernel
theorem dL_law_629 : decode cL_law 629 = .ok (.iconst 2, 1) := by decide +kernel
theorem dL_law_630 : decode cL_law 630 = .ok (.iadd, 1) := by decide +kernel
theorem dL_law_631 : decode cL_law 631 = .ok (.iaload, 1) := by decide +kernel
theorem dL_law_632 : decode cL_law 632 = .ok (.aload_n 0, 1) := by decide +kernel
theorem dL_law_633 : decode cL_law 633 = .ok (.iload_n 3, 1) := by decide +kernel
theorem dL_law_634 : decode cL_law 634 = .ok (.iconst 3, 1) := by decide +kernel
theorem dL_law_635 : decode cL_law 635 = .ok (.iadd, 1) := by decide +kernel
theorem dL_law_636 : decode cL_law 636 = .ok (.iaload, 1) := by decide +kernel
theorem dL_law_637 : decode cL_law 637 = .ok (.invokevirtual 85, 3) := by decide +kernel
theorem dL_law_640 : decode cL_law 640 = .ok (.if_icmp .eq 312, 3) := by decide +kernel
theorem dL_law_643 : decode cL_law 643 = .ok (.iconst 0, 1) := by decide +kernel
theorem dL_law_644 : decode cL_law 644 = .ok (.ireturn, 1) := by decide +kernel
theorem dL_law_645 : decode cL_law 645 = .ok (.aload_n 1, 1) := by decide +kernel
theorem dL_law_646 : decode cL_law 646 = .ok (.aload_n 0, 1) := by decide +kernel
theorem dL_law_647 : decode cL_law 647 = .ok (.iload_n 3, 1) := by decide +kernel
theorem dL_law_648 : decode cL_law 648 = .ok (.iconst 1, 1) := by decide +kernel
theorem dL_law_649 : decode cL_law 649 = .ok (.iadd, 1) := by decide +kernel
theorem dL_law_650 : decode cL_law 650 = .ok (.iaload, 1) := by decide +kernel
theorem dL_law_651 : decode cL_law 651 = .ok (.invokevirtual 86, 3) := by decide +kernel
theorem dL_law_654 : decode cL_law 654 = .ok (.aload_n 2, 1) := by decide +kernel
theorem dL_law_655 : decode cL_law 655 = .ok (.aload_n 0, 1) := by decide +kernel
theorem dL_law_656 : decode cL_law 656 = .ok (.iload_n 3, 1) := by decide +kernel
theorem dL_law_657 : decode cL_law 657 = .ok (.iconst 1, 1) := by decide +kernel
theorem dL_law_658 : decode cL_law 658 = .ok (.iadd, 1) := by decide +kernel
theorem dL_law_659 : decode cL_law 659 = .ok (.iaload, 1) := by decide +kernel
theorem dL_law_660 : decode cL_law 660 = .ok (.invokevirtual 89, 3) := by decide +kernel
theorem dL_law_663 : decode cL_law 663 = .ok (.if_icmp .eq 289, 3) := by decide +kernel
theorem dL_law_666 : decode cL_law 666 = .ok (.iconst 0, 1) := by decide +kernel
theorem dL_law_667 : decode cL_law 667 = .ok (.ireturn, 1) := by decide +kernel
theorem dL_law_668 : decode cL_law 668 = .ok (.aload_n 1, 1) := by decide +kernel
theorem dL_law_669 : decode cL_law 669 = .ok (.aload_n 0, 1) := by decide +kernel
theorem dL_law_670 : decode cL_law 670 = .ok (.iload_n 3, 1) := by decide +kernel
theorem dL_law_671 : decode cL_law 671 = .ok (.iconst 1, 1) := by decide +kernel
theorem dL_law_672 : decode cL_law 672 = .ok (.iadd, 1) := by decide +kernel
theorem dL_law_673 : decode cL_law 673 = .ok (.iaload, 1) := by decide +kernel
theorem dL_law_674 : decode cL_law 674 = .ok (.aload_n 0, 1) := by decide +kernel
theorem dL_law_675 : decode cL_law 675 = .ok (.iload_n 3, 1) := by decide +kernel
theorem dL_law_676 : decode cL_law 676 = .ok (.iconst 2, 1) := by decide +kernel
theorem dL_law_677 : decode cL_law 677 = .ok (.iadd, 1) := by decide +kernel
theorem dL_law_678 : decode cL_law 678 = .ok (.iaload, 1) := by decide +kernel
theorem dL_law_679 : decode cL_law 679 = .ok (.aload_n 0, 1) := by decide +kernel
theorem dL_law_680 : decode cL_law 680 = .ok (.iload_n 3, 1) := by decide +kernel
theorem dL_law_681 : decode cL_law 681 = .ok (.iconst 3, 1) := by decide +kernel
theorem dL_law_682 : decode cL_law 682 = .ok (.iadd, 1) := by decide +kernel
theorem dL_law_683 : decode cL_law 683 = .ok (.iaload, 1) := by decide +kernel
theorem dL_law_684 : decode cL_law 684 = .ok (.aload_n 0, 1) := by decide +kernel
theorem dL_law_685 : decode cL_law 685 = .ok (.iload_n 3, 1) := by decide +kernel
theorem dL_law_686 : decode cL_law 686 = .ok (.iconst 4, 1) := by decide +kernel
theorem dL_law_687 : decode cL_law 687 = .ok (.iadd, 1) := by decide +kernel
theorem dL_law_688 : decode cL_law 688 = .ok (.iaload, 1) := by decide +kernel
theorem dL_law_689 : decode cL_law 689 = .ok (.invokevirtual 90, 3) := by decide +kernel
theorem dL_law_692 : decode cL_law 692 = .ok (.aload_n 2, 1) := by decide +kernel
theorem dL_law_693 : decode cL_law 693 = .ok (.aload_n 0, 1) := by decide +kernel
theorem dL_law_694 : decode cL_law 694 = .ok (.iload_n 3, 1) := by decide +kernel
theorem dL_law_695 : decode cL_law 695 = .ok (.iconst 1, 1) := by decide +kernel
theorem dL_law_696 : decode cL_law 696 = .ok (.iadd, 1) := by decide +kernel
theorem dL_law_697 : decode cL_law 697 = .ok (.iaload, 1) := by decide +kernel
theorem dL_law_698 : decode cL_law 698 = .ok (.aload_n 0, 1) := by decide +kernel
theorem dL_law_699 : decode cL_law 699 = .ok (.iload_n 3, 1) := by decide +kernel
theorem dL_law_700 : decode cL_law 700 = .ok (.iconst 2, 1) := by decide +kernel
theorem dL_law_701 : decode cL_law 701 = .ok (.iadd, 1) := by decide +kernel
theorem dL_law_702 : decode cL_law 702 = .ok (.iaload, 1) := by decide +kernel
theorem dL_law_703 : decode cL_law 703 = .ok (.aload_n 0, 1) := by decide +kernel
theorem dL_law_704 : decode cL_law 704 = .ok (.iload_n 3, 1) := by decide +kernel
theorem dL_law_705 : decode cL_law 705 = .ok (.iconst 3, 1) := by decide +kernel
theorem dL_law_706 : decode cL_law 706 = .ok (.iadd, 1) := by decide +kernel
theorem dL_law_707 : decode cL_law 707 = .ok (.iaload, 1) := by decide +kernel
theorem dL_law_708 : decode cL_law 708 = .ok (.aload_n 0, 1) := by decide +kernel
theorem dL_law_709 : decode cL_law 709 = .ok (.iload_n 3, 1) := by decide +kernel
theorem dL_law_710 : decode cL_law 710 = .ok (.iconst 4, 1) := by decide +kernel
theorem dL_law_711 : decode cL_law 711 = .ok (.iadd, 1) := by decide +kernel
theorem dL_law_712 : decode cL_law 712 = .ok (.iaload, 1) := by decide +kernel
theorem dL_law_713 : decode cL_law 713 = .ok (.invokevirtual 93, 3) := by decide +kernel
theorem dL_law_716 : decode cL_law 716 = .ok (.if_icmp .eq 236, 3) := by decide +kernel
theorem dL_law_719 : decode cL_law 719 = .ok (.iconst 0, 1) := by decide +kernel
theorem dL_law_720 : decode cL_law 720 = .ok (.ireturn, 1) := by decide +kernel
theorem dL_law_721 : decode cL_law 721 = .ok (.aload_n 1, 1) := by decide +kernel
theorem dL_law_722 : decode cL_law 722 = .ok (.aload_n 0, 1) := by decide +kernel
theorem dL_law_723 : decode cL_law 723 = .ok (.iload_n 3, 1) := by decide +kernel
theorem dL_law_724 : decode cL_law 724 = .ok (.iconst 1, 1) := by decide +kernel
theorem dL_law_725 : decode cL_law 725 = .ok (.iadd, 1) := by decide +kernel
theorem dL_law_726 : decode cL_law 726 = .ok (.iaload, 1) := by decide +kernel
theorem dL_law_727 : decode cL_law 727 = .ok (.invokevirtual 94, 3) := by decide +kernel
theorem dL_law_730 : decode cL_law 730 = .ok (.aload_n 2, 1) := by decide +kernel
theorem dL_law_731 : decode cL_law 731 = .ok (.aload_n 0, 1) := by decide +kernel
theorem dL_law_732 : decode cL_law 732 = .ok (.iload_n 3, 1) := by decide +kernel
theorem dL_law_733 : decode cL_law 733 = .ok (.iconst 1, 1) := by decide +kernel
theorem dL_law_734 : decode cL_law 734 = .ok (.iadd, 1) := by decide +kernel
theorem dL_law_735 : decode cL_law 735 = .ok (.iaload, 1) := by decide +kernel
theorem dL_law_736 : decode cL_law 736 = .ok (.invokevirtual 97, 3) := by decide +kernel
theorem dL_law_739 : decode cL_law 739 = .ok (.if_icmp .eq 213, 3) := by decide +kernel
theorem dL_law_742 : decode cL_law 742 = .ok (.iconst 0, 1) := by decide +kernel
theorem dL_law_743 : decode cL_law 743 = .ok (.ireturn, 1) := by decide +kernel
theorem dL_law_744 : decode cL_law 744 = .ok (.aload_n 1, 1) := by decide +kernel
theorem dL_law_745 : decode cL_law 745 = .ok (.aload_n 0, 1) := by decide +kernel
theorem dL_law_746 : decode cL_law 746 = .ok (.iload_n 3, 1) := by decide +kernel
theorem dL_law_747 : decode cL_law 747 = .ok (.iconst 1, 1) := by decide +kernel
theorem dL_law_748 : decode cL_law 748 = .ok (.iadd, 1) := by decide +kernel
theorem dL_law_749 : decode cL_law 749 = .ok (.iaload, 1) := by decide +kernel
theorem dL_law_750 : decode cL_law 750 = .ok (.invokevirtual 98, 3) := by decide +kernel
theorem dL_law_753 : decode cL_law 753 = .ok (.aload_n 2, 1) := by decide +kernel
theorem dL_law_754 : decode cL_law 754 = .ok (.aload_n 0, 1) := by decide +kernel
theorem dL_law_755 : decode cL_law 755 = .ok (.iload_n 3, 1) := by decide +kernel
theorem dL_law_756 : decode cL_law 756 = .ok (.iconst 1, 1) := by decide +kernel
theorem dL_law_757 : decode cL_law 757 = .ok (.iadd, 1) := by decide +kernel
theorem dL_law_758 : decode cL_law 758 = .ok (.iaload, 1) := by decide +kernel
theorem dL_law_759 : decode cL_law 759 = .ok (.invokevirtual 101, 3) := by decide +kernel
theorem dL_law_762 : decode cL_law 762 = .ok (.if_icmp .eq 190, 3) := by decide +kernel
theorem dL_law_765 : decode cL_law 765 = .ok (.iconst 0, 1) := by decide +kernel
theorem dL_law_766 : decode cL_law 766 = .ok (.ireturn, 1) := by decide +kernel
theorem dL_law_767 : decode cL_law 767 = .ok (.aload_n 1, 1) := by decide +kernel
theorem dL_law_768 : decode cL_law 768 = .ok (.aload_n 0, 1) := by decide +kernel
theorem dL_law_769 : decode cL_law 769 = .ok (.iload_n 3, 1) := by decide +kernel
theorem dL_law_770 : decode cL_law 770 = .ok (.iconst 1, 1) := by decide +kernel
theorem dL_law_771 : decode cL_law 771 = .ok (.iadd, 1) := by decide +kernel
theorem dL_law_772 : decode cL_law 772 = .ok (.iaload, 1) := by decide +kernel
theorem dL_law_773 : decode cL_law 773 = .ok (.aload_n 0, 1) := by decide +kernel
theorem dL_law_774 : decode cL_law 774 = .ok (.iload_n 3, 1) := by decide +kernel
theorem dL_law_775 : decode cL_law 775 = .ok (.iconst 2, 1) := by decide +kernel
theorem dL_law_776 : decode cL_law 776 = .ok (.iadd, 1) := by decide +kernel
theorem dL_law_777 : decode cL_law 777 = .ok (.iaload, 1) := by decide +kernel
theorem dL_law_778 : decode cL_law 778 = .ok (.invokevirtual 102, 3) := by decide +kernel
theorem dL_law_781 : decode cL_law 781 = .ok (.aload_n 2, 1) := by decide +kernel
theorem dL_law_782 : decode cL_law 782 = .ok (.aload_n 0, 1) := by decide +kernel
theorem dL_law_783 : decode cL_law 783 = .ok (.iload_n 3, 1) := by decide +kernel
theorem dL_law_784 : decode cL_law 784 = .ok (.iconst 1, 1) := by decide +kernel
theorem dL_law_785 : decode cL_law 785 = .ok (.iadd, 1) := by decide +kernel
theorem dL_law_786 : decode cL_law 786 = .ok (.iaload, 1) := by decide +kernel
theorem dL_law_787 : decode cL_law 787 = .ok (.aload_n 0, 1) := by decide +kernel
theorem dL_law_788 : decode cL_law 788 = .ok (.iload_n 3, 1) := by decide +kernel
theorem dL_law_789 : decode cL_law 789 = .ok (.iconst 2, 1) := by decide +kernel
theorem dL_law_790 : decode cL_law 790 = .ok (.iadd, 1) := by decide +kernel
theorem dL_law_791 : decode cL_law 791 = .ok (.iaload, 1) := by decide +kernel
theorem dL_law_792 : decode cL_law 792 = .ok (.invokevirtual 105, 3) := by decide +kernel
theorem dL_law_795 : decode cL_law 795 = .ok (.if_icmp .eq 157, 3) := by decide +kernel
theorem dL_law_798 : decode cL_law 798 = .ok (.iconst 0, 1) := by decide +kernel
theorem dL_law_799 : decode cL_law 799 = .ok (.ireturn, 1) := by decide +kernel
theorem dL_law_800 : decode cL_law 800 = .ok (.aload_n 1, 1) := by decide +kernel
theorem dL_law_801 : decode cL_law 801 = .ok (.aload_n 0, 1) := by decide +kernel
theorem dL_law_802 : decode cL_law 802 = .ok (.iload_n 3, 1) := by decide +kernel
theorem dL_law_803 : decode cL_law 803 = .ok (.iconst 1, 1) := by decide +kernel
theorem dL_law_804 : decode cL_law 804 = .ok (.iadd, 1) := by decide +kernel
theorem dL_law_805 : decode cL_law 805 = .ok (.iaload, 1) := by decide +kernel
theorem dL_law_806 : decode cL_law 806 = .ok (.invokevirtual 106, 3) := by decide +kernel
theorem dL_law_809 : decode cL_law 809 = .ok (.aload_n 2, 1) := by decide +kernel
theorem dL_law_810 : decode cL_law 810 = .ok (.aload_n 0, 1) := by decide +kernel
theorem dL_law_811 : decode cL_law 811 = .ok (.iload_n 3, 1) := by decide +kernel
theorem dL_law_812 : decode cL_law 812 = .ok (.iconst 1, 1) := by decide +kernel
theorem dL_law_813 : decode cL_law 813 = .ok (.iadd, 1) := by decide +kernel
theorem dL_law_814 : decode cL_law 814 = .ok (.iaload, 1) := by decide +kernel
theorem dL_law_815 : decode cL_law 815 = .ok (.invokevirtual 109, 3) := by decide +kernel
theorem dL_law_818 : decode cL_law 818 = .ok (.if_icmp .eq 134, 3) := by decide +kernel
theorem dL_law_821 : decode cL_law 821 = .ok (.iconst 0, 1) := by decide +kernel
theorem dL_law_822 : decode cL_law 822 = .ok (.ireturn, 1) := by decide +kernel
theorem dL_law_823 : decode cL_law 823 = .ok (.aload_n 1, 1) := by decide +kernel
theorem dL_law_824 : decode cL_law 824 = .ok (.invokevirtual 110, 3) := by decide +kernel
theorem dL_law_827 : decode cL_law 827 = .ok (.aload_n 2, 1) := by decide +kernel
theorem dL_law_828 : decode cL_law 828 = .ok (.invokevirtual 113, 3) := by decide +kernel
theorem dL_law_831 : decode cL_law 831 = .ok (.if_icmp .eq 121, 3) := by decide +kernel
theorem dL_law_834 : decode cL_law 834 = .ok (.iconst 0, 1) := by decide +kernel
theorem dL_law_835 : decode cL_law 835 = .ok (.ireturn, 1) := by decide +kernel
theorem dL_law_836 : decode cL_law 836 = .ok (.aload_n 1, 1) := by decide +kernel
theorem dL_law_837 : decode cL_law 837 = .ok (.aload_n 0, 1) := by decide +kernel
theorem dL_law_838 : decode cL_law 838 = .ok (.iload_n 3, 1) := by decide +kernel
theorem dL_law_839 : decode cL_law 839 = .ok (.iconst 1, 1) := by decide +kernel
theorem dL_law_840 : decode cL_law 840 = .ok (.iadd, 1) := by decide +kernel
theorem dL_law_841 : decode cL_law 841 = .ok (.iaload, 1) := by decide +kernel
theorem dL_law_842 : decode cL_law 842 = .ok (.aload_n 0, 1) := by decide +kernel
theorem dL_law_843 : decode cL_law 843 = .ok (.iload_n 3, 1) := by decide +kernel
theorem dL_law_844 : decode cL_law 844 = .ok (.iconst 2, 1) := by decide +kernel
theorem dL_law_845 : decode cL_law 845 = .ok (.iadd, 1) := by decide +kernel
theorem dL_law_846 : decode cL_law 846 = .ok (.iaload, 1) := by decide +kernel
theorem dL_law_847 : decode cL_law 847 = .ok (.invokevirtual 114, 3) := by decide +kernel
theorem dL_law_850 : decode cL_law 850 = .ok (.aload_n 2, 1) := by decide +kernel
theorem dL_law_851 : decode cL_law 851 = .ok (.aload_n 0, 1) := by decide +kernel
theorem dL_law_852 : decode cL_law 852 = .ok (.iload_n 3, 1) := by decide +kernel
theorem dL_law_853 : decode cL_law 853 = .ok (.iconst 1, 1) := by decide +kernel
theorem dL_law_854 : decode cL_law 854 = .ok (.iadd, 1) := by decide +kernel
theorem dL_law_855 : decode cL_law 855 = .ok (.iaload, 1) := by decide +kernel
theorem dL_law_856 : decode cL_law 856 = .ok (.aload_n 0, 1) := by decide +kernel
theorem dL_law_857 : decode cL_law 857 = .ok (.iload_n 3, 1) := by decide +kernel
theorem dL_law_858 : decode cL_law 858 = .ok (.iconst 2, 1) := by decide +kernel
theorem dL_law_859 : decode cL_law 859 = .ok (.iadd, 1) := by decide +kernel
theorem dL_law_860 : decode cL_law 860 = .ok (.iaload, 1) := by decide +kernel
theorem dL_law_861 : decode cL_law 861 = .ok (.invokevirtual 117, 3) := by decide +kernel
theorem dL_law_864 : decode cL_law 864 = .ok (.if_icmp .eq 88, 3) := by decide +kernel
theorem dL_law_867 : decode cL_law 867 = .ok (.iconst 0, 1) := by decide +kernel
theorem dL_law_868 : decode cL_law 868 = .ok (.ireturn, 1) := by decide +kernel
theorem dL_law_869 : decode cL_law 869 = .ok (.aload_n 1, 1) := by decide +kernel
theorem dL_law_870 : decode cL_law 870 = .ok (.aload_n 0, 1) := by decide +kernel
theorem dL_law_871 : decode cL_law 871 = .ok (.iload_n 3, 1) := by decide +kernel
theorem dL_law_872 : decode cL_law 872 = .ok (.iconst 1, 1) := by decide +kernel
theorem dL_law_873 : decode cL_law 873 = .ok (.iadd, 1) := by decide +kernel
theorem dL_law_874 : decode cL_law 874 = .ok (.iaload, 1) := by decide +kernel
theorem dL_law_875 : decode cL_law 875 = .ok (.invokevirtual 118, 3) := by decide +kernel
theorem dL_law_878 : decode cL_law 878 = .ok (.aload_n 2, 1) := by decide +kernel
theorem dL_law_879 : decode cL_law 879 = .ok (.aload_n 0, 1) := by decide +kernel
theorem dL_law_880 : decode cL_law 880 = .ok (.iload_n 3, 1) := by decide +kernel
theorem dL_law_881 : decode cL_law 881 = .ok (.iconst 1, 1) := by decide +kernel
theorem dL_law_882 : decode cL_law 882 = .ok (.iadd, 1) := by decide +kernel
theorem dL_law_883 : decode cL_law 883 = .ok (.iaload, 1) := by decide +kernel
theorem dL_law_884 : decode cL_law 884 = .ok (.invokevirtual 121, 3) := by decide +kernel
theorem dL_law_887 : decode cL_law 887 = .ok (.if_icmp .eq 65, 3) := by decide +kernel
theorem dL_law_890 : decode cL_law 890 = .ok (.iconst 0, 1) := by decide +kernel
theorem dL_law_891 : decode cL_law 891 = .ok (.ireturn, 1) := by decide +kernel
theorem dL_law_892 : decode cL_law 892 = .ok (.aload_n 1, 1) := by decide +kernel
theorem dL_law_893 : decode cL_law 893 = .ok (.aload_n 0, 1) := by decide +kernel
theorem dL_law_894 : decode cL_law 894 = .ok (.iload_n 3, 1) := by decide +kernel
theorem dL_law_895 : decode cL_law 895 = .ok (.iconst 1, 1) := by decide +kernel
theorem dL_law_896 : decode cL_law 896 = .ok (.iadd, 1) := by decide +kernel
theorem dL_law_897 : decode cL_law 897 = .ok (.iaload, 1) := by decide +kernel
theorem dL_law_898 : decode cL_law 898 = .ok (.invokevirtual 122, 3) := by decide +kernel
theorem dL_law_901 : decode cL_law 901 = .ok (.aload_n 2, 1) := by decide +kernel
theorem dL_law_902 : decode cL_law 902 = .ok (.aload_n 0, 1) := by decide +kernel
theorem dL_law_903 : decode cL_law 903 = .ok (.iload_n 3, 1) := by decide +kernel
theorem dL_law_904 : decode cL_law 904 = .ok (.iconst 1, 1) := by decide +kernel
theorem dL_law_905 : decode cL_law 905 = .ok (.iadd, 1) := by decide +kernel
theorem dL_law_906 : decode cL_law 906 = .ok (.iaload, 1) := by decide +kernel
theorem dL_law_907 : decode cL_law 907 = .ok (.invokevirtual 125, 3) := by decide +kernel
theorem dL_law_910 : decode cL_law 910 = .ok (.if_icmp .eq 42, 3) := by decide +kernel
theorem dL_law_913 : decode cL_law 913 = .ok (.iconst 0, 1) := by decide +kernel
theorem dL_law_914 : decode cL_law 914 = .ok (.ireturn, 1) := by decide +kernel
theorem dL_law_915 : decode cL_law 915 = .ok (.aload_n 1, 1) := by decide +kernel
theorem dL_law_916 : decode cL_law 916 = .ok (.aload_n 0, 1) := by decide +kernel
theorem dL_law_917 : decode cL_law 917 = .ok (.iload_n 3, 1) := by decide +kernel
theorem dL_law_918 : decode cL_law 918 = .ok (.iconst 1, 1) := by decide +kernel
theorem dL_law_919 : decode cL_law 919 = .ok (.iadd, 1) := by decide +kernel
theorem dL_law_920 : decode cL_law 920 = .ok (.iaload, 1) := by decide +kernel
theorem dL_law_921 : decode cL_law 921 = .ok (.invokevirtual 126, 3) := by decide +kernel
theorem dL_law_924 : decode cL_law 924 = .ok (.aload_n 2, 1) := by decide +kernel
theorem dL_law_925 : decode cL_law 925 = .ok (.aload_n 0, 1) := by decide +kernel
theorem dL_law_926 : decode cL_law 926 = .ok (.iload_n 3, 1) := by decide +kernel
theorem dL_law_927 : decode cL_law 927 = .ok (.iconst 1, 1) := by decide +kernel
theorem dL_law_928 : decode cL_law 928 = .ok (.iadd, 1) := by decide +kernel
theorem dL_law_929 : decode cL_law 929 = .ok (.iaload, 1) := by decide +kernel
theorem dL_law_930 : decode cL_law 930 = .ok (.invokevirtual 129, 3) := by decide +kernel
theorem dL_law_933 : decode cL_law 933 = .ok (.if_icmp .eq 19, 3) := by decide +kernel
theorem dL_law_936 : decode cL_law 936 = .ok (.iconst 0, 1) := by decide +kernel
theorem dL_law_937 : decode cL_law 937 = .ok (.ireturn, 1) := by decide +kernel
theorem dL_law_938 : decode cL_law 938 = .ok (.aload_n 1, 1) := by decide +kernel
theorem dL_law_939 : decode cL_law 939 = .ok (.invokevirtual 130, 3) := by decide +kernel
theorem dL_law_942 : decode cL_law 942 = .ok (.aload_n 2, 1) := by decide +kernel
theorem dL_law_943 : decode cL_law 943 = .ok (.invokevirtual 134, 3) := by decide +kernel
theorem dL_law_946 : decode cL_law 946 = .ok (.lcmp, 1) := by decide +kernel
theorem dL_law_947 : decode cL_law 947 = .ok (.ifCond .eq 5, 3) := by decide +kernel
theorem dL_law_950 : decode cL_law 950 = .ok (.iconst 0, 1) := by decide +kernel
theorem dL_law_951 : decode cL_law 951 = .ok (.ireturn, 1) := by decide +kernel
theorem dL_law_952 : decode cL_law 952 = .ok (.iinc 3 5, 3) := by decide +kernel
theorem dL_law_955 : decode cL_law 955 = .ok (.goto (-937), 3) := by decide +kernel
theorem dL_law_958 : decode cL_law 958 = .ok (.iconst 1, 1) := by decide +kernel
theorem dL_law_959 : decode cL_law 959 = .ok (.ireturn, 1) := by decide +kernel
