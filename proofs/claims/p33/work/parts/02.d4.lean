/-! decode rows, 4 of 5 -/
theorem dX5_addUp_116 : decode cX5_addUp 116 = .ok (.goto 13, 3) := by decide +kernel
theorem dX5_addUp_119 : decode cX5_addUp 119 = .ok (.aload_n 0, 1) := by decide +kernel
theorem dX5_addUp_120 : decode cX5_addUp 120 = .ok (.getfield 10, 3) := by decide +kernel
theorem dX5_addUp_123 : decode cX5_addUp 123 = .ok (.getfield 74, 3) := by decide +kernel
theorem dX5_addUp_126 : decode cX5_addUp 126 = .ok (.iload 4, 2) := by decide +kernel
theorem dX5_addUp_128 : decode cX5_addUp 128 = .ok (.iaload, 1) := by decide +kernel
theorem dX5_addUp_129 : decode cX5_addUp 129 = .ok (.invokevirtual 245, 3) := by decide +kernel
theorem dX5_addUp_132 : decode cX5_addUp 132 = .ok (.iinc 4 1, 3) := by decide +kernel
theorem dX5_addUp_135 : decode cX5_addUp 135 = .ok (.goto (-93), 3) := by decide +kernel
theorem dX5_addUp_138 : decode cX5_addUp 138 = .ok (.iload_n 3, 1) := by decide +kernel
theorem dX5_addUp_139 : decode cX5_addUp 139 = .ok (.ifCond .ne 76, 3) := by decide +kernel
theorem dX5_addUp_142 : decode cX5_addUp 142 = .ok (.aload_n 0, 1) := by decide +kernel
theorem dX5_addUp_143 : decode cX5_addUp 143 = .ok (.getfield 10, 3) := by decide +kernel
theorem dX5_addUp_146 : decode cX5_addUp 146 = .ok (.getfield 83, 3) := by decide +kernel
theorem dX5_addUp_149 : decode cX5_addUp 149 = .ok (.astore 4, 2) := by decide +kernel
theorem dX5_addUp_151 : decode cX5_addUp 151 = .ok (.iconst 0, 1) := by decide +kernel
theorem dX5_addUp_152 : decode cX5_addUp 152 = .ok (.istore 5, 2) := by decide +kernel
theorem dX5_addUp_154 : decode cX5_addUp 154 = .ok (.iload 5, 2) := by decide +kernel
theorem dX5_addUp_156 : decode cX5_addUp 156 = .ok (.aload 4, 2) := by decide +kernel
theorem dX5_addUp_158 : decode cX5_addUp 158 = .ok (.getfield 93, 3) := by decide +kernel
theorem dX5_addUp_161 : decode cX5_addUp 161 = .ok (.if_icmp .ge 54, 3) := by decide +kernel
theorem dX5_addUp_164 : decode cX5_addUp 164 = .ok (.aload 4, 2) := by decide +kernel
theorem dX5_addUp_166 : decode cX5_addUp 166 = .ok (.getfield 103, 3) := by decide +kernel
theorem dX5_addUp_169 : decode cX5_addUp 169 = .ok (.iload 5, 2) := by decide +kernel
theorem dX5_addUp_171 : decode cX5_addUp 171 = .ok (.iaload, 1) := by decide +kernel
theorem dX5_addUp_172 : decode cX5_addUp 172 = .ok (.istore 6, 2) := by decide +kernel
theorem dX5_addUp_174 : decode cX5_addUp 174 = .ok (.aload_n 0, 1) := by decide +kernel
theorem dX5_addUp_175 : decode cX5_addUp 175 = .ok (.getfield 26, 3) := by decide +kernel
theorem dX5_addUp_178 : decode cX5_addUp 178 = .ok (.aload 4, 2) := by decide +kernel
theorem dX5_addUp_180 : decode cX5_addUp 180 = .ok (.getfield 102, 3) := by decide +kernel
theorem dX5_addUp_183 : decode cX5_addUp 183 = .ok (.iload 5, 2) := by decide +kernel
theorem dX5_addUp_185 : decode cX5_addUp 185 = .ok (.iaload, 1) := by decide +kernel
theorem dX5_addUp_186 : decode cX5_addUp 186 = .ok (.iload_n 2, 1) := by decide +kernel
theorem dX5_addUp_187 : decode cX5_addUp 187 = .ok (.ifCond .eq 17, 3) := by decide +kernel
theorem dX5_addUp_190 : decode cX5_addUp 190 = .ok (.iload 6, 2) := by decide +kernel
theorem dX5_addUp_192 : decode cX5_addUp 192 = .ok (.aload 4, 2) := by decide +kernel
theorem dX5_addUp_194 : decode cX5_addUp 194 = .ok (.getfield 101, 3) := by decide +kernel
theorem dX5_addUp_197 : decode cX5_addUp 197 = .ok (.iload 5, 2) := by decide +kernel
theorem dX5_addUp_199 : decode cX5_addUp 199 = .ok (.iaload, 1) := by decide +kernel
theorem dX5_addUp_200 : decode cX5_addUp 200 = .ok (.imul, 1) := by decide +kernel
theorem dX5_addUp_201 : decode cX5_addUp 201 = .ok (.goto 5, 3) := by decide +kernel
theorem dX5_addUp_204 : decode cX5_addUp 204 = .ok (.iload 6, 2) := by decide +kernel
theorem dX5_addUp_206 : decode cX5_addUp 206 = .ok (.invokevirtual 245, 3) := by decide +kernel
theorem dX5_addUp_209 : decode cX5_addUp 209 = .ok (.iinc 5 1, 3) := by decide +kernel
theorem dX5_addUp_212 : decode cX5_addUp 212 = .ok (.goto (-58), 3) := by decide +kernel
theorem dX5_addUp_215 : decode cX5_addUp 215 = .ok (.return_, 1) := by decide +kernel
theorem dJ6_bitCount_0f7a4_0 : decode cJ6_bitCount_0f7a4 0 = .ok (.iload_n 0, 1) := by decide +kernel
theorem dJ6_bitCount_0f7a4_1 : decode cJ6_bitCount_0f7a4 1 = .ok (.iload_n 0, 1) := by decide +kernel
theorem dJ6_bitCount_0f7a4_2 : decode cJ6_bitCount_0f7a4 2 = .ok (.iconst 1, 1) := by decide +kernel
theorem dJ6_bitCount_0f7a4_3 : decode cJ6_bitCount_0f7a4 3 = .ok (.iushr, 1) := by decide +kernel
theorem dJ6_bitCount_0f7a4_4 : decode cJ6_bitCount_0f7a4 4 = .ok (.ldc_w 265, 3) := by decide +kernel
theorem dJ6_bitCount_0f7a4_7 : decode cJ6_bitCount_0f7a4 7 = .ok (.iand, 1) := by decide +kernel
theorem dJ6_bitCount_0f7a4_8 : decode cJ6_bitCount_0f7a4 8 = .ok (.isub, 1) := by decide +kernel
theorem dJ6_bitCount_0f7a4_9 : decode cJ6_bitCount_0f7a4 9 = .ok (.istore_n 0, 1) := by decide +kernel
theorem dJ6_bitCount_0f7a4_10 : decode cJ6_bitCount_0f7a4 10 = .ok (.iload_n 0, 1) := by decide +kernel
theorem dJ6_bitCount_0f7a4_11 : decode cJ6_bitCount_0f7a4 11 = .ok (.ldc_w 266, 3) := by decide +kernel
theorem dJ6_bitCount_0f7a4_14 : decode cJ6_bitCount_0f7a4 14 = .ok (.iand, 1) := by decide +kernel
theorem dJ6_bitCount_0f7a4_15 : decode cJ6_bitCount_0f7a4 15 = .ok (.iload_n 0, 1) := by decide +kernel
theorem dJ6_bitCount_0f7a4_16 : decode cJ6_bitCount_0f7a4 16 = .ok (.iconst 2, 1) := by decide +kernel
theorem dJ6_bitCount_0f7a4_17 : decode cJ6_bitCount_0f7a4 17 = .ok (.iushr, 1) := by decide +kernel
theorem dJ6_bitCount_0f7a4_18 : decode cJ6_bitCount_0f7a4 18 = .ok (.ldc_w 266, 3) := by decide +kernel
theorem dJ6_bitCount_0f7a4_21 : decode cJ6_bitCount_0f7a4 21 = .ok (.iand, 1) := by decide +kernel
theorem dJ6_bitCount_0f7a4_22 : decode cJ6_bitCount_0f7a4 22 = .ok (.iadd, 1) := by decide +kernel
theorem dJ6_bitCount_0f7a4_23 : decode cJ6_bitCount_0f7a4 23 = .ok (.istore_n 0, 1) := by decide +kernel
theorem dJ6_bitCount_0f7a4_24 : decode cJ6_bitCount_0f7a4 24 = .ok (.iload_n 0, 1) := by decide +kernel
theorem dJ6_bitCount_0f7a4_25 : decode cJ6_bitCount_0f7a4 25 = .ok (.iload_n 0, 1) := by decide +kernel
theorem dJ6_bitCount_0f7a4_26 : decode cJ6_bitCount_0f7a4 26 = .ok (.iconst 4, 1) := by decide +kernel
theorem dJ6_bitCount_0f7a4_27 : decode cJ6_bitCount_0f7a4 27 = .ok (.iushr, 1) := by decide +kernel
theorem dJ6_bitCount_0f7a4_28 : decode cJ6_bitCount_0f7a4 28 = .ok (.iadd, 1) := by decide +kernel
theorem dJ6_bitCount_0f7a4_29 : decode cJ6_bitCount_0f7a4 29 = .ok (.ldc_w 267, 3) := by decide +kernel
theorem dJ6_bitCount_0f7a4_32 : decode cJ6_bitCount_0f7a4 32 = .ok (.iand, 1) := by decide +kernel
theorem dJ6_bitCount_0f7a4_33 : decode cJ6_bitCount_0f7a4 33 = .ok (.istore_n 0, 1) := by decide +kernel
theorem dJ6_bitCount_0f7a4_34 : decode cJ6_bitCount_0f7a4 34 = .ok (.iload_n 0, 1) := by decide +kernel
theorem dJ6_bitCount_0f7a4_35 : decode cJ6_bitCount_0f7a4 35 = .ok (.iload_n 0, 1) := by decide +kernel
theorem dJ6_bitCount_0f7a4_36 : decode cJ6_bitCount_0f7a4 36 = .ok (.bipush 8, 2) := by decide +kernel
theorem dJ6_bitCount_0f7a4_38 : decode cJ6_bitCount_0f7a4 38 = .ok (.iushr, 1) := by decide +kernel
theorem dJ6_bitCount_0f7a4_39 : decode cJ6_bitCount_0f7a4 39 = .ok (.iadd, 1) := by decide +kernel
theorem dJ6_bitCount_0f7a4_40 : decode cJ6_bitCount_0f7a4 40 = .ok (.istore_n 0, 1) := by decide +kernel
theorem dJ6_bitCount_0f7a4_41 : decode cJ6_bitCount_0f7a4 41 = .ok (.iload_n 0, 1) := by decide +kernel
theorem dJ6_bitCount_0f7a4_42 : decode cJ6_bitCount_0f7a4 42 = .ok (.iload_n 0, 1) := by decide +kernel
theorem dJ6_bitCount_0f7a4_43 : decode cJ6_bitCount_0f7a4 43 = .ok (.bipush 16, 2) := by decide +kernel
theorem dJ6_bitCount_0f7a4_45 : decode cJ6_bitCount_0f7a4 45 = .ok (.iushr, 1) := by decide +kernel
theorem dJ6_bitCount_0f7a4_46 : decode cJ6_bitCount_0f7a4 46 = .ok (.iadd, 1) := by decide +kernel
theorem dJ6_bitCount_0f7a4_47 : decode cJ6_bitCount_0f7a4 47 = .ok (.istore_n 0, 1) := by decide +kernel
theorem dJ6_bitCount_0f7a4_48 : decode cJ6_bitCount_0f7a4 48 = .ok (.iload_n 0, 1) := by decide +kernel
theorem dJ6_bitCount_0f7a4_49 : decode cJ6_bitCount_0f7a4 49 = .ok (.bipush 63, 2) := by decide +kernel
theorem dJ6_bitCount_0f7a4_51 : decode cJ6_bitCount_0f7a4 51 = .ok (.iand, 1) := by decide +kernel
theorem dJ6_bitCount_0f7a4_52 : decode cJ6_bitCount_0f7a4 52 = .ok (.ireturn, 1) := by decide +kernel
theorem dJ9_floorMod_7cf53_0 : decode cJ9_floorMod_7cf53 0 = .ok (.iload_n 0, 1) := by decide +kernel
theorem dJ9_floorMod_7cf53_1 : decode cJ9_floorMod_7cf53 1 = .ok (.iload_n 1, 1) := by decide +kernel
theorem dJ9_floorMod_7cf53_2 : decode cJ9_floorMod_7cf53 2 = .ok (.irem, 1) := by decide +kernel
theorem dJ9_floorMod_7cf53_3 : decode cJ9_floorMod_7cf53 3 = .ok (.istore_n 2, 1) := by decide +kernel
theorem dJ9_floorMod_7cf53_4 : decode cJ9_floorMod_7cf53 4 = .ok (.iload_n 0, 1) := by decide +kernel
theorem dJ9_floorMod_7cf53_5 : decode cJ9_floorMod_7cf53 5 = .ok (.iload_n 1, 1) := by decide +kernel
theorem dJ9_floorMod_7cf53_6 : decode cJ9_floorMod_7cf53 6 = .ok (.ixor, 1) := by decide +kernel
theorem dJ9_floorMod_7cf53_7 : decode cJ9_floorMod_7cf53 7 = .ok (.ifCond .ge 11, 3) := by decide +kernel
theorem dJ9_floorMod_7cf53_10 : decode cJ9_floorMod_7cf53 10 = .ok (.iload_n 2, 1) := by decide +kernel
theorem dJ9_floorMod_7cf53_11 : decode cJ9_floorMod_7cf53 11 = .ok (.ifCond .eq 7, 3) := by decide +kernel
theorem dJ9_floorMod_7cf53_14 : decode cJ9_floorMod_7cf53 14 = .ok (.iload_n 2, 1) := by decide +kernel
theorem dJ9_floorMod_7cf53_15 : decode cJ9_floorMod_7cf53 15 = .ok (.iload_n 1, 1) := by decide +kernel
theorem dJ9_floorMod_7cf53_16 : decode cJ9_floorMod_7cf53 16 = .ok (.iadd, 1) := by decide +kernel
theorem dJ9_floorMod_7cf53_17 : decode cJ9_floorMod_7cf53 17 = .ok (.ireturn, 1) := by decide +kernel
theorem dJ9_floorMod_7cf53_18 : decode cJ9_floorMod_7cf53 18 = .ok (.iload_n 2, 1) := by decide +kernel
theorem dJ9_floorMod_7cf53_19 : decode cJ9_floorMod_7cf53 19 = .ok (.ireturn, 1) := by decide +kernel
theorem dJ9_abs_0f7a4_0 : decode cJ9_abs_0f7a4 0 = .ok (.iload_n 0, 1) := by decide +kernel
theorem dJ9_abs_0f7a4_1 : decode cJ9_abs_0f7a4 1 = .ok (.ifCond .ge 8, 3) := by decide +kernel
theorem dJ9_abs_0f7a4_4 : decode cJ9_abs_0f7a4 4 = .ok (.iload_n 0, 1) := by decide +kernel
theorem dJ9_abs_0f7a4_5 : decode cJ9_abs_0f7a4 5 = .ok (.ineg, 1) := by decide +kernel
theorem dJ9_abs_0f7a4_6 : decode cJ9_abs_0f7a4 6 = .ok (.goto 4, 3) := by decide +kernel
theorem dJ9_abs_0f7a4_9 : decode cJ9_abs_0f7a4 9 = .ok (.iload_n 0, 1) := by decide +kernel
theorem dJ9_abs_0f7a4_10 : decode cJ9_abs_0f7a4 10 = .ok (.ireturn, 1) := by decide +kernel
theorem dJ9_max_7cf53_0 : decode cJ9_max_7cf53 0 = .ok (.iload_n 0, 1) := by decide +kernel
theorem dJ9_max_7cf53_1 : decode cJ9_max_7cf53 1 = .ok (.iload_n 1, 1) := by decide +kernel
theorem dJ9_max_7cf53_2 : decode cJ9_max_7cf53 2 = .ok (.if_icmp .lt 7, 3) := by decide +kernel
theorem dJ9_max_7cf53_5 : decode cJ9_max_7cf53 5 = .ok (.iload_n 0, 1) := by decide +kernel
theorem dJ9_max_7cf53_6 : decode cJ9_max_7cf53 6 = .ok (.goto 4, 3) := by decide +kernel
theorem dJ9_max_7cf53_9 : decode cJ9_max_7cf53 9 = .ok (.iload_n 1, 1) := by decide +kernel
theorem dJ9_max_7cf53_10 : decode cJ9_max_7cf53 10 = .ok (.ireturn, 1) := by decide +kernel
theorem dJ9_min_7cf53_0 : decode cJ9_min_7cf53 0 = .ok (.iload_n 0, 1) := by decide +kernel
theorem dJ9_min_7cf53_1 : decode cJ9_min_7cf53 1 = .ok (.iload_n 1, 1) := by decide +kernel
theorem dJ9_min_7cf53_2 : decode cJ9_min_7cf53 2 = .ok (.if_icmp .gt 7, 3) := by decide +kernel
theorem dJ9_min_7cf53_5 : decode cJ9_min_7cf53 5 = .ok (.iload_n 0, 1) := by decide +kernel
theorem dJ9_min_7cf53_6 : decode cJ9_min_7cf53 6 = .ok (.goto 4, 3) := by decide +kernel
theorem dJ9_min_7cf53_9 : decode cJ9_min_7cf53 9 = .ok (.iload_n 1, 1) := by decide +kernel
theorem dJ9_min_7cf53_10 : decode cJ9_min_7cf53 10 = .ok (.ireturn, 1) := by decide +kernel
theorem dL_cell_0 : decode cL_cell 0 = .ok (.iload_n 1, 1) := by decide +kernel
theorem dL_cell_1 : decode cL_cell 1 = .ok (.aload_n 0, 1) := by decide +kernel
theorem dL_cell_2 : decode cL_cell 2 = .ok (.arraylength, 1) := by decide +kernel
theorem dL_cell_3 : decode cL_cell 3 = .ok (.if_icmp .ge 9, 3) := by decide +kernel
theorem dL_cell_6 : decode cL_cell 6 = .ok (.aload_n 0, 1) := by decide +kernel
theorem dL_cell_7 : decode cL_cell 7 = .ok (.iload_n 1, 1) := by decide +kernel
theorem dL_cell_8 : decode cL_cell 8 = .ok (.iaload, 1) := by decide +kernel
theorem dL_cell_9 : decode cL_cell 9 = .ok (.goto 11, 3) := by decide +kernel
theorem dL_cell_12 : decode cL_cell 12 = .ok (.ldc 7, 2) := by decide +kernel
theorem dL_cell_14 : decode cL_cell 14 = .ok (.iload_n 1, 1) := by decide +kernel
theorem dL_cell_15 : decode cL_cell 15 = .ok (.imul, 1) := by decide +kernel
theorem dL_cell_16 : decode cL_cell 16 = .ok (.sipush 439, 3) := by decide +kernel
theorem dL_cell_19 : decode cL_cell 19 = .ok (.iadd, 1) := by decide +kernel
theorem dL_cell_20 : decode cL_cell 20 = .ok (.ldc 8, 2) := by decide +kernel
theorem dL_cell_22 : decode cL_cell 22 = .ok (.iand, 1) := by decide +kernel
theorem dL_cell_23 : decode cL_cell 23 = .ok (.ireturn, 1) := by decide +kernel
theorem dL_begins_0 : decode cL_begins 0 = .ok (.aload_n 1, 1) := by decide +kernel
theorem dL_begins_1 : decode cL_begins 1 = .ok (.iconst 0, 1) := by decide +kernel
theorem dL_begins_2 : decode cL_begins 2 = .ok (.iload_n 2, 1) := by decide +kernel
theorem dL_begins_3 : decode cL_begins 3 = .ok (.iastore, 1) := by decide +kernel
theorem dL_begins_4 : decode cL_begins 4 = .ok (.iconst 0, 1) := by decide +kernel
theorem dL_begins_5 : decode cL_begins 5 = .ok (.istore_n 3, 1) := by decide +kernel
theorem dL_begins_6 : decode cL_begins 6 = .ok (.iload_n 3, 1) := by decide +kernel
theorem dL_begins_7 : decode cL_begins 7 = .ok (.bipush 8, 2) := by decide +kernel
theorem dL_begins_9 : decode cL_begins 9 = .ok (.if_icmp .ge 31, 3) := by decide +kernel
theorem dL_begins_12 : decode cL_begins 12 = .ok (.aload_n 0, 1) := by decide +kernel
theorem dL_begins_13 : decode cL_begins 13 = .ok (.iload_n 3, 1) := by decide +kernel
theorem dL_begins_14 : decode cL_begins 14 = .ok (.iconst 0, 1) := by decide +kernel
theorem dL_begins_15 : decode cL_begins 15 = .ok (.iastore, 1) := by decide +kernel
theorem dL_begins_16 : decode cL_begins 16 = .ok (.aload_n 0, 1) := by decide +kernel
theorem dL_begins_17 : decode cL_begins 17 = .ok (.bipush 8, 2) := by decide +kernel
theorem dL_begins_19 : decode cL_begins 19 = .ok (.iload_n 3, 1) := by decide +kernel
theorem dL_begins_20 : decode cL_begins 20 = .ok (.iadd, 1) := by decide +kernel
theorem dL_begins_21 : decode cL_begins 21 = .ok (.bipush 10, 2) := by decide +kernel
theorem dL_begins_23 : decode cL_begins 23 = .ok (.iastore, 1) := by decide +kernel
theorem dL_begins_24 : decode cL_begins 24 = .ok (.aload_n 0, 1) := by decide +kernel
theorem dL_begins_25 : decode cL_begins 25 = .ok (.bipush 16, 2) := by decide +kernel
theorem dL_begins_27 : decode cL_begins 27 = .ok (.iload_n 3, 1) := by decide +kernel
theorem dL_begins_28 : decode cL_begins 28 = .ok (.iadd, 1) := by decide +kernel
theorem dL_begins_29 : decode cL_begins 29 = .ok (.bipush 10, 2) := by decide +kernel
theorem dL_begins_31 : decode cL_begins 31 = .ok (.iload_n 3, 1) := by decide +kernel
theorem dL_begins_32 : decode cL_begins 32 = .ok (.imul, 1) := by decide +kernel
theorem dL_begins_33 : decode cL_begins 33 = .ok (.iastore, 1) := by decide +kernel
theorem dL_begins_34 : decode cL_begins 34 = .ok (.iinc 3 1, 3) := by decide +kernel
theorem dL_begins_37 : decode cL_begins 37 = .ok (.goto (-31), 3) := by decide +kernel
theorem dL_begins_40 : decode cL_begins 40 = .ok (.return_, 1) := by decide +kernel
theorem dL_sets_0 : decode cL_sets 0 = .ok (.iload_n 3, 1) := by decide +kernel
theorem dL_sets_1 : decode cL_sets 1 = .ok (.iconst 3, 1) := by decide +kernel
theorem dL_sets_2 : decode cL_sets 2 = .ok (.ishr, 1) := by decide +kernel
theorem dL_sets_3 : decode cL_sets 3 = .ok (.aload_n 2, 1) := by decide +kernel
theorem dL_sets_4 : decode cL_sets 4 = .ok (.iconst 0, 1) := by decide +kernel
theorem dL_sets_5 : decode cL_sets 5 = .ok (.iaload, 1) := by decide +kernel
theorem dL_sets_6 : decode cL_sets 6 = .ok (.irem, 1) := by decide +kernel
theorem dL_sets_7 : decode cL_sets 7 = .ok (.istore 4, 2) := by decide +kernel
theorem dL_sets_9 : decode cL_sets 9 = .ok (.iload_n 3, 1) := by decide +kernel
theorem dL_sets_10 : decode cL_sets 10 = .ok (.bipush 6, 2) := by decide +kernel
theorem dL_sets_12 : decode cL_sets 12 = .ok (.ishr, 1) := by decide +kernel
theorem dL_sets_13 : decode cL_sets 13 = .ok (.istore 5, 2) := by decide +kernel
theorem dL_sets_15 : decode cL_sets 15 = .ok (.iload_n 3, 1) := by decide +kernel
theorem dL_sets_16 : decode cL_sets 16 = .ok (.bipush 7, 2) := by decide +kernel
theorem dL_sets_18 : decode cL_sets 18 = .ok (.iand, 1) := by decide +kernel
theorem dL_sets_19 : decode cL_sets 19 = .ok (.iconst 3, 1) := by decide +kernel
theorem dL_sets_20 : decode cL_sets 20 = .ok (.if_icmp .ge 82, 3) := by decide +kernel
theorem dL_sets_23 : decode cL_sets 23 = .ok (.aload_n 1, 1) := by decide +kernel
theorem dL_sets_24 : decode cL_sets 24 = .ok (.iload 4, 2) := by decide +kernel
theorem dL_sets_26 : decode cL_sets 26 = .ok (.iaload, 1) := by decide +kernel
theorem dL_sets_27 : decode cL_sets 27 = .ok (.istore 6, 2) := by decide +kernel
theorem dL_sets_29 : decode cL_sets 29 = .ok (.aload_n 1, 1) := by decide +kernel
theorem dL_sets_30 : decode cL_sets 30 = .ok (.iload 4, 2) := by decide +kernel
theorem dL_sets_32 : decode cL_sets 32 = .ok (.iload 5, 2) := by decide +kernel
theorem dL_sets_34 : decode cL_sets 34 = .ok (.iconst 3, 1) := by decide +kernel
theorem dL_sets_35 : decode cL_sets 35 = .ok (.irem, 1) := by decide +kernel
theorem dL_sets_36 : decode cL_sets 36 = .ok (.ifCond .ne 11, 3) := by decide +kernel
theorem dL_sets_39 : decode cL_sets 39 = .ok (.iload 5, 2) := by decide +kernel
theorem dL_sets_41 : decode cL_sets 41 = .ok (.bipush 12, 2) := by decide +kernel
theorem dL_sets_43 : decode cL_sets 43 = .ok (.irem, 1) := by decide +kernel
theorem dL_sets_44 : decode cL_sets 44 = .ok (.goto 10, 3) := by decide +kernel
theorem dL_sets_47 : decode cL_sets 47 = .ok (.iload 5, 2) := by decide +kernel
theorem dL_sets_49 : decode cL_sets 49 = .ok (.bipush 6, 2) := by decide +kernel
theorem dL_sets_51 : decode cL_sets 51 = .ok (.irem, 1) := by decide +kernel
theorem dL_sets_52 : decode cL_sets 52 = .ok (.iconst 2, 1) := by decide +kernel
theorem dL_sets_53 : decode cL_sets 53 = .ok (.imul, 1) := by decide +kernel
theorem dL_sets_54 : decode cL_sets 54 = .ok (.iastore, 1) := by decide +kernel
theorem dL_sets_55 : decode cL_sets 55 = .ok (.aload_n 0, 1) := by decide +kernel
theorem dL_sets_56 : decode cL_sets 56 = .ok (.iload 4, 2) := by decide +kernel
theorem dL_sets_58 : decode cL_sets 58 = .ok (.aload_n 1, 1) := by decide +kernel
theorem dL_sets_59 : decode cL_sets 59 = .ok (.iload 4, 2) := by decide +kernel
theorem dL_sets_61 : decode cL_sets 61 = .ok (.iaload, 1) := by decide +kernel
theorem dL_sets_62 : decode cL_sets 62 = .ok (.invokevirtual 9, 3) := by decide +kernel
theorem dL_sets_65 : decode cL_sets 65 = .ok (.iload 6, 2) := by decide +kernel
theorem dL_sets_67 : decode cL_sets 67 = .ok (.if_icmp .ne 33, 3) := by decide +kernel
theorem dL_sets_70 : decode cL_sets 70 = .ok (.aload_n 0, 1) := by decide +kernel
theorem dL_sets_71 : decode cL_sets 71 = .ok (.iload 4, 2) := by decide +kernel
theorem dL_sets_73 : decode cL_sets 73 = .ok (.bipush 12, 2) := by decide +kernel
theorem dL_sets_75 : decode cL_sets 75 = .ok (.invokevirtual 9, 3) := by decide +kernel
theorem dL_sets_78 : decode cL_sets 78 = .ok (.ldc 15, 2) := by decide +kernel
theorem dL_sets_80 : decode cL_sets 80 = .ok (.if_icmp .ne 20, 3) := by decide +kernel
theorem dL_sets_83 : decode cL_sets 83 = .ok (.aload_n 0, 1) := by decide +kernel
theorem dL_sets_84 : decode cL_sets 84 = .ok (.aload_n 2, 1) := by decide +kernel
theorem dL_sets_85 : decode cL_sets 85 = .ok (.iconst 0, 1) := by decide +kernel
theorem dL_sets_86 : decode cL_sets 86 = .ok (.iaload, 1) := by decide +kernel
theorem dL_sets_87 : decode cL_sets 87 = .ok (.iconst 0, 1) := by decide +kernel
theorem dL_sets_88 : decode cL_sets 88 = .ok (.invokevirtual 9, 3) := by decide +kernel
theorem dL_sets_91 : decode cL_sets 91 = .ok (.ldc 16, 2) := by decide +kernel
theorem dL_sets_93 : decode cL_sets 93 = .ok (.if_icmp .ne 7, 3) := by decide +kernel
theorem dL_sets_96 : decode cL_sets 96 = .ok (.iconst 1, 1) := by decide +kernel
theorem dL_sets_97 : decode cL_sets 97 = .ok (.goto 4, 3) := by decide +kernel
theorem dL_sets_100 : decode cL_sets 100 = .ok (.iconst 0, 1) := by decide +kernel
theorem dL_sets_101 : decode cL_sets 101 = .ok (.ireturn, 1) := by decide +kernel
theorem dL_sets_102 : decode cL_sets 102 = .ok (.iload_n 3, 1) := by decide +kernel
theorem dL_sets_103 : decode cL_sets 103 = .ok (.bipush 7, 2) := by decide +kernel
theorem dL_sets_105 : decode cL_sets 105 = .ok (.iand, 1) := by decide +kernel
theorem dL_sets_106 : decode cL_sets 106 = .ok (.iconst 5, 1) := by decide +kernel
theorem dL_sets_107 : decode cL_sets 107 = .ok (.if_icmp .ge 89, 3) := by decide +kernel
theorem dL_sets_110 : decode cL_sets 110 = .ok (.aload_n 1, 1) := by decide +kernel
theorem dL_sets_111 : decode cL_sets 111 = .ok (.bipush 8, 2) := by decide +kernel
theorem dL_sets_113 : decode cL_sets 113 = .ok (.iload 4, 2) := by decide +kernel
theorem dL_sets_115 : decode cL_sets 115 = .ok (.iadd, 1) := by decide +kernel
theorem dL_sets_116 : decode cL_sets 116 = .ok (.iaload, 1) := by decide +kernel
theorem dL_sets_117 : decode cL_sets 117 = .ok (.istore 6, 2) := by decide +kernel
theorem dL_sets_119 : decode cL_sets 119 = .ok (.aload_n 1, 1) := by decide +kernel
theorem dL_sets_120 : decode cL_sets 120 = .ok (.bipush 8, 2) := by decide +kernel
theorem dL_sets_122 : decode cL_sets 122 = .ok (.iload 4, 2) := by decide +kernel
theorem dL_sets_124 : decode cL_sets 124 = .ok (.iadd, 1) := by decide +kernel
theorem dL_sets_125 : decode cL_sets 125 = .ok (.iload 5, 2) := by decide +kernel
theorem dL_sets_127 : decode cL_sets 127 = .ok (.iconst 3, 1) := by decide +kernel
theorem dL_sets_128 : decode cL_sets 128 = .ok (.irem, 1) := by decide +kernel
theorem dL_sets_129 : decode cL_sets 129 = .ok (.ifCond .ne 11, 3) := by decide +kernel
theorem dL_sets_132 : decode cL_sets 132 = .ok (.iload 5, 2) := by decide +kernel
theorem dL_sets_134 : decode cL_sets 134 = .ok (.bipush 100, 2) := by decide +kernel
theorem dL_sets_136 : decode cL_sets 136 = .ok (.irem, 1) := by decide +kernel
theorem dL_sets_137 : decode cL_sets 137 = .ok (.goto 10, 3) := by decide +kernel
theorem dL_sets_140 : decode cL_sets 140 = .ok (.bipush 10, 2) := by decide +kernel
theorem dL_sets_142 : decode cL_sets 142 = .ok (.iload 5, 2) := by decide +kernel
theorem dL_sets_144 : decode cL_sets 144 = .ok (.iconst 2, 1) := by decide +kernel
theorem dL_sets_145 : decode cL_sets 145 = .ok (.irem, 1) := by decide +kernel
theorem dL_sets_146 : decode cL_sets 146 = .ok (.iadd, 1) := by decide +kernel
theorem dL_sets_147 : decode cL_sets 147 = .ok (.iastore, 1) := by decide +kernel
theorem dL_sets_148 : decode cL_sets 148 = .ok (.aload_n 0, 1) := by decide +kernel
theorem dL_sets_149 : decode cL_sets 149 = .ok (.iload 4, 2) := by decide +kernel
theorem dL_sets_151 : decode cL_sets 151 = .ok (.aload_n 1, 1) := by decide +kernel
theorem dL_sets_152 : decode cL_sets 152 = .ok (.bipush 8, 2) := by decide +kernel
theorem dL_sets_154 : decode cL_sets 154 = .ok (.iload 4, 2) := by decide +kernel
theorem dL_sets_156 : decode cL_sets 156 = .ok (.iadd, 1) := by decide +kernel
theorem dL_sets_157 : decode cL_sets 157 = .ok (.iaload, 1) := by decide +kernel
theorem dL_sets_158 : decode cL_sets 158 = .ok (.invokevirtual 17, 3) := by decide +kernel
theorem dL_sets_161 : decode cL_sets 161 = .ok (.iload 6, 2) := by decide +kernel
theorem dL_sets_163 : decode cL_sets 163 = .ok (.if_icmp .ne 31, 3) := by decide +kernel
theorem dL_sets_166 : decode cL_sets 166 = .ok (.aload_n 0, 1) := by decide +kernel
theorem dL_sets_167 : decode cL_sets 167 = .ok (.iload 4, 2) := by decide +kernel
theorem dL_sets_169 : decode cL_sets 169 = .ok (.bipush 100, 2) := by decide +kernel
theorem dL_sets_171 : decode cL_sets 171 = .ok (.invokevirtual 17, 3) := by decide +kernel
theorem dL_sets_174 : decode cL_sets 174 = .ok (.ldc 15, 2) := by decide +kernel
theorem dL_sets_176 : decode cL_sets 176 = .ok (.if_icmp .ne 18, 3) := by decide +kernel
theorem dL_sets_179 : decode cL_sets 179 = .ok (.aload_n 0, 1) := by decide +kernel
theorem dL_sets_180 : decode cL_sets 180 = .ok (.iconst (-1), 1) := by decide +kernel
theorem dL_sets_181 : decode cL_sets 181 = .ok (.iconst 0, 1) := by decide +kernel
theorem dL_sets_182 : decode cL_sets 182 = .ok (.invokevirtual 17, 3) := by decide +kernel
theorem dL_sets_185 : decode cL_sets 185 = .ok (.ldc 16, 2) := by decide +kernel
theorem dL_sets_187 : decode cL_sets 187 = .ok (.if_icmp .ne 7, 3) := by decide +kernel
theorem dL_sets_190 : decode cL_sets 190 = .ok (.iconst 1, 1) := by decide +kernel
theorem dL_sets_191 : decode cL_sets 191 = .ok (.goto 4, 3) := by decide +kernel
theorem dL_sets_194 : decode cL_sets 194 = .ok (.iconst 0, 1) := by decide +kernel
theorem dL_sets_195 : decode cL_sets 195 = .ok (.ireturn, 1) := by decide +kernel
theorem dL_sets_196 : decode cL_sets 196 = .ok (.iload_n 3, 1) := by decide +kernel
theorem dL_sets_197 : decode cL_sets 197 = .ok (.bipush 7, 2) := by decide +kernel
theorem dL_sets_199 : decode cL_sets 199 = .ok (.iand, 1) := by decide +kernel
theorem dL_sets_200 : decode cL_sets 200 = .ok (.bipush 7, 2) := by decide +kernel
theorem dL_sets_202 : decode cL_sets 202 = .ok (.if_icmp .ge 78, 3) := by decide +kernel
theorem dL_sets_205 : decode cL_sets 205 = .ok (.aload_n 1, 1) := by decide +kernel
theorem dL_sets_206 : decode cL_sets 206 = .ok (.bipush 16, 2) := by decide +kernel
theorem dL_sets_208 : decode cL_sets 208 = .ok (.iload 4, 2) := by decide +kernel
theorem dL_sets_210 : decode cL_sets 210 = .ok (.iadd, 1) := by decide +kernel
theorem dL_sets_211 : decode cL_sets 211 = .ok (.iaload, 1) := by decide +kernel
theorem dL_sets_212 : decode cL_sets 212 = .ok (.istore 6, 2) := by decide +kernel
theorem dL_sets_214 : decode cL_sets 214 = .ok (.aload_n 1, 1) := by decide +kernel
theorem dL_sets_215 : decode cL_sets 215 = .ok (.bipush 16, 2) := by decide +kernel
theorem dL_sets_217 : decode cL_sets 217 = .ok (.iload 4, 2) := by decide +kernel
theorem dL_sets_219 : decode cL_sets 219 = .ok (.iadd, 1) := by decide +kernel
theorem dL_sets_220 : decode cL_sets 220 = .ok (.iload 5, 2) := by decide +kernel
theorem dL_sets_222 : decode cL_sets 222 = .ok (.sipush 201, 3) := by decide +kernel
theorem dL_sets_225 : decode cL_sets 225 = .ok (.irem, 1) := by decide +kernel
theorem dL_sets_226 : decode cL_sets 226 = .ok (.bipush 100, 2) := by decide +kernel
theorem dL_sets_228 : decode cL_sets 228 = .ok (.isub, 1) := by decide +kernel
theorem dL_sets_229 : decode cL_sets 229 = .ok (.iastore, 1) := by decide +kernel
theorem dL_sets_230 : decode cL_sets 230 = .ok (.aload_n 0, 1) := by decide +kernel
theorem dL_sets_231 : decode cL_sets 231 = .ok (.iload 4, 2) := by decide +kernel
theorem dL_sets_233 : decode cL_sets 233 = .ok (.aload_n 1, 1) := by decide +kernel
theorem dL_sets_234 : decode cL_sets 234 = .ok (.bipush 16, 2) := by decide +kernel
theorem dL_sets_236 : decode cL_sets 236 = .ok (.iload 4, 2) := by decide +kernel
theorem dL_sets_238 : decode cL_sets 238 = .ok (.iadd, 1) := by decide +kernel
theorem dL_sets_239 : decode cL_sets 239 = .ok (.iaload, 1) := by decide +kernel
theorem dL_sets_240 : decode cL_sets 240 = .ok (.invokevirtual 20, 3) := by decide +kernel
theorem dL_sets_243 : decode cL_sets 243 = .ok (.iload 6, 2) := by decide +kernel
theorem dL_sets_245 : decode cL_sets 245 = .ok (.if_icmp .ne 33, 3) := by decide +kernel
theorem dL_sets_248 : decode cL_sets 248 = .ok (.aload_n 0, 1) := by decide +kernel
theorem dL_sets_249 : decode cL_sets 249 = .ok (.iload 4, 2) := by decide +kernel
theorem dL_sets_251 : decode cL_sets 251 = .ok (.bipush 101, 2) := by decide +kernel
theorem dL_sets_253 : decode cL_sets 253 = .ok (.invokevirtual 20, 3) := by decide +kernel
theorem dL_sets_256 : decode cL_sets 256 = .ok (.ldc 15, 2) := by decide +kernel
theorem dL_sets_258 : decode cL_sets 258 = .ok (.if_icmp .ne 20, 3) := by decide +kernel
theorem dL_sets_261 : decode cL_sets 261 = .ok (.aload_n 0, 1) := by decide +kernel
theorem dL_sets_262 : decode cL_sets 262 = .ok (.aload_n 2, 1) := by decide +kernel
theorem dL_sets_263 : decode cL_sets 263 = .ok (.iconst 0, 1) := by decide +kernel
theorem dL_sets_264 : decode cL_sets 264 = .ok (.iaload, 1) := by decide +kernel
theorem dL_sets_265 : decode cL_sets 265 = .ok (.iconst 0, 1) := by decide +kernel
theorem dL_sets_266 : decode cL_sets 266 = .ok (.invokevirtual 20, 3) := by decide +kernel
theorem dL_sets_269 : decode cL_sets 269 = .ok (.ldc 16, 2) := by decide +kernel
theorem dL_sets_271 : decode cL_sets 271 = .ok (.if_icmp .ne 7, 3) := by decide +kernel
theorem dL_sets_274 : decode cL_sets 274 = .ok (.iconst 1, 1) := by decide +kernel
theorem dL_sets_275 : decode cL_sets 275 = .ok (.goto 4, 3) := by decide +kernel
theorem dL_sets_278 : decode cL_sets 278 = .ok (.iconst 0, 1) := by decide +kernel
theorem dL_sets_279 : decode cL_sets 279 = .ok (.ireturn, 1) := by decide +kernel
theorem dL_sets_280 : decode cL_sets 280 = .ok (.aload_n 2, 1) := by decide +kernel
theorem dL_sets_281 : decode cL_sets 281 = .ok (.iconst 1, 1) := by decide +kernel
theorem dL_sets_282 : decode cL_sets 282 = .ok (.iaload, 1) := by decide +kernel
theorem dL_sets_283 : decode cL_sets 283 = .ok (.istore 6, 2) := by decide +kernel
theorem dL_sets_285 : decode cL_sets 285 = .ok (.aload_n 2, 1) := by decide +kernel
theorem dL_sets_286 : decode cL_sets 286 = .ok (.iconst 1, 1) := by decide +kernel
theorem dL_sets_287 : decode cL_sets 287 = .ok (.iconst 2, 1) := by decide +kernel
theorem dL_sets_288 : decode cL_sets 288 = .ok (.iload 5, 2) := by decide +kernel
theorem dL_sets_290 : decode cL_sets 290 = .ok (.iconst 2, 1) := by decide +kernel
theorem dL_sets_291 : decode cL_sets 291 = .ok (.irem, 1) := by decide +kernel
theorem dL_sets_292 : decode cL_sets 292 = .ok (.iconst 2, 1) := by decide +kernel
theorem dL_sets_293 : decode cL_sets 293 = .ok (.imul, 1) := by decide +kernel
theorem dL_sets_294 : decode cL_sets 294 = .ok (.iadd, 1) := by decide +kernel
theorem dL_sets_295 : decode cL_sets 295 = .ok (.iastore, 1) := by decide +kernel
theorem dL_sets_296 : decode cL_sets 296 = .ok (.aload_n 0, 1) := by decide +kernel
theorem dL_sets_297 : decode cL_sets 297 = .ok (.aload_n 2, 1) := by decide +kernel
theorem dL_sets_298 : decode cL_sets 298 = .ok (.iconst 1, 1) := by decide +kernel
theorem dL_sets_299 : decode cL_sets 299 = .ok (.iaload, 1) := by decide +kernel
theorem dL_sets_300 : decode cL_sets 300 = .ok (.invokevirtual 23, 3) := by decide +kernel
theorem dL_sets_303 : decode cL_sets 303 = .ok (.iload 6, 2) := by decide +kernel
theorem dL_sets_305 : decode cL_sets 305 = .ok (.if_icmp .ne 17, 3) := by decide +kernel
theorem dL_sets_308 : decode cL_sets 308 = .ok (.aload_n 0, 1) := by decide +kernel
theorem dL_sets_309 : decode cL_sets 309 = .ok (.iconst 3, 1) := by decide +kernel
theorem dL_sets_310 : decode cL_sets 310 = .ok (.invokevirtual 23, 3) := by decide +kernel
theorem dL_sets_313 : decode cL_sets 313 = .ok (.ldc 15, 2) := by decide +kernel
theorem dL_sets_315 : decode cL_sets 315 = .ok (.if_icmp .ne 7, 3) := by decide +kernel
theorem dL_sets_318 : decode cL_sets 318 = .ok (.iconst 1, 1) := by decide +kernel
theorem dL_sets_319 : decode cL_sets 319 = .ok (.goto 4, 3) := by decide +kernel
theorem dL_sets_322 : decode cL_sets 322 = .ok (.iconst 0, 1) := by decide +kernel
theorem dL_sets_323 : decode cL_sets 323 = .ok (.ireturn, 1) := by decide +kernel
theorem dL_spreads_0 : decode cL_spreads 0 = .ok (.aload_n 2, 1) := by decide +kernel
theorem dL_spreads_1 : decode cL_spreads 1 = .ok (.iconst 0, 1) := by decide +kernel
theorem dL_spreads_2 : decode cL_spreads 2 = .ok (.iaload, 1) := by decide +kernel
theorem dL_spreads_3 : decode cL_spreads 3 = .ok (.istore 4, 2) := by decide +kernel
theorem dL_spreads_5 : decode cL_spreads 5 = .ok (.iload 4, 2) := by decide +kernel
theorem dL_spreads_7 : decode cL_spreads 7 = .ok (.ifCond .eq 15, 3) := by decide +kernel
theorem dL_spreads_10 : decode cL_spreads 10 = .ok (.bipush 6, 2) := by decide +kernel
theorem dL_spreads_12 : decode cL_spreads 12 = .ok (.aload_n 2, 1) := by decide +kernel
theorem dL_spreads_13 : decode cL_spreads 13 = .ok (.iconst 1, 1) := by decide +kernel
theorem dL_spreads_14 : decode cL_spreads 14 = .ok (.iaload, 1) := by decide +kernel
theorem dL_spreads_15 : decode cL_spreads 15 = .ok (.imul, 1) := by decide +kernel
theorem dL_spreads_16 : decode cL_spreads 16 = .ok (.iload 4, 2) := by decide +kernel
theorem dL_spreads_18 : decode cL_spreads 18 = .ok (.irem, 1) := by decide +kernel
theorem dL_spreads_19 : decode cL_spreads 19 = .ok (.ifCond .eq 7, 3) := by decide +kernel
theorem dL_spreads_22 : decode cL_spreads 22 = .ok (.iconst 2, 1) := by decide +kernel
theorem dL_spreads_23 : decode cL_spreads 23 = .ok (.goto 12, 3) := by decide +kernel
theorem dL_spreads_26 : decode cL_spreads 26 = .ok (.bipush 6, 2) := by decide +kernel
theorem dL_spreads_28 : decode cL_spreads 28 = .ok (.aload_n 2, 1) := by decide +kernel
theorem dL_spreads_29 : decode cL_spreads 29 = .ok (.iconst 1, 1) := by decide +kernel
theorem dL_spreads_30 : decode cL_spreads 30 = .ok (.iaload, 1) := by decide +kernel
theorem dL_spreads_31 : decode cL_spreads 31 = .ok (.imul, 1) := by decide +kernel
theorem dL_spreads_32 : decode cL_spreads 32 = .ok (.iload 4, 2) := by decide +kernel
theorem dL_spreads_34 : decode cL_spreads 34 = .ok (.idiv, 1) := by decide +kernel
theorem dL_spreads_35 : decode cL_spreads 35 = .ok (.istore 5, 2) := by decide +kernel
theorem dL_spreads_37 : decode cL_spreads 37 = .ok (.iconst 0, 1) := by decide +kernel
theorem dL_spreads_38 : decode cL_spreads 38 = .ok (.istore 6, 2) := by decide +kernel
theorem dL_spreads_40 : decode cL_spreads 40 = .ok (.iconst 1, 1) := by decide +kernel
theorem dL_spreads_41 : decode cL_spreads 41 = .ok (.istore 7, 2) := by decide +kernel
theorem dL_spreads_43 : decode cL_spreads 43 = .ok (.iconst 0, 1) := by decide +kernel
theorem dL_spreads_44 : decode cL_spreads 44 = .ok (.istore 8, 2) := by decide +kernel
theorem dL_spreads_46 : decode cL_spreads 46 = .ok (.iload 8, 2) := by decide +kernel
theorem dL_spreads_48 : decode cL_spreads 48 = .ok (.iload 4, 2) := by decide +kernel
theorem dL_spreads_50 : decode cL_spreads 50 = .ok (.if_icmp .ge 103, 3) := by decide +kernel
theorem dL_spreads_53 : decode cL_spreads 53 = .ok (.iload 7, 2) := by decide +kernel
theorem dL_spreads_55 : decode cL_spreads 55 = .ok (.ifCond .eq 98, 3) := by decide +kernel
theorem dL_spreads_58 : decode cL_spreads 58 = .ok (.iload_n 3, 1) := by decide +kernel
theorem dL_spreads_59 : decode cL_spreads 59 = .ok (.iconst 3, 1) := by decide +kernel
theorem dL_spreads_60 : decode cL_spreads 60 = .ok (.iload 8, 2) := by decide +kernel
theorem dL_spreads_62 : decode cL_spreads 62 = .ok (.imul, 1) := by decide +kernel
theorem dL_spreads_63 : decode cL_spreads 63 = .ok (.ishr, 1) := by decide +kernel
theorem dL_spreads_64 : decode cL_spreads 64 = .ok (.iload 4, 2) := by decide +kernel
theorem dL_spreads_66 : decode cL_spreads 66 = .ok (.irem, 1) := by decide +kernel
theorem dL_spreads_67 : decode cL_spreads 67 = .ok (.istore 9, 2) := by decide +kernel
theorem dL_spreads_69 : decode cL_spreads 69 = .ok (.iload 6, 2) := by decide +kernel
theorem dL_spreads_71 : decode cL_spreads 71 = .ok (.iload 9, 2) := by decide +kernel
theorem dL_spreads_73 : decode cL_spreads 73 = .ok (.ishr, 1) := by decide +kernel
theorem dL_spreads_74 : decode cL_spreads 74 = .ok (.iconst 1, 1) := by decide +kernel
theorem dL_spreads_75 : decode cL_spreads 75 = .ok (.iand, 1) := by decide +kernel
theorem dL_spreads_76 : decode cL_spreads 76 = .ok (.iconst 1, 1) := by decide +kernel
theorem dL_spreads_77 : decode cL_spreads 77 = .ok (.if_icmp .ne 15, 3) := by decide +kernel
theorem dL_spreads_80 : decode cL_spreads 80 = .ok (.iload 9, 2) := by decide +kernel
theorem dL_spreads_82 : decode cL_spreads 82 = .ok (.iconst 1, 1) := by decide +kernel
theorem dL_spreads_83 : decode cL_spreads 83 = .ok (.iadd, 1) := by decide +kernel
theorem dL_spreads_84 : decode cL_spreads 84 = .ok (.iload 4, 2) := by decide +kernel
theorem dL_spreads_86 : decode cL_spreads 86 = .ok (.irem, 1) := by decide +kernel
theorem dL_spreads_87 : decode cL_spreads 87 = .ok (.istore 9, 2) := by decide +kernel
theorem dL_spreads_89 : decode cL_spreads 89 = .ok (.goto (-20), 3) := by decide +kernel
theorem dL_spreads_92 : decode cL_spreads 92 = .ok (.iload 6, 2) := by decide +kernel
theorem dL_spreads_94 : decode cL_spreads 94 = .ok (.iconst 1, 1) := by decide +kernel
theorem dL_spreads_95 : decode cL_spreads 95 = .ok (.iload 9, 2) := by decide +kernel
theorem dL_spreads_97 : decode cL_spreads 97 = .ok (.ishl, 1) := by decide +kernel
theorem dL_spreads_98 : decode cL_spreads 98 = .ok (.ior, 1) := by decide +kernel
theorem dL_spreads_99 : decode cL_spreads 99 = .ok (.istore 6, 2) := by decide +kernel
theorem dL_spreads_101 : decode cL_spreads 101 = .ok (.aload_n 1, 1) := by decide +kernel
theorem dL_spreads_102 : decode cL_spreads 102 = .ok (.iload 8, 2) := by decide +kernel
theorem dL_spreads_104 : decode cL_spreads 104 = .ok (.iaload, 1) := by decide +kernel
theorem dL_spreads_105 : decode cL_spreads 105 = .ok (.istore 10, 2) := by decide +kernel
theorem dL_spreads_107 : decode cL_spreads 107 = .ok (.aload_n 1, 1) := by decide +kernel
theorem dL_spreads_108 : decode cL_spreads 108 = .ok (.iload 8, 2) := by decide +kernel
theorem dL_spreads_110 : decode cL_spreads 110 = .ok (.bipush 24, 2) := by decide +kernel
theorem dL_spreads_112 : decode cL_spreads 112 = .ok (.iload 9, 2) := by decide +kernel
theorem dL_spreads_114 : decode cL_spreads 114 = .ok (.iload 5, 2) := by decide +kernel
theorem dL_spreads_116 : decode cL_spreads 116 = .ok (.imul, 1) := by decide +kernel
theorem dL_spreads_117 : decode cL_spreads 117 = .ok (.bipush 12, 2) := by decide +kernel
theorem dL_spreads_119 : decode cL_spreads 119 = .ok (.irem, 1) := by decide +kernel
theorem dL_spreads_120 : decode cL_spreads 120 = .ok (.isub, 1) := by decide +kernel
theorem dL_spreads_121 : decode cL_spreads 121 = .ok (.bipush 12, 2) := by decide +kernel
theorem dL_spreads_123 : decode cL_spreads 123 = .ok (.irem, 1) := by decide +kernel
theorem dL_spreads_124 : decode cL_spreads 124 = .ok (.iastore, 1) := by decide +kernel
theorem dL_spreads_125 : decode cL_spreads 125 = .ok (.aload_n 0, 1) := by decide +kernel
theorem dL_spreads_126 : decode cL_spreads 126 = .ok (.iload 8, 2) := by decide +kernel
theorem dL_spreads_128 : decode cL_spreads 128 = .ok (.aload_n 1, 1) := by decide +kernel
theorem dL_spreads_129 : decode cL_spreads 129 = .ok (.iload 8, 2) := by decide +kernel
theorem dL_spreads_131 : decode cL_spreads 131 = .ok (.iaload, 1) := by decide +kernel
theorem dL_spreads_132 : decode cL_spreads 132 = .ok (.invokevirtual 9, 3) := by decide +kernel
theorem dL_spreads_135 : decode cL_spreads 135 = .ok (.iload 10, 2) := by decide +kernel
theorem dL_spreads_137 : decode cL_spreads 137 = .ok (.if_icmp .ne 7, 3) := by decide +kernel
theorem dL_spreads_140 : decode cL_spreads 140 = .ok (.iconst 1, 1) := by decide +kernel
theorem dL_spreads_141 : decode cL_spreads 141 = .ok (.goto 4, 3) := by decide +kernel
theorem dL_spreads_144 : decode cL_spreads 144 = .ok (.iconst 0, 1) := by decide +kernel
theorem dL_spreads_145 : decode cL_spreads 145 = .ok (.istore 7, 2) := by decide +kernel
theorem dL_spreads_147 : decode cL_spreads 147 = .ok (.iinc 8 1, 3) := by decide +kernel
theorem dL_spreads_150 : decode cL_spreads 150 = .ok (.goto (-104), 3) := by decide +kernel
theorem dL_spreads_153 : decode cL_spreads 153 = .ok (.iload 7, 2) := by decide +kernel
theorem dL_spreads_155 : decode cL_spreads 155 = .ok (.ireturn, 1) := by decide +kernel
theorem dL_sound_0 : decode cL_sound 0 = .ok (.aload_n 0, 1) := by decide +kernel
theorem dL_sound_1 : decode cL_sound 1 = .ok (.invokevirtual 27, 3) := by decide +kernel
theorem dL_sound_4 : decode cL_sound 4 = .ok (.istore_n 2, 1) := by decide +kernel
theorem dL_sound_5 : decode cL_sound 5 = .ok (.aload_n 0, 1) := by decide +kernel
theorem dL_sound_6 : decode cL_sound 6 = .ok (.invokevirtual 31, 3) := by decide +kernel
theorem dL_sound_9 : decode cL_sound 9 = .ok (.istore_n 3, 1) := by decide +kernel
theorem dL_sound_10 : decode cL_sound 10 = .ok (.ldc2_w 34, 3) := by decide +kernel
theorem dL_sound_13 : decode cL_sound 13 = .ok (.lstore 4, 2) := by decide +kernel
theorem dL_sound_15 : decode cL_sound 15 = .ok (.iload_n 2, 1) := by decide +kernel
theorem dL_sound_16 : decode cL_sound 16 = .ok (.ifCond .lt 46, 3) := by decide +kernel
theorem dL_sound_19 : decode cL_sound 19 = .ok (.iload_n 2, 1) := by decide +kernel
theorem dL_sound_20 : decode cL_sound 20 = .ok (.sipush 128, 3) := by decide +kernel
theorem dL_sound_23 : decode cL_sound 23 = .ok (.if_icmp .gt 39, 3) := by decide +kernel
theorem dL_sound_26 : decode cL_sound 26 = .ok (.iload_n 3, 1) := by decide +kernel
theorem dL_sound_27 : decode cL_sound 27 = .ok (.ifCond .lt 7, 3) := by decide +kernel
theorem dL_sound_30 : decode cL_sound 30 = .ok (.iconst 1, 1) := by decide +kernel
theorem dL_sound_31 : decode cL_sound 31 = .ok (.goto 4, 3) := by decide +kernel
theorem dL_sound_34 : decode cL_sound 34 = .ok (.iconst 0, 1) := by decide +kernel
theorem dL_sound_35 : decode cL_sound 35 = .ok (.iload_n 2, 1) := by decide +kernel
theorem dL_sound_36 : decode cL_sound 36 = .ok (.ifCond .le 7, 3) := by decide +kernel
theorem dL_sound_39 : decode cL_sound 39 = .ok (.iconst 1, 1) := by decide +kernel
theorem dL_sound_40 : decode cL_sound 40 = .ok (.goto 4, 3) := by decide +kernel
theorem dL_sound_43 : decode cL_sound 43 = .ok (.iconst 0, 1) := by decide +kernel
theorem dL_sound_44 : decode cL_sound 44 = .ok (.if_icmp .ne 18, 3) := by decide +kernel
theorem dL_sound_47 : decode cL_sound 47 = .ok (.aload_n 0, 1) := by decide +kernel
theorem dL_sound_48 : decode cL_sound 48 = .ok (.iload_n 2, 1) := by decide +kernel
theorem dL_sound_49 : decode cL_sound 49 = .ok (.iconst 0, 1) := by decide +kernel
theorem dL_sound_50 : decode cL_sound 50 = .ok (.invokevirtual 36, 3) := by decide +kernel
theorem dL_sound_53 : decode cL_sound 53 = .ok (.ldc 16, 2) := by decide +kernel
theorem dL_sound_55 : decode cL_sound 55 = .ok (.if_icmp .ne 7, 3) := by decide +kernel
theorem dL_sound_58 : decode cL_sound 58 = .ok (.iconst 1, 1) := by decide +kernel
theorem dL_sound_59 : decode cL_sound 59 = .ok (.goto 4, 3) := by decide +kernel
theorem dL_sound_62 : decode cL_sound 62 = .ok (.iconst 0, 1) := by decide +kernel
theorem dL_sound_63 : decode cL_sound 63 = .ok (.istore 6, 2) := by decide +kernel
theorem dL_sound_65 : decode cL_sound 65 = .ok (.iconst 0, 1) := by decide +kernel
theorem dL_sound_66 : decode cL_sound 66 = .ok (.istore 7, 2) := by decide +kernel
theorem dL_sound_68 : decode cL_sound 68 = .ok (.iload 7, 2) := by decide +kernel
theorem dL_sound_70 : decode cL_sound 70 = .ok (.iload_n 2, 1) := by decide +kernel
theorem dL_sound_71 : decode cL_sound 71 = .ok (.if_icmp .ge 203, 3) := by decide +kernel
theorem dL_sound_74 : decode cL_sound 74 = .ok (.iload 6, 2) := by decide +kernel
theorem dL_sound_76 : decode cL_sound 76 = .ok (.ifCond .eq 198, 3) := by decide +kernel
theorem dL_sound_79 : decode cL_sound 79 = .ok (.lconst 0, 1) := by decide +kernel
theorem dL_sound_80 : decode cL_sound 80 = .ok (.lstore 8, 2) := by decide +kernel
theorem dL_sound_82 : decode cL_sound 82 = .ok (.iconst 0, 1) := by decide +kernel
theorem dL_sound_83 : decode cL_sound 83 = .ok (.istore 10, 2) := by decide +kernel
theorem dL_sound_85 : decode cL_sound 85 = .ok (.iconst 0, 1) := by decide +kernel
theorem dL_sound_86 : decode cL_sound 86 = .ok (.istore 11, 2) := by decide +kernel
theorem dL_sound_88 : decode cL_sound 88 = .ok (.iload 11, 2) := by decide +kernel
theorem dL_sound_90 : decode cL_sound 90 = .ok (.iload_n 1, 1) := by decide +kernel
theorem dL_sound_91 : decode cL_sound 91 = .ok (.if_icmp .ge 42, 3) := by decide +kernel
theorem dL_sound_94 : decode cL_sound 94 = .ok (.ldc2_w 39, 3) := by decide +kernel
theorem dL_sound_97 : decode cL_sound 97 = .ok (.lload 8, 2) := by decide +kernel
theorem dL_sound_99 : decode cL_sound 99 = .ok (.lmul, 1) := by decide +kernel
theorem dL_sound_100 : decode cL_sound 100 = .ok (.aload_n 0, 1) := by decide +kernel
theorem dL_sound_101 : decode cL_sound 101 = .ok (.iload 7, 2) := by decide +kernel
theorem dL_sound_103 : decode cL_sound 103 = .ok (.iload 11, 2) := by decide +kernel
theorem dL_sound_105 : decode cL_sound 105 = .ok (.invokevirtual 36, 3) := by decide +kernel
theorem dL_sound_108 : decode cL_sound 108 = .ok (.i2l, 1) := by decide +kernel
theorem dL_sound_109 : decode cL_sound 109 = .ok (.ladd, 1) := by decide +kernel
theorem dL_sound_110 : decode cL_sound 110 = .ok (.lstore 8, 2) := by decide +kernel
theorem dL_sound_112 : decode cL_sound 112 = .ok (.iload 10, 2) := by decide +kernel
theorem dL_sound_114 : decode cL_sound 114 = .ok (.iconst 1, 1) := by decide +kernel
theorem dL_sound_115 : decode cL_sound 115 = .ok (.aload_n 0, 1) := by decide +kernel
theorem dL_sound_116 : decode cL_sound 116 = .ok (.iload 7, 2) := by decide +kernel
theorem dL_sound_118 : decode cL_sound 118 = .ok (.iload 11, 2) := by decide +kernel
theorem dL_sound_120 : decode cL_sound 120 = .ok (.invokevirtual 36, 3) := by decide +kernel
theorem dL_sound_123 : decode cL_sound 123 = .ok (.ishl, 1) := by decide +kernel
theorem dL_sound_124 : decode cL_sound 124 = .ok (.ior, 1) := by decide +kernel
theorem dL_sound_125 : decode cL_sound 125 = .ok (.istore 10, 2) := by decide +kernel
theorem dL_sound_127 : decode cL_sound 127 = .ok (.iinc 11 1, 3) := by decide +kernel
theorem dL_sound_130 : decode cL_sound 130 = .ok (.goto (-42), 3) := by decide +kernel
theorem dL_sound_133 : decode cL_sound 133 = .ok (.aload_n 0, 1) := by decide +kernel
theorem dL_sound_134 : decode cL_sound 134 = .ok (.iload 7, 2) := by decide +kernel
theorem dL_sound_136 : decode cL_sound 136 = .ok (.iconst 0, 1) := by decide +kernel
theorem dL_sound_137 : decode cL_sound 137 = .ok (.invokevirtual 36, 3) := by decide +kernel
theorem dL_sound_140 : decode cL_sound 140 = .ok (.ifCond .ne 70, 3) := by decide +kernel
theorem dL_sound_143 : decode cL_sound 143 = .ok (.iload 10, 2) := by decide +kernel
theorem dL_sound_145 : decode cL_sound 145 = .ok (.iconst 1, 1) := by decide +kernel
theorem dL_sound_146 : decode cL_sound 146 = .ok (.iload_n 1, 1) := by decide +kernel
theorem dL_sound_147 : decode cL_sound 147 = .ok (.ishl, 1) := by decide +kernel
theorem dL_sound_148 : decode cL_sound 148 = .ok (.iconst 1, 1) := by decide +kernel
theorem dL_sound_149 : decode cL_sound 149 = .ok (.isub, 1) := by decide +kernel
theorem dL_sound_150 : decode cL_sound 150 = .ok (.if_icmp .ne 60, 3) := by decide +kernel
theorem dL_sound_153 : decode cL_sound 153 = .ok (.lload 8, 2) := by decide +kernel
theorem dL_sound_155 : decode cL_sound 155 = .ok (.lload 4, 2) := by decide +kernel
theorem dL_sound_157 : decode cL_sound 157 = .ok (.lcmp, 1) := by decide +kernel
theorem dL_sound_158 : decode cL_sound 158 = .ok (.ifCond .le 52, 3) := by decide +kernel
theorem dL_sound_161 : decode cL_sound 161 = .ok (.aload_n 0, 1) := by decide +kernel
theorem dL_sound_162 : decode cL_sound 162 = .ok (.iload 7, 2) := by decide +kernel
theorem dL_sound_164 : decode cL_sound 164 = .ok (.iconst 0, 1) := by decide +kernel
theorem dL_sound_165 : decode cL_sound 165 = .ok (.invokevirtual 41, 3) := by decide +kernel
theorem dL_sound_168 : decode cL_sound 168 = .ok (.ifCond .lt 42, 3) := by decide +kernel
theorem dL_sound_171 : decode cL_sound 171 = .ok (.aload_n 0, 1) := by decide +kernel
theorem dL_sound_172 : decode cL_sound 172 = .ok (.iload 7, 2) := by decide +kernel
theorem dL_sound_174 : decode cL_sound 174 = .ok (.iconst 0, 1) := by decide +kernel
theorem dL_sound_175 : decode cL_sound 175 = .ok (.invokevirtual 41, 3) := by decide +kernel
theorem dL_sound_178 : decode cL_sound 178 = .ok (.iload_n 1, 1) := by decide +kernel
theorem dL_sound_179 : decode cL_sound 179 = .ok (.if_icmp .gt 31, 3) := by decide +kernel
theorem dL_sound_182 : decode cL_sound 182 = .ok (.aload_n 0, 1) := by decide +kernel
theorem dL_sound_183 : decode cL_sound 183 = .ok (.iload 7, 2) := by decide +kernel
theorem dL_sound_185 : decode cL_sound 185 = .ok (.iconst 1, 1) := by decide +kernel
theorem dL_sound_186 : decode cL_sound 186 = .ok (.invokevirtual 41, 3) := by decide +kernel
theorem dL_sound_189 : decode cL_sound 189 = .ok (.bipush 8, 2) := by decide +kernel
theorem dL_sound_191 : decode cL_sound 191 = .ok (.if_icmp .lt 19, 3) := by decide +kernel
theorem dL_sound_194 : decode cL_sound 194 = .ok (.aload_n 0, 1) := by decide +kernel
theorem dL_sound_195 : decode cL_sound 195 = .ok (.iload 7, 2) := by decide +kernel
theorem dL_sound_197 : decode cL_sound 197 = .ok (.iconst 1, 1) := by decide +kernel
theorem dL_sound_198 : decode cL_sound 198 = .ok (.invokevirtual 41, 3) := by decide +kernel
theorem dL_sound_201 : decode cL_sound 201 = .ok (.bipush 16, 2) := by decide +kernel
theorem dL_sound_203 : decode cL_sound 203 = .ok (.if_icmp .gt 7, 3) := by decide +kernel
theorem dL_sound_206 : decode cL_sound 206 = .ok (.iconst 1, 1) := by decide +kernel
theorem dL_sound_207 : decode cL_sound 207 = .ok (.goto 4, 3) := by decide +kernel
theorem dL_sound_210 : decode cL_sound 210 = .ok (.iconst 0, 1) := by decide +kernel
theorem dL_sound_211 : decode cL_sound 211 = .ok (.istore 6, 2) := by decide +kernel
theorem dL_sound_213 : decode cL_sound 213 = .ok (.iload 6, 2) := by decide +kernel
theorem dL_sound_215 : decode cL_sound 215 = .ok (.ifCond .eq 46, 3) := by decide +kernel
theorem dL_sound_218 : decode cL_sound 218 = .ok (.sipush 1000, 3) := by decide +kernel
theorem dL_sound_221 : decode cL_sound 221 = .ok (.aload_n 0, 1) := by decide +kernel
theorem dL_sound_222 : decode cL_sound 222 = .ok (.iload 7, 2) := by decide +kernel
theorem dL_sound_224 : decode cL_sound 224 = .ok (.iconst 1, 1) := by decide +kernel
theorem dL_sound_225 : decode cL_sound 225 = .ok (.invokevirtual 41, 3) := by decide +kernel
theorem dL_sound_228 : decode cL_sound 228 = .ok (.imul, 1) := by decide +kernel
theorem dL_sound_229 : decode cL_sound 229 = .ok (.aload_n 0, 1) := by decide +kernel
theorem dL_sound_230 : decode cL_sound 230 = .ok (.iload 7, 2) := by decide +kernel
theorem dL_sound_232 : decode cL_sound 232 = .ok (.iconst 0, 1) := by decide +kernel
theorem dL_sound_233 : decode cL_sound 233 = .ok (.invokevirtual 41, 3) := by decide +kernel
theorem dL_sound_236 : decode cL_sound 236 = .ok (.iadd, 1) := by decide +kernel
theorem dL_sound_237 : decode cL_sound 237 = .ok (.sipush 1000, 3) := by decide +kernel
theorem dL_sound_240 : decode cL_sound 240 = .ok (.aload_n 0, 1) := by decide +kernel
theorem dL_sound_241 : decode cL_sound 241 = .ok (.iload_n 3, 1) := by decide +kernel
theorem dL_sound_242 : decode cL_sound 242 = .ok (.iconst 1, 1) := by decide +kernel
theorem dL_sound_243 : decode cL_sound 243 = .ok (.invokevirtual 41, 3) := by decide +kernel
theorem dL_sound_246 : decode cL_sound 246 = .ok (.imul, 1) := by decide +kernel
theorem dL_sound_247 : decode cL_sound 247 = .ok (.aload_n 0, 1) := by decide +kernel
theorem dL_sound_248 : decode cL_sound 248 = .ok (.iload_n 3, 1) := by decide +kernel
theorem dL_sound_249 : decode cL_sound 249 = .ok (.iconst 0, 1) := by decide +kernel
theorem dL_sound_250 : decode cL_sound 250 = .ok (.invokevirtual 41, 3) := by decide +kernel
theorem dL_sound_253 : decode cL_sound 253 = .ok (.iadd, 1) := by decide +kernel
theorem dL_sound_254 : decode cL_sound 254 = .ok (.if_icmp .lt 7, 3) := by decide +kernel
theorem dL_sound_257 : decode cL_sound 257 = .ok (.iconst 1, 1) := by decide +kernel
theorem dL_sound_258 : decode cL_sound 258 = .ok (.goto 4, 3) := by decide +kernel
theorem dL_sound_261 : decode cL_sound 261 = .ok (.iconst 0, 1) := by decide +kernel
theorem dL_sound_262 : decode cL_sound 262 = .ok (.istore 6, 2) := by decide +kernel
theorem dL_sound_264 : decode cL_sound 264 = .ok (.lload 8, 2) := by decide +kernel
theorem dL_sound_266 : decode cL_sound 266 = .ok (.lstore 4, 2) := by decide +kernel
theorem dL_sound_268 : decode cL_sound 268 = .ok (.iinc 7 1, 3) := by decide +kernel
theorem dL_sound_271 : decode cL_sound 271 = .ok (.goto (-203), 3) := by decide +kernel
theorem dL_sound_274 : decode cL_sound 274 = .ok (.iload 6, 2) := by decide +kernel
theorem dL_sound_276 : decode cL_sound 276 = .ok (.ireturn, 1) := by decide +kernel
theorem dL_balances_0 : decode cL_balances 0 = .ok (.aload_n 0, 1) := by decide +kernel
theorem dL_balances_1 : decode cL_balances 1 = .ok (.invokevirtual 44, 3) := by decide +kernel
theorem dL_balances_4 : decode cL_balances 4 = .ok (.lstore_n 3, 1) := by decide +kernel
theorem dL_balances_5 : decode cL_balances 5 = .ok (.aload_n 0, 1) := by decide +kernel
theorem dL_balances_6 : decode cL_balances 6 = .ok (.iconst 0, 1) := by decide +kernel
theorem dL_balances_7 : decode cL_balances 7 = .ok (.invokevirtual 48, 3) := by decide +kernel
theorem dL_balances_10 : decode cL_balances 10 = .ok (.istore 5, 2) := by decide +kernel
theorem dL_balances_12 : decode cL_balances 12 = .ok (.aload_n 0, 1) := by decide +kernel
theorem dL_balances_13 : decode cL_balances 13 = .ok (.invokevirtual 51, 3) := by decide +kernel
theorem dL_balances_16 : decode cL_balances 16 = .ok (.istore 6, 2) := by decide +kernel
theorem dL_balances_18 : decode cL_balances 18 = .ok (.iload 6, 2) := by decide +kernel
theorem dL_balances_20 : decode cL_balances 20 = .ok (.ifCond .ne 7, 3) := by decide +kernel
theorem dL_balances_23 : decode cL_balances 23 = .ok (.iconst 1, 1) := by decide +kernel
theorem dL_balances_24 : decode cL_balances 24 = .ok (.goto 4, 3) := by decide +kernel
theorem dL_balances_27 : decode cL_balances 27 = .ok (.iconst 0, 1) := by decide +kernel
theorem dL_balances_28 : decode cL_balances 28 = .ok (.aload_n 0, 1) := by decide +kernel
theorem dL_balances_29 : decode cL_balances 29 = .ok (.invokevirtual 54, 3) := by decide +kernel
theorem dL_balances_32 : decode cL_balances 32 = .ok (.iconst 1, 1) := by decide +kernel
theorem dL_balances_33 : decode cL_balances 33 = .ok (.iand, 1) := by decide +kernel
theorem dL_balances_34 : decode cL_balances 34 = .ok (.iconst 1, 1) := by decide +kernel
theorem dL_balances_35 : decode cL_balances 35 = .ok (.if_icmp .ne 7, 3) := by decide +kernel
theorem dL_balances_38 : decode cL_balances 38 = .ok (.iconst 1, 1) := by decide +kernel
theorem dL_balances_39 : decode cL_balances 39 = .ok (.goto 4, 3) := by decide +kernel
theorem dL_balances_42 : decode cL_balances 42 = .ok (.iconst 0, 1) := by decide +kernel
theorem dL_balances_43 : decode cL_balances 43 = .ok (.if_icmp .ne 27, 3) := by decide +kernel
theorem dL_balances_46 : decode cL_balances 46 = .ok (.iload 6, 2) := by decide +kernel
theorem dL_balances_48 : decode cL_balances 48 = .ok (.ldc 57, 2) := by decide +kernel
theorem dL_balances_50 : decode cL_balances 50 = .ok (.if_icmp .eq 16, 3) := by decide +kernel
theorem dL_balances_53 : decode cL_balances 53 = .ok (.iload 6, 2) := by decide +kernel
theorem dL_balances_55 : decode cL_balances 55 = .ok (.ifCond .lt 15, 3) := by decide +kernel
theorem dL_balances_58 : decode cL_balances 58 = .ok (.iload 6, 2) := by decide +kernel
theorem dL_balances_60 : decode cL_balances 60 = .ok (.sipush 12000, 3) := by decide +kernel
theorem dL_balances_63 : decode cL_balances 63 = .ok (.if_icmp .ge 7, 3) := by decide +kernel
theorem dL_balances_66 : decode cL_balances 66 = .ok (.iconst 1, 1) := by decide +kernel
theorem dL_balances_67 : decode cL_balances 67 = .ok (.goto 4, 3) := by decide +kernel
theorem dL_balances_70 : decode cL_balances 70 = .ok (.iconst 0, 1) := by decide +kernel
theorem dL_balances_71 : decode cL_balances 71 = .ok (.istore 7, 2) := by decide +kernel
theorem dL_balances_73 : decode cL_balances 73 = .ok (.iload 7, 2) := by decide +kernel
theorem dL_balances_75 : decode cL_balances 75 = .ok (.ifCond .eq 54, 3) := by decide +kernel
theorem dL_balances_78 : decode cL_balances 78 = .ok (.iload 6, 2) := by decide +kernel
theorem dL_balances_80 : decode cL_balances 80 = .ok (.ifCond .le 49, 3) := by decide +kernel
theorem dL_balances_83 : decode cL_balances 83 = .ok (.aload_n 0, 1) := by decide +kernel
theorem dL_balances_84 : decode cL_balances 84 = .ok (.iload_n 1, 1) := by decide +kernel
theorem dL_balances_85 : decode cL_balances 85 = .ok (.iload 6, 2) := by decide +kernel
theorem dL_balances_87 : decode cL_balances 87 = .ok (.sipush 1000, 3) := by decide +kernel
theorem dL_balances_90 : decode cL_balances 90 = .ok (.idiv, 1) := by decide +kernel
theorem dL_balances_91 : decode cL_balances 91 = .ok (.iload 6, 2) := by decide +kernel
theorem dL_balances_93 : decode cL_balances 93 = .ok (.sipush 1000, 3) := by decide +kernel
theorem dL_balances_96 : decode cL_balances 96 = .ok (.irem, 1) := by decide +kernel
theorem dL_balances_97 : decode cL_balances 97 = .ok (.invokevirtual 58, 3) := by decide +kernel
theorem dL_balances_100 : decode cL_balances 100 = .ok (.ifCond .le 29, 3) := by decide +kernel
theorem dL_balances_103 : decode cL_balances 103 = .ok (.aload_n 0, 1) := by decide +kernel
theorem dL_balances_104 : decode cL_balances 104 = .ok (.iconst 0, 1) := by decide +kernel
theorem dL_balances_105 : decode cL_balances 105 = .ok (.invokevirtual 62, 3) := by decide +kernel
theorem dL_balances_108 : decode cL_balances 108 = .ok (.iload 5, 2) := by decide +kernel
theorem dL_balances_110 : decode cL_balances 110 = .ok (.if_icmp .ne 16, 3) := by decide +kernel
theorem dL_balances_113 : decode cL_balances 113 = .ok (.aload_n 0, 1) := by decide +kernel
theorem dL_balances_114 : decode cL_balances 114 = .ok (.invokevirtual 44, 3) := by decide +kernel
theorem dL_balances_117 : decode cL_balances 117 = .ok (.lload_n 3, 1) := by decide +kernel
theorem dL_balances_118 : decode cL_balances 118 = .ok (.lcmp, 1) := by decide +kernel
theorem dL_balances_119 : decode cL_balances 119 = .ok (.ifCond .ne 7, 3) := by decide +kernel
theorem dL_balances_122 : decode cL_balances 122 = .ok (.iconst 1, 1) := by decide +kernel
theorem dL_balances_123 : decode cL_balances 123 = .ok (.goto 4, 3) := by decide +kernel
theorem dL_balances_126 : decode cL_balances 126 = .ok (.iconst 0, 1) := by decide +kernel
theorem dL_balances_127 : decode cL_balances 127 = .ok (.istore 7, 2) := by decide +kernel
theorem dL_balances_129 : decode cL_balances 129 = .ok (.iload_n 1, 1) := by decide +kernel
theorem dL_balances_130 : decode cL_balances 130 = .ok (.iload_n 2, 1) := by decide +kernel
theorem dL_balances_131 : decode cL_balances 131 = .ok (.if_icmp .ne 7, 3) := by decide +kernel
theorem dL_balances_134 : decode cL_balances 134 = .ok (.iconst 0, 1) := by decide +kernel
theorem dL_balances_135 : decode cL_balances 135 = .ok (.goto 9, 3) := by decide +kernel
theorem dL_balances_138 : decode cL_balances 138 = .ok (.aload_n 0, 1) := by decide +kernel
theorem dL_balances_139 : decode cL_balances 139 = .ok (.iload_n 1, 1) := by decide +kernel
theorem dL_balances_140 : decode cL_balances 140 = .ok (.iload_n 2, 1) := by decide +kernel
theorem dL_balances_141 : decode cL_balances 141 = .ok (.invokevirtual 65, 3) := by decide +kernel
theorem dL_balances_144 : decode cL_balances 144 = .ok (.istore 8, 2) := by decide +kernel
theorem dL_balances_146 : decode cL_balances 146 = .ok (.iload 7, 2) := by decide +kernel
theorem dL_balances_148 : decode cL_balances 148 = .ok (.ifCond .eq 59, 3) := by decide +kernel
theorem dL_balances_151 : decode cL_balances 151 = .ok (.iload_n 1, 1) := by decide +kernel
theorem dL_balances_152 : decode cL_balances 152 = .ok (.iload_n 2, 1) := by decide +kernel
theorem dL_balances_153 : decode cL_balances 153 = .ok (.if_icmp .eq 31, 3) := by decide +kernel
theorem dL_balances_156 : decode cL_balances 156 = .ok (.iload 8, 2) := by decide +kernel
theorem dL_balances_158 : decode cL_balances 158 = .ok (.ifCond .ne 7, 3) := by decide +kernel
theorem dL_balances_161 : decode cL_balances 161 = .ok (.iconst 1, 1) := by decide +kernel
theorem dL_balances_162 : decode cL_balances 162 = .ok (.goto 4, 3) := by decide +kernel
theorem dL_balances_165 : decode cL_balances 165 = .ok (.iconst 0, 1) := by decide +kernel
