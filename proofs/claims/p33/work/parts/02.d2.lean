/-! decode rows, 2 of 5 -/
theorem dX2_part_8 : decode cX2_part 8 = .ok (.aload_n 0, 1) := by decide +kernel
theorem dX2_part_9 : decode cX2_part 9 = .ok (.getfield 21, 3) := by decide +kernel
theorem dX2_part_12 : decode cX2_part 12 = .ok (.goto 7, 3) := by decide +kernel
theorem dX2_part_15 : decode cX2_part 15 = .ok (.aload_n 0, 1) := by decide +kernel
theorem dX2_part_16 : decode cX2_part 16 = .ok (.getfield 18, 3) := by decide +kernel
theorem dX2_part_19 : decode cX2_part 19 = .ok (.ireturn, 1) := by decide +kernel
theorem dX2_part_20 : decode cX2_part 20 = .ok (.iload_n 2, 1) := by decide +kernel
theorem dX2_part_21 : decode cX2_part 21 = .ok (.ifCond .eq 10, 3) := by decide +kernel
theorem dX2_part_24 : decode cX2_part 24 = .ok (.aload_n 0, 1) := by decide +kernel
theorem dX2_part_25 : decode cX2_part 25 = .ok (.getfield 15, 3) := by decide +kernel
theorem dX2_part_28 : decode cX2_part 28 = .ok (.goto 7, 3) := by decide +kernel
theorem dX2_part_31 : decode cX2_part 31 = .ok (.aload_n 0, 1) := by decide +kernel
theorem dX2_part_32 : decode cX2_part 32 = .ok (.getfield 9, 3) := by decide +kernel
theorem dX2_part_35 : decode cX2_part 35 = .ok (.ireturn, 1) := by decide +kernel
theorem dX2_counter_0 : decode cX2_counter 0 = .ok (.aload_n 0, 1) := by decide +kernel
theorem dX2_counter_1 : decode cX2_counter 1 = .ok (.invokevirtual 37, 3) := by decide +kernel
theorem dX2_counter_4 : decode cX2_counter 4 = .ok (.ifCond .eq 5, 3) := by decide +kernel
theorem dX2_counter_7 : decode cX2_counter 7 = .ok (.iconst 0, 1) := by decide +kernel
theorem dX2_counter_8 : decode cX2_counter 8 = .ok (.ireturn, 1) := by decide +kernel
theorem dX2_counter_9 : decode cX2_counter 9 = .ok (.iconst 0, 1) := by decide +kernel
theorem dX2_counter_10 : decode cX2_counter 10 = .ok (.istore_n 2, 1) := by decide +kernel
theorem dX2_counter_11 : decode cX2_counter 11 = .ok (.iload_n 2, 1) := by decide +kernel
theorem dX2_counter_12 : decode cX2_counter 12 = .ok (.bipush 12, 2) := by decide +kernel
theorem dX2_counter_14 : decode cX2_counter 14 = .ok (.if_icmp .ge 28, 3) := by decide +kernel
theorem dX2_counter_17 : decode cX2_counter 17 = .ok (.aload_n 0, 1) := by decide +kernel
theorem dX2_counter_18 : decode cX2_counter 18 = .ok (.iload_n 2, 1) := by decide +kernel
theorem dX2_counter_19 : decode cX2_counter 19 = .ok (.iload_n 1, 1) := by decide +kernel
theorem dX2_counter_20 : decode cX2_counter 20 = .ok (.invokevirtual 41, 3) := by decide +kernel
theorem dX2_counter_23 : decode cX2_counter 23 = .ok (.istore_n 3, 1) := by decide +kernel
theorem dX2_counter_24 : decode cX2_counter 24 = .ok (.iload_n 3, 1) := by decide +kernel
theorem dX2_counter_25 : decode cX2_counter 25 = .ok (.ifCond .eq 11, 3) := by decide +kernel
theorem dX2_counter_28 : decode cX2_counter 28 = .ok (.sipush 1000, 3) := by decide +kernel
theorem dX2_counter_31 : decode cX2_counter 31 = .ok (.iload_n 2, 1) := by decide +kernel
theorem dX2_counter_32 : decode cX2_counter 32 = .ok (.imul, 1) := by decide +kernel
theorem dX2_counter_33 : decode cX2_counter 33 = .ok (.iload_n 3, 1) := by decide +kernel
theorem dX2_counter_34 : decode cX2_counter 34 = .ok (.iadd, 1) := by decide +kernel
theorem dX2_counter_35 : decode cX2_counter 35 = .ok (.ireturn, 1) := by decide +kernel
theorem dX2_counter_36 : decode cX2_counter 36 = .ok (.iinc 2 1, 3) := by decide +kernel
theorem dX2_counter_39 : decode cX2_counter 39 = .ok (.goto (-28), 3) := by decide +kernel
theorem dX2_counter_42 : decode cX2_counter 42 = .ok (.ldc 44, 2) := by decide +kernel
theorem dX2_counter_44 : decode cX2_counter 44 = .ok (.ireturn, 1) := by decide +kernel
theorem dX2_massAgainst_0 : decode cX2_massAgainst 0 = .ok (.iload_n 1, 1) := by decide +kernel
theorem dX2_massAgainst_1 : decode cX2_massAgainst 1 = .ok (.bipush 12, 2) := by decide +kernel
theorem dX2_massAgainst_3 : decode cX2_massAgainst 3 = .ok (.invokestatic 24, 3) := by decide +kernel
theorem dX2_massAgainst_6 : decode cX2_massAgainst 6 = .ok (.istore_n 3, 1) := by decide +kernel
theorem dX2_massAgainst_7 : decode cX2_massAgainst 7 = .ok (.iload_n 1, 1) := by decide +kernel
theorem dX2_massAgainst_8 : decode cX2_massAgainst 8 = .ok (.bipush 9, 2) := by decide +kernel
theorem dX2_massAgainst_10 : decode cX2_massAgainst 10 = .ok (.iadd, 1) := by decide +kernel
theorem dX2_massAgainst_11 : decode cX2_massAgainst 11 = .ok (.bipush 12, 2) := by decide +kernel
theorem dX2_massAgainst_13 : decode cX2_massAgainst 13 = .ok (.invokestatic 24, 3) := by decide +kernel
theorem dX2_massAgainst_16 : decode cX2_massAgainst 16 = .ok (.istore 4, 2) := by decide +kernel
theorem dX2_massAgainst_18 : decode cX2_massAgainst 18 = .ok (.getstatic 30, 3) := by decide +kernel
theorem dX2_massAgainst_21 : decode cX2_massAgainst 21 = .ok (.iload_n 3, 1) := by decide +kernel
theorem dX2_massAgainst_22 : decode cX2_massAgainst 22 = .ok (.iaload, 1) := by decide +kernel
theorem dX2_massAgainst_23 : decode cX2_massAgainst 23 = .ok (.ifCond .eq 21, 3) := by decide +kernel
theorem dX2_massAgainst_26 : decode cX2_massAgainst 26 = .ok (.aload_n 0, 1) := by decide +kernel
theorem dX2_massAgainst_27 : decode cX2_massAgainst 27 = .ok (.getfield 9, 3) := by decide +kernel
theorem dX2_massAgainst_30 : decode cX2_massAgainst 30 = .ok (.ineg, 1) := by decide +kernel
theorem dX2_massAgainst_31 : decode cX2_massAgainst 31 = .ok (.iload_n 2, 1) := by decide +kernel
theorem dX2_massAgainst_32 : decode cX2_massAgainst 32 = .ok (.getstatic 30, 3) := by decide +kernel
theorem dX2_massAgainst_35 : decode cX2_massAgainst 35 = .ok (.iload_n 3, 1) := by decide +kernel
theorem dX2_massAgainst_36 : decode cX2_massAgainst 36 = .ok (.iaload, 1) := by decide +kernel
theorem dX2_massAgainst_37 : decode cX2_massAgainst 37 = .ok (.imul, 1) := by decide +kernel
theorem dX2_massAgainst_38 : decode cX2_massAgainst 38 = .ok (.invokestatic 45, 3) := by decide +kernel
theorem dX2_massAgainst_41 : decode cX2_massAgainst 41 = .ok (.goto 19, 3) := by decide +kernel
theorem dX2_massAgainst_44 : decode cX2_massAgainst 44 = .ok (.aload_n 0, 1) := by decide +kernel
theorem dX2_massAgainst_45 : decode cX2_massAgainst 45 = .ok (.getfield 18, 3) := by decide +kernel
theorem dX2_massAgainst_48 : decode cX2_massAgainst 48 = .ok (.ineg, 1) := by decide +kernel
theorem dX2_massAgainst_49 : decode cX2_massAgainst 49 = .ok (.iload_n 2, 1) := by decide +kernel
theorem dX2_massAgainst_50 : decode cX2_massAgainst 50 = .ok (.getstatic 30, 3) := by decide +kernel
theorem dX2_massAgainst_53 : decode cX2_massAgainst 53 = .ok (.iload 4, 2) := by decide +kernel
theorem dX2_massAgainst_55 : decode cX2_massAgainst 55 = .ok (.iaload, 1) := by decide +kernel
theorem dX2_massAgainst_56 : decode cX2_massAgainst 56 = .ok (.imul, 1) := by decide +kernel
theorem dX2_massAgainst_57 : decode cX2_massAgainst 57 = .ok (.invokestatic 45, 3) := by decide +kernel
theorem dX2_massAgainst_60 : decode cX2_massAgainst 60 = .ok (.istore 5, 2) := by decide +kernel
theorem dX2_massAgainst_62 : decode cX2_massAgainst 62 = .ok (.iload 5, 2) := by decide +kernel
theorem dX2_massAgainst_64 : decode cX2_massAgainst 64 = .ok (.iload_n 2, 1) := by decide +kernel
theorem dX2_massAgainst_65 : decode cX2_massAgainst 65 = .ok (.imul, 1) := by decide +kernel
theorem dX2_massAgainst_66 : decode cX2_massAgainst 66 = .ok (.istore 6, 2) := by decide +kernel
theorem dX2_massAgainst_68 : decode cX2_massAgainst 68 = .ok (.aload_n 0, 1) := by decide +kernel
theorem dX2_massAgainst_69 : decode cX2_massAgainst 69 = .ok (.getfield 9, 3) := by decide +kernel
theorem dX2_massAgainst_72 : decode cX2_massAgainst 72 = .ok (.iload 6, 2) := by decide +kernel
theorem dX2_massAgainst_74 : decode cX2_massAgainst 74 = .ok (.getstatic 30, 3) := by decide +kernel
theorem dX2_massAgainst_77 : decode cX2_massAgainst 77 = .ok (.iload_n 3, 1) := by decide +kernel
theorem dX2_massAgainst_78 : decode cX2_massAgainst 78 = .ok (.iaload, 1) := by decide +kernel
theorem dX2_massAgainst_79 : decode cX2_massAgainst 79 = .ok (.imul, 1) := by decide +kernel
theorem dX2_massAgainst_80 : decode cX2_massAgainst 80 = .ok (.iadd, 1) := by decide +kernel
theorem dX2_massAgainst_81 : decode cX2_massAgainst 81 = .ok (.ifCond .ne 57, 3) := by decide +kernel
theorem dX2_massAgainst_84 : decode cX2_massAgainst 84 = .ok (.aload_n 0, 1) := by decide +kernel
theorem dX2_massAgainst_85 : decode cX2_massAgainst 85 = .ok (.getfield 15, 3) := by decide +kernel
theorem dX2_massAgainst_88 : decode cX2_massAgainst 88 = .ok (.iload 6, 2) := by decide +kernel
theorem dX2_massAgainst_90 : decode cX2_massAgainst 90 = .ok (.getstatic 34, 3) := by decide +kernel
theorem dX2_massAgainst_93 : decode cX2_massAgainst 93 = .ok (.iload_n 3, 1) := by decide +kernel
theorem dX2_massAgainst_94 : decode cX2_massAgainst 94 = .ok (.iaload, 1) := by decide +kernel
theorem dX2_massAgainst_95 : decode cX2_massAgainst 95 = .ok (.imul, 1) := by decide +kernel
theorem dX2_massAgainst_96 : decode cX2_massAgainst 96 = .ok (.iadd, 1) := by decide +kernel
theorem dX2_massAgainst_97 : decode cX2_massAgainst 97 = .ok (.ifCond .ne 41, 3) := by decide +kernel
theorem dX2_massAgainst_100 : decode cX2_massAgainst 100 = .ok (.aload_n 0, 1) := by decide +kernel
theorem dX2_massAgainst_101 : decode cX2_massAgainst 101 = .ok (.getfield 18, 3) := by decide +kernel
theorem dX2_massAgainst_104 : decode cX2_massAgainst 104 = .ok (.iload 6, 2) := by decide +kernel
theorem dX2_massAgainst_106 : decode cX2_massAgainst 106 = .ok (.getstatic 30, 3) := by decide +kernel
theorem dX2_massAgainst_109 : decode cX2_massAgainst 109 = .ok (.iload 4, 2) := by decide +kernel
theorem dX2_massAgainst_111 : decode cX2_massAgainst 111 = .ok (.iaload, 1) := by decide +kernel
theorem dX2_massAgainst_112 : decode cX2_massAgainst 112 = .ok (.imul, 1) := by decide +kernel
theorem dX2_massAgainst_113 : decode cX2_massAgainst 113 = .ok (.iadd, 1) := by decide +kernel
theorem dX2_massAgainst_114 : decode cX2_massAgainst 114 = .ok (.ifCond .ne 24, 3) := by decide +kernel
theorem dX2_massAgainst_117 : decode cX2_massAgainst 117 = .ok (.aload_n 0, 1) := by decide +kernel
theorem dX2_massAgainst_118 : decode cX2_massAgainst 118 = .ok (.getfield 21, 3) := by decide +kernel
theorem dX2_massAgainst_121 : decode cX2_massAgainst 121 = .ok (.iload 6, 2) := by decide +kernel
theorem dX2_massAgainst_123 : decode cX2_massAgainst 123 = .ok (.getstatic 34, 3) := by decide +kernel
theorem dX2_massAgainst_126 : decode cX2_massAgainst 126 = .ok (.iload 4, 2) := by decide +kernel
theorem dX2_massAgainst_128 : decode cX2_massAgainst 128 = .ok (.iaload, 1) := by decide +kernel
theorem dX2_massAgainst_129 : decode cX2_massAgainst 129 = .ok (.imul, 1) := by decide +kernel
theorem dX2_massAgainst_130 : decode cX2_massAgainst 130 = .ok (.iadd, 1) := by decide +kernel
theorem dX2_massAgainst_131 : decode cX2_massAgainst 131 = .ok (.ifCond .ne 7, 3) := by decide +kernel
theorem dX2_massAgainst_134 : decode cX2_massAgainst 134 = .ok (.iconst 1, 1) := by decide +kernel
theorem dX2_massAgainst_135 : decode cX2_massAgainst 135 = .ok (.goto 4, 3) := by decide +kernel
theorem dX2_massAgainst_138 : decode cX2_massAgainst 138 = .ok (.iconst 0, 1) := by decide +kernel
theorem dX2_massAgainst_139 : decode cX2_massAgainst 139 = .ok (.istore 7, 2) := by decide +kernel
theorem dX2_massAgainst_141 : decode cX2_massAgainst 141 = .ok (.iload 7, 2) := by decide +kernel
theorem dX2_massAgainst_143 : decode cX2_massAgainst 143 = .ok (.ifCond .eq 22, 3) := by decide +kernel
theorem dX2_massAgainst_146 : decode cX2_massAgainst 146 = .ok (.iload 5, 2) := by decide +kernel
theorem dX2_massAgainst_148 : decode cX2_massAgainst 148 = .ok (.iconst 1, 1) := by decide +kernel
theorem dX2_massAgainst_149 : decode cX2_massAgainst 149 = .ok (.if_icmp .lt 16, 3) := by decide +kernel
theorem dX2_massAgainst_152 : decode cX2_massAgainst 152 = .ok (.iload 5, 2) := by decide +kernel
theorem dX2_massAgainst_154 : decode cX2_massAgainst 154 = .ok (.sipush 999, 3) := by decide +kernel
theorem dX2_massAgainst_157 : decode cX2_massAgainst 157 = .ok (.if_icmp .gt 8, 3) := by decide +kernel
theorem dX2_massAgainst_160 : decode cX2_massAgainst 160 = .ok (.iload 5, 2) := by decide +kernel
theorem dX2_massAgainst_162 : decode cX2_massAgainst 162 = .ok (.goto 4, 3) := by decide +kernel
theorem dX2_massAgainst_165 : decode cX2_massAgainst 165 = .ok (.iconst 0, 1) := by decide +kernel
theorem dX2_massAgainst_166 : decode cX2_massAgainst 166 = .ok (.ireturn, 1) := by decide +kernel
theorem dX2_quotient_0 : decode cX2_quotient 0 = .ok (.iload_n 1, 1) := by decide +kernel
theorem dX2_quotient_1 : decode cX2_quotient 1 = .ok (.ifCond .ne 7, 3) := by decide +kernel
theorem dX2_quotient_4 : decode cX2_quotient 4 = .ok (.iconst 0, 1) := by decide +kernel
theorem dX2_quotient_5 : decode cX2_quotient 5 = .ok (.goto 6, 3) := by decide +kernel
theorem dX2_quotient_8 : decode cX2_quotient 8 = .ok (.iload_n 0, 1) := by decide +kernel
theorem dX2_quotient_9 : decode cX2_quotient 9 = .ok (.iload_n 1, 1) := by decide +kernel
theorem dX2_quotient_10 : decode cX2_quotient 10 = .ok (.idiv, 1) := by decide +kernel
theorem dX2_quotient_11 : decode cX2_quotient 11 = .ok (.ireturn, 1) := by decide +kernel
theorem dX3_init_0 : decode cX3_init 0 = .ok (.aload_n 0, 1) := by decide +kernel
theorem dX3_init_1 : decode cX3_init 1 = .ok (.invokespecial 3, 3) := by decide +kernel
theorem dX3_init_4 : decode cX3_init 4 = .ok (.aload_n 0, 1) := by decide +kernel
theorem dX3_init_5 : decode cX3_init 5 = .ok (.bipush 40, 2) := by decide +kernel
theorem dX3_init_7 : decode cX3_init 7 = .ok (.newarray .byte, 2) := by decide +kernel
theorem dX3_init_9 : decode cX3_init 9 = .ok (.putfield 9, 3) := by decide +kernel
theorem dX3_init_12 : decode cX3_init 12 = .ok (.return_, 1) := by decide +kernel
theorem dX3_put_0 : decode cX3_put 0 = .ok (.aload_n 0, 1) := by decide +kernel
theorem dX3_put_1 : decode cX3_put 1 = .ok (.getfield 15, 3) := by decide +kernel
theorem dX3_put_4 : decode cX3_put 4 = .ok (.bipush 40, 2) := by decide +kernel
theorem dX3_put_6 : decode cX3_put 6 = .ok (.if_icmp .lt 5, 3) := by decide +kernel
theorem dX3_put_9 : decode cX3_put 9 = .ok (.iconst 0, 1) := by decide +kernel
theorem dX3_put_10 : decode cX3_put 10 = .ok (.ireturn, 1) := by decide +kernel
theorem dX3_put_11 : decode cX3_put 11 = .ok (.aload_n 0, 1) := by decide +kernel
theorem dX3_put_12 : decode cX3_put 12 = .ok (.getfield 9, 3) := by decide +kernel
theorem dX3_put_15 : decode cX3_put 15 = .ok (.aload_n 0, 1) := by decide +kernel
theorem dX3_put_16 : decode cX3_put 16 = .ok (.getfield 15, 3) := by decide +kernel
theorem dX3_put_19 : decode cX3_put 19 = .ok (.iload_n 1, 1) := by decide +kernel
theorem dX3_put_20 : decode cX3_put 20 = .ok (.i2b, 1) := by decide +kernel
theorem dX3_put_21 : decode cX3_put 21 = .ok (.bastore, 1) := by decide +kernel
theorem dX3_put_22 : decode cX3_put 22 = .ok (.aload_n 0, 1) := by decide +kernel
theorem dX3_put_23 : decode cX3_put 23 = .ok (.dup, 1) := by decide +kernel
theorem dX3_put_24 : decode cX3_put 24 = .ok (.getfield 15, 3) := by decide +kernel
theorem dX3_put_27 : decode cX3_put 27 = .ok (.iconst 1, 1) := by decide +kernel
theorem dX3_put_28 : decode cX3_put 28 = .ok (.iadd, 1) := by decide +kernel
theorem dX3_put_29 : decode cX3_put 29 = .ok (.putfield 15, 3) := by decide +kernel
theorem dX3_put_32 : decode cX3_put 32 = .ok (.iconst 1, 1) := by decide +kernel
theorem dX3_put_33 : decode cX3_put 33 = .ok (.ireturn, 1) := by decide +kernel
theorem dX4_init_0 : decode cX4_init 0 = .ok (.aload_n 0, 1) := by decide +kernel
theorem dX4_init_1 : decode cX4_init 1 = .ok (.invokespecial 3, 3) := by decide +kernel
theorem dX4_init_4 : decode cX4_init 4 = .ok (.aload_n 0, 1) := by decide +kernel
theorem dX4_init_5 : decode cX4_init 5 = .ok (.bipush 8, 2) := by decide +kernel
theorem dX4_init_7 : decode cX4_init 7 = .ok (.newarray .int, 2) := by decide +kernel
theorem dX4_init_9 : decode cX4_init 9 = .ok (.putfield 9, 3) := by decide +kernel
theorem dX4_init_12 : decode cX4_init 12 = .ok (.aload_n 0, 1) := by decide +kernel
theorem dX4_init_13 : decode cX4_init 13 = .ok (.bipush 8, 2) := by decide +kernel
theorem dX4_init_15 : decode cX4_init 15 = .ok (.newarray .int, 2) := by decide +kernel
theorem dX4_init_17 : decode cX4_init 17 = .ok (.putfield 15, 3) := by decide +kernel
theorem dX4_init_20 : decode cX4_init 20 = .ok (.aload_n 0, 1) := by decide +kernel
theorem dX4_init_21 : decode cX4_init 21 = .ok (.bipush 8, 2) := by decide +kernel
theorem dX4_init_23 : decode cX4_init 23 = .ok (.newarray .int, 2) := by decide +kernel
theorem dX4_init_25 : decode cX4_init 25 = .ok (.putfield 18, 3) := by decide +kernel
theorem dX4_init_28 : decode cX4_init 28 = .ok (.return_, 1) := by decide +kernel
theorem dX4_put_0 : decode cX4_put 0 = .ok (.aload_n 0, 1) := by decide +kernel
theorem dX4_put_1 : decode cX4_put 1 = .ok (.iload_n 1, 1) := by decide +kernel
theorem dX4_put_2 : decode cX4_put 2 = .ok (.iload_n 2, 1) := by decide +kernel
theorem dX4_put_3 : decode cX4_put 3 = .ok (.invokevirtual 21, 3) := by decide +kernel
theorem dX4_put_6 : decode cX4_put 6 = .ok (.istore 4, 2) := by decide +kernel
theorem dX4_put_8 : decode cX4_put 8 = .ok (.aload_n 0, 1) := by decide +kernel
theorem dX4_put_9 : decode cX4_put 9 = .ok (.iload 4, 2) := by decide +kernel
theorem dX4_put_11 : decode cX4_put 11 = .ok (.iload_n 1, 1) := by decide +kernel
theorem dX4_put_12 : decode cX4_put 12 = .ok (.iload_n 2, 1) := by decide +kernel
theorem dX4_put_13 : decode cX4_put 13 = .ok (.invokevirtual 25, 3) := by decide +kernel
theorem dX4_put_16 : decode cX4_put 16 = .ok (.ifCond .ne 69, 3) := by decide +kernel
theorem dX4_put_19 : decode cX4_put 19 = .ok (.aload_n 0, 1) := by decide +kernel
theorem dX4_put_20 : decode cX4_put 20 = .ok (.getfield 29, 3) := by decide +kernel
theorem dX4_put_23 : decode cX4_put 23 = .ok (.bipush 8, 2) := by decide +kernel
theorem dX4_put_25 : decode cX4_put 25 = .ok (.if_icmp .lt 5, 3) := by decide +kernel
theorem dX4_put_28 : decode cX4_put 28 = .ok (.iconst 0, 1) := by decide +kernel
theorem dX4_put_29 : decode cX4_put 29 = .ok (.ireturn, 1) := by decide +kernel
theorem dX4_put_30 : decode cX4_put 30 = .ok (.aload_n 0, 1) := by decide +kernel
theorem dX4_put_31 : decode cX4_put 31 = .ok (.getfield 29, 3) := by decide +kernel
theorem dX4_put_34 : decode cX4_put 34 = .ok (.istore 5, 2) := by decide +kernel
theorem dX4_put_36 : decode cX4_put 36 = .ok (.iload 5, 2) := by decide +kernel
theorem dX4_put_38 : decode cX4_put 38 = .ok (.iload 4, 2) := by decide +kernel
theorem dX4_put_40 : decode cX4_put 40 = .ok (.if_icmp .le 19, 3) := by decide +kernel
theorem dX4_put_43 : decode cX4_put 43 = .ok (.aload_n 0, 1) := by decide +kernel
theorem dX4_put_44 : decode cX4_put 44 = .ok (.iload 5, 2) := by decide +kernel
theorem dX4_put_46 : decode cX4_put 46 = .ok (.iconst 1, 1) := by decide +kernel
theorem dX4_put_47 : decode cX4_put 47 = .ok (.isub, 1) := by decide +kernel
theorem dX4_put_48 : decode cX4_put 48 = .ok (.iload 5, 2) := by decide +kernel
theorem dX4_put_50 : decode cX4_put 50 = .ok (.invokevirtual 33, 3) := by decide +kernel
theorem dX4_put_53 : decode cX4_put 53 = .ok (.iinc 5 (-1), 3) := by decide +kernel
theorem dX4_put_56 : decode cX4_put 56 = .ok (.goto (-20), 3) := by decide +kernel
theorem dX4_put_59 : decode cX4_put 59 = .ok (.aload_n 0, 1) := by decide +kernel
theorem dX4_put_60 : decode cX4_put 60 = .ok (.getfield 9, 3) := by decide +kernel
theorem dX4_put_63 : decode cX4_put 63 = .ok (.iload 4, 2) := by decide +kernel
theorem dX4_put_65 : decode cX4_put 65 = .ok (.iload_n 1, 1) := by decide +kernel
theorem dX4_put_66 : decode cX4_put 66 = .ok (.iastore, 1) := by decide +kernel
theorem dX4_put_67 : decode cX4_put 67 = .ok (.aload_n 0, 1) := by decide +kernel
theorem dX4_put_68 : decode cX4_put 68 = .ok (.getfield 15, 3) := by decide +kernel
theorem dX4_put_71 : decode cX4_put 71 = .ok (.iload 4, 2) := by decide +kernel
theorem dX4_put_73 : decode cX4_put 73 = .ok (.iload_n 2, 1) := by decide +kernel
theorem dX4_put_74 : decode cX4_put 74 = .ok (.iastore, 1) := by decide +kernel
theorem dX4_put_75 : decode cX4_put 75 = .ok (.aload_n 0, 1) := by decide +kernel
theorem dX4_put_76 : decode cX4_put 76 = .ok (.dup, 1) := by decide +kernel
theorem dX4_put_77 : decode cX4_put 77 = .ok (.getfield 29, 3) := by decide +kernel
theorem dX4_put_80 : decode cX4_put 80 = .ok (.iconst 1, 1) := by decide +kernel
theorem dX4_put_81 : decode cX4_put 81 = .ok (.iadd, 1) := by decide +kernel
theorem dX4_put_82 : decode cX4_put 82 = .ok (.putfield 29, 3) := by decide +kernel
theorem dX4_put_85 : decode cX4_put 85 = .ok (.aload_n 0, 1) := by decide +kernel
theorem dX4_put_86 : decode cX4_put 86 = .ok (.getfield 18, 3) := by decide +kernel
theorem dX4_put_89 : decode cX4_put 89 = .ok (.iload 4, 2) := by decide +kernel
theorem dX4_put_91 : decode cX4_put 91 = .ok (.iload_n 3, 1) := by decide +kernel
theorem dX4_put_92 : decode cX4_put 92 = .ok (.iastore, 1) := by decide +kernel
theorem dX4_put_93 : decode cX4_put 93 = .ok (.iconst 1, 1) := by decide +kernel
theorem dX4_put_94 : decode cX4_put 94 = .ok (.ireturn, 1) := by decide +kernel
theorem dX4_remove_0 : decode cX4_remove 0 = .ok (.aload_n 0, 1) := by decide +kernel
theorem dX4_remove_1 : decode cX4_remove 1 = .ok (.iload_n 1, 1) := by decide +kernel
theorem dX4_remove_2 : decode cX4_remove 2 = .ok (.iload_n 2, 1) := by decide +kernel
theorem dX4_remove_3 : decode cX4_remove 3 = .ok (.invokevirtual 21, 3) := by decide +kernel
theorem dX4_remove_6 : decode cX4_remove 6 = .ok (.istore_n 3, 1) := by decide +kernel
theorem dX4_remove_7 : decode cX4_remove 7 = .ok (.aload_n 0, 1) := by decide +kernel
theorem dX4_remove_8 : decode cX4_remove 8 = .ok (.iload_n 3, 1) := by decide +kernel
theorem dX4_remove_9 : decode cX4_remove 9 = .ok (.iload_n 1, 1) := by decide +kernel
theorem dX4_remove_10 : decode cX4_remove 10 = .ok (.iload_n 2, 1) := by decide +kernel
theorem dX4_remove_11 : decode cX4_remove 11 = .ok (.invokevirtual 25, 3) := by decide +kernel
theorem dX4_remove_14 : decode cX4_remove 14 = .ok (.ifCond .eq 41, 3) := by decide +kernel
theorem dX4_remove_17 : decode cX4_remove 17 = .ok (.aload_n 0, 1) := by decide +kernel
theorem dX4_remove_18 : decode cX4_remove 18 = .ok (.dup, 1) := by decide +kernel
theorem dX4_remove_19 : decode cX4_remove 19 = .ok (.getfield 29, 3) := by decide +kernel
theorem dX4_remove_22 : decode cX4_remove 22 = .ok (.iconst 1, 1) := by decide +kernel
theorem dX4_remove_23 : decode cX4_remove 23 = .ok (.isub, 1) := by decide +kernel
theorem dX4_remove_24 : decode cX4_remove 24 = .ok (.putfield 29, 3) := by decide +kernel
theorem dX4_remove_27 : decode cX4_remove 27 = .ok (.iload_n 3, 1) := by decide +kernel
theorem dX4_remove_28 : decode cX4_remove 28 = .ok (.istore 4, 2) := by decide +kernel
theorem dX4_remove_30 : decode cX4_remove 30 = .ok (.iload 4, 2) := by decide +kernel
theorem dX4_remove_32 : decode cX4_remove 32 = .ok (.aload_n 0, 1) := by decide +kernel
theorem dX4_remove_33 : decode cX4_remove 33 = .ok (.getfield 29, 3) := by decide +kernel
theorem dX4_remove_36 : decode cX4_remove 36 = .ok (.if_icmp .ge 19, 3) := by decide +kernel
theorem dX4_remove_39 : decode cX4_remove 39 = .ok (.aload_n 0, 1) := by decide +kernel
theorem dX4_remove_40 : decode cX4_remove 40 = .ok (.iload 4, 2) := by decide +kernel
theorem dX4_remove_42 : decode cX4_remove 42 = .ok (.iconst 1, 1) := by decide +kernel
theorem dX4_remove_43 : decode cX4_remove 43 = .ok (.iadd, 1) := by decide +kernel
theorem dX4_remove_44 : decode cX4_remove 44 = .ok (.iload 4, 2) := by decide +kernel
theorem dX4_remove_46 : decode cX4_remove 46 = .ok (.invokevirtual 33, 3) := by decide +kernel
theorem dX4_remove_49 : decode cX4_remove 49 = .ok (.iinc 4 1, 3) := by decide +kernel
theorem dX4_remove_52 : decode cX4_remove 52 = .ok (.goto (-22), 3) := by decide +kernel
theorem dX4_remove_55 : decode cX4_remove 55 = .ok (.return_, 1) := by decide +kernel
theorem dX4_takeOver_0 : decode cX4_takeOver 0 = .ok (.aload_n 0, 1) := by decide +kernel
theorem dX4_takeOver_1 : decode cX4_takeOver 1 = .ok (.aload_n 1, 1) := by decide +kernel
theorem dX4_takeOver_2 : decode cX4_takeOver 2 = .ok (.getfield 29, 3) := by decide +kernel
theorem dX4_takeOver_5 : decode cX4_takeOver 5 = .ok (.putfield 29, 3) := by decide +kernel
theorem dX4_takeOver_8 : decode cX4_takeOver 8 = .ok (.aload_n 1, 1) := by decide +kernel
theorem dX4_takeOver_9 : decode cX4_takeOver 9 = .ok (.getfield 9, 3) := by decide +kernel
theorem dX4_takeOver_12 : decode cX4_takeOver 12 = .ok (.iconst 0, 1) := by decide +kernel
theorem dX4_takeOver_13 : decode cX4_takeOver 13 = .ok (.aload_n 0, 1) := by decide +kernel
theorem dX4_takeOver_14 : decode cX4_takeOver 14 = .ok (.getfield 9, 3) := by decide +kernel
theorem dX4_takeOver_17 : decode cX4_takeOver 17 = .ok (.iconst 0, 1) := by decide +kernel
theorem dX4_takeOver_18 : decode cX4_takeOver 18 = .ok (.bipush 8, 2) := by decide +kernel
theorem dX4_takeOver_20 : decode cX4_takeOver 20 = .ok (.invokestatic 37, 3) := by decide +kernel
theorem dX4_takeOver_23 : decode cX4_takeOver 23 = .ok (.aload_n 1, 1) := by decide +kernel
theorem dX4_takeOver_24 : decode cX4_takeOver 24 = .ok (.getfield 15, 3) := by decide +kernel
theorem dX4_takeOver_27 : decode cX4_takeOver 27 = .ok (.iconst 0, 1) := by decide +kernel
theorem dX4_takeOver_28 : decode cX4_takeOver 28 = .ok (.aload_n 0, 1) := by decide +kernel
theorem dX4_takeOver_29 : decode cX4_takeOver 29 = .ok (.getfield 15, 3) := by decide +kernel
theorem dX4_takeOver_32 : decode cX4_takeOver 32 = .ok (.iconst 0, 1) := by decide +kernel
theorem dX4_takeOver_33 : decode cX4_takeOver 33 = .ok (.bipush 8, 2) := by decide +kernel
theorem dX4_takeOver_35 : decode cX4_takeOver 35 = .ok (.invokestatic 37, 3) := by decide +kernel
theorem dX4_takeOver_38 : decode cX4_takeOver 38 = .ok (.aload_n 1, 1) := by decide +kernel
theorem dX4_takeOver_39 : decode cX4_takeOver 39 = .ok (.getfield 18, 3) := by decide +kernel
theorem dX4_takeOver_42 : decode cX4_takeOver 42 = .ok (.iconst 0, 1) := by decide +kernel
theorem dX4_takeOver_43 : decode cX4_takeOver 43 = .ok (.aload_n 0, 1) := by decide +kernel
theorem dX4_takeOver_44 : decode cX4_takeOver 44 = .ok (.getfield 18, 3) := by decide +kernel
theorem dX4_takeOver_47 : decode cX4_takeOver 47 = .ok (.iconst 0, 1) := by decide +kernel
theorem dX4_takeOver_48 : decode cX4_takeOver 48 = .ok (.bipush 8, 2) := by decide +kernel
theorem dX4_takeOver_50 : decode cX4_takeOver 50 = .ok (.invokestatic 37, 3) := by decide +kernel
theorem dX4_takeOver_53 : decode cX4_takeOver 53 = .ok (.return_, 1) := by decide +kernel
theorem dX4_copyWithin_0 : decode cX4_copyWithin 0 = .ok (.aload_n 0, 1) := by decide +kernel
theorem dX4_copyWithin_1 : decode cX4_copyWithin 1 = .ok (.getfield 9, 3) := by decide +kernel
theorem dX4_copyWithin_4 : decode cX4_copyWithin 4 = .ok (.iload_n 2, 1) := by decide +kernel
theorem dX4_copyWithin_5 : decode cX4_copyWithin 5 = .ok (.aload_n 0, 1) := by decide +kernel
theorem dX4_copyWithin_6 : decode cX4_copyWithin 6 = .ok (.getfield 9, 3) := by decide +kernel
theorem dX4_copyWithin_9 : decode cX4_copyWithin 9 = .ok (.iload_n 1, 1) := by decide +kernel
theorem dX4_copyWithin_10 : decode cX4_copyWithin 10 = .ok (.iaload, 1) := by decide +kernel
theorem dX4_copyWithin_11 : decode cX4_copyWithin 11 = .ok (.iastore, 1) := by decide +kernel
theorem dX4_copyWithin_12 : decode cX4_copyWithin 12 = .ok (.aload_n 0, 1) := by decide +kernel
theorem dX4_copyWithin_13 : decode cX4_copyWithin 13 = .ok (.getfield 15, 3) := by decide +kernel
theorem dX4_copyWithin_16 : decode cX4_copyWithin 16 = .ok (.iload_n 2, 1) := by decide +kernel
theorem dX4_copyWithin_17 : decode cX4_copyWithin 17 = .ok (.aload_n 0, 1) := by decide +kernel
theorem dX4_copyWithin_18 : decode cX4_copyWithin 18 = .ok (.getfield 15, 3) := by decide +kernel
theorem dX4_copyWithin_21 : decode cX4_copyWithin 21 = .ok (.iload_n 1, 1) := by decide +kernel
theorem dX4_copyWithin_22 : decode cX4_copyWithin 22 = .ok (.iaload, 1) := by decide +kernel
theorem dX4_copyWithin_23 : decode cX4_copyWithin 23 = .ok (.iastore, 1) := by decide +kernel
theorem dX4_copyWithin_24 : decode cX4_copyWithin 24 = .ok (.aload_n 0, 1) := by decide +kernel
theorem dX4_copyWithin_25 : decode cX4_copyWithin 25 = .ok (.getfield 18, 3) := by decide +kernel
theorem dX4_copyWithin_28 : decode cX4_copyWithin 28 = .ok (.iload_n 2, 1) := by decide +kernel
theorem dX4_copyWithin_29 : decode cX4_copyWithin 29 = .ok (.aload_n 0, 1) := by decide +kernel
theorem dX4_copyWithin_30 : decode cX4_copyWithin 30 = .ok (.getfield 18, 3) := by decide +kernel
theorem dX4_copyWithin_33 : decode cX4_copyWithin 33 = .ok (.iload_n 1, 1) := by decide +kernel
theorem dX4_copyWithin_34 : decode cX4_copyWithin 34 = .ok (.iaload, 1) := by decide +kernel
theorem dX4_copyWithin_35 : decode cX4_copyWithin 35 = .ok (.iastore, 1) := by decide +kernel
theorem dX4_copyWithin_36 : decode cX4_copyWithin 36 = .ok (.return_, 1) := by decide +kernel
theorem dX4_rankOf_0 : decode cX4_rankOf 0 = .ok (.iconst 0, 1) := by decide +kernel
theorem dX4_rankOf_1 : decode cX4_rankOf 1 = .ok (.istore_n 3, 1) := by decide +kernel
theorem dX4_rankOf_2 : decode cX4_rankOf 2 = .ok (.iconst 0, 1) := by decide +kernel
theorem dX4_rankOf_3 : decode cX4_rankOf 3 = .ok (.istore 4, 2) := by decide +kernel
theorem dX4_rankOf_5 : decode cX4_rankOf 5 = .ok (.iload 4, 2) := by decide +kernel
theorem dX4_rankOf_7 : decode cX4_rankOf 7 = .ok (.aload_n 0, 1) := by decide +kernel
theorem dX4_rankOf_8 : decode cX4_rankOf 8 = .ok (.getfield 29, 3) := by decide +kernel
theorem dX4_rankOf_11 : decode cX4_rankOf 11 = .ok (.if_icmp .ge 45, 3) := by decide +kernel
theorem dX4_rankOf_14 : decode cX4_rankOf 14 = .ok (.aload_n 0, 1) := by decide +kernel
theorem dX4_rankOf_15 : decode cX4_rankOf 15 = .ok (.getfield 9, 3) := by decide +kernel
theorem dX4_rankOf_18 : decode cX4_rankOf 18 = .ok (.iload 4, 2) := by decide +kernel
theorem dX4_rankOf_20 : decode cX4_rankOf 20 = .ok (.iaload, 1) := by decide +kernel
theorem dX4_rankOf_21 : decode cX4_rankOf 21 = .ok (.iload_n 1, 1) := by decide +kernel
theorem dX4_rankOf_22 : decode cX4_rankOf 22 = .ok (.if_icmp .lt 25, 3) := by decide +kernel
theorem dX4_rankOf_25 : decode cX4_rankOf 25 = .ok (.aload_n 0, 1) := by decide +kernel
theorem dX4_rankOf_26 : decode cX4_rankOf 26 = .ok (.getfield 9, 3) := by decide +kernel
theorem dX4_rankOf_29 : decode cX4_rankOf 29 = .ok (.iload 4, 2) := by decide +kernel
theorem dX4_rankOf_31 : decode cX4_rankOf 31 = .ok (.iaload, 1) := by decide +kernel
theorem dX4_rankOf_32 : decode cX4_rankOf 32 = .ok (.iload_n 1, 1) := by decide +kernel
theorem dX4_rankOf_33 : decode cX4_rankOf 33 = .ok (.if_icmp .ne 17, 3) := by decide +kernel
theorem dX4_rankOf_36 : decode cX4_rankOf 36 = .ok (.aload_n 0, 1) := by decide +kernel
theorem dX4_rankOf_37 : decode cX4_rankOf 37 = .ok (.getfield 15, 3) := by decide +kernel
theorem dX4_rankOf_40 : decode cX4_rankOf 40 = .ok (.iload 4, 2) := by decide +kernel
theorem dX4_rankOf_42 : decode cX4_rankOf 42 = .ok (.iaload, 1) := by decide +kernel
theorem dX4_rankOf_43 : decode cX4_rankOf 43 = .ok (.iload_n 2, 1) := by decide +kernel
theorem dX4_rankOf_44 : decode cX4_rankOf 44 = .ok (.if_icmp .ge 6, 3) := by decide +kernel
theorem dX4_rankOf_47 : decode cX4_rankOf 47 = .ok (.iinc 3 1, 3) := by decide +kernel
theorem dX4_rankOf_50 : decode cX4_rankOf 50 = .ok (.iinc 4 1, 3) := by decide +kernel
theorem dX4_rankOf_53 : decode cX4_rankOf 53 = .ok (.goto (-48), 3) := by decide +kernel
theorem dX4_rankOf_56 : decode cX4_rankOf 56 = .ok (.iload_n 3, 1) := by decide +kernel
theorem dX4_rankOf_57 : decode cX4_rankOf 57 = .ok (.ireturn, 1) := by decide +kernel
theorem dX4_standsAt_0 : decode cX4_standsAt 0 = .ok (.iload_n 1, 1) := by decide +kernel
theorem dX4_standsAt_1 : decode cX4_standsAt 1 = .ok (.aload_n 0, 1) := by decide +kernel
theorem dX4_standsAt_2 : decode cX4_standsAt 2 = .ok (.getfield 29, 3) := by decide +kernel
theorem dX4_standsAt_5 : decode cX4_standsAt 5 = .ok (.if_icmp .ge 27, 3) := by decide +kernel
theorem dX4_standsAt_8 : decode cX4_standsAt 8 = .ok (.aload_n 0, 1) := by decide +kernel
theorem dX4_standsAt_9 : decode cX4_standsAt 9 = .ok (.getfield 9, 3) := by decide +kernel
theorem dX4_standsAt_12 : decode cX4_standsAt 12 = .ok (.iload_n 1, 1) := by decide +kernel
theorem dX4_standsAt_13 : decode cX4_standsAt 13 = .ok (.iaload, 1) := by decide +kernel
theorem dX4_standsAt_14 : decode cX4_standsAt 14 = .ok (.iload_n 2, 1) := by decide +kernel
theorem dX4_standsAt_15 : decode cX4_standsAt 15 = .ok (.if_icmp .ne 17, 3) := by decide +kernel
theorem dX4_standsAt_18 : decode cX4_standsAt 18 = .ok (.aload_n 0, 1) := by decide +kernel
theorem dX4_standsAt_19 : decode cX4_standsAt 19 = .ok (.getfield 15, 3) := by decide +kernel
theorem dX4_standsAt_22 : decode cX4_standsAt 22 = .ok (.iload_n 1, 1) := by decide +kernel
theorem dX4_standsAt_23 : decode cX4_standsAt 23 = .ok (.iaload, 1) := by decide +kernel
theorem dX4_standsAt_24 : decode cX4_standsAt 24 = .ok (.iload_n 3, 1) := by decide +kernel
theorem dX4_standsAt_25 : decode cX4_standsAt 25 = .ok (.if_icmp .ne 7, 3) := by decide +kernel
theorem dX4_standsAt_28 : decode cX4_standsAt 28 = .ok (.iconst 1, 1) := by decide +kernel
theorem dX4_standsAt_29 : decode cX4_standsAt 29 = .ok (.goto 4, 3) := by decide +kernel
theorem dX4_standsAt_32 : decode cX4_standsAt 32 = .ok (.iconst 0, 1) := by decide +kernel
theorem dX4_standsAt_33 : decode cX4_standsAt 33 = .ok (.ireturn, 1) := by decide +kernel
theorem dX5_init_0 : decode cX5_init 0 = .ok (.aload_n 0, 1) := by decide +kernel
theorem dX5_init_1 : decode cX5_init 1 = .ok (.invokespecial 1, 3) := by decide +kernel
theorem dX5_init_4 : decode cX5_init 4 = .ok (.aload_n 0, 1) := by decide +kernel
theorem dX5_init_5 : decode cX5_init 5 = .ok (.new 7, 3) := by decide +kernel
theorem dX5_init_8 : decode cX5_init 8 = .ok (.dup, 1) := by decide +kernel
theorem dX5_init_9 : decode cX5_init 9 = .ok (.invokespecial 9, 3) := by decide +kernel
theorem dX5_init_12 : decode cX5_init 12 = .ok (.putfield 10, 3) := by decide +kernel
theorem dX5_init_15 : decode cX5_init 15 = .ok (.aload_n 0, 1) := by decide +kernel
theorem dX5_init_16 : decode cX5_init 16 = .ok (.new 16, 3) := by decide +kernel
theorem dX5_init_19 : decode cX5_init 19 = .ok (.dup, 1) := by decide +kernel
theorem dX5_init_20 : decode cX5_init 20 = .ok (.invokespecial 18, 3) := by decide +kernel
theorem dX5_init_23 : decode cX5_init 23 = .ok (.putfield 19, 3) := by decide +kernel
theorem dX5_init_26 : decode cX5_init 26 = .ok (.aload_n 0, 1) := by decide +kernel
theorem dX5_init_27 : decode cX5_init 27 = .ok (.new 23, 3) := by decide +kernel
theorem dX5_init_30 : decode cX5_init 30 = .ok (.dup, 1) := by decide +kernel
theorem dX5_init_31 : decode cX5_init 31 = .ok (.invokespecial 25, 3) := by decide +kernel
theorem dX5_init_34 : decode cX5_init 34 = .ok (.putfield 26, 3) := by decide +kernel
theorem dX5_init_37 : decode cX5_init 37 = .ok (.aload_n 0, 1) := by decide +kernel
theorem dX5_init_38 : decode cX5_init 38 = .ok (.new 30, 3) := by decide +kernel
theorem dX5_init_41 : decode cX5_init 41 = .ok (.dup, 1) := by decide +kernel
theorem dX5_init_42 : decode cX5_init 42 = .ok (.invokespecial 32, 3) := by decide +kernel
theorem dX5_init_45 : decode cX5_init 45 = .ok (.putfield 33, 3) := by decide +kernel
theorem dX5_init_48 : decode cX5_init 48 = .ok (.aload_n 0, 1) := by decide +kernel
theorem dX5_init_49 : decode cX5_init 49 = .ok (.new 7, 3) := by decide +kernel
theorem dX5_init_52 : decode cX5_init 52 = .ok (.dup, 1) := by decide +kernel
theorem dX5_init_53 : decode cX5_init 53 = .ok (.invokespecial 9, 3) := by decide +kernel
theorem dX5_init_56 : decode cX5_init 56 = .ok (.putfield 37, 3) := by decide +kernel
theorem dX5_init_59 : decode cX5_init 59 = .ok (.aload_n 0, 1) := by decide +kernel
theorem dX5_init_60 : decode cX5_init 60 = .ok (.new 7, 3) := by decide +kernel
theorem dX5_init_63 : decode cX5_init 63 = .ok (.dup, 1) := by decide +kernel
theorem dX5_init_64 : decode cX5_init 64 = .ok (.invokespecial 9, 3) := by decide +kernel
theorem dX5_init_67 : decode cX5_init 67 = .ok (.putfield 40, 3) := by decide +kernel
theorem dX5_init_70 : decode cX5_init 70 = .ok (.aload_n 0, 1) := by decide +kernel
theorem dX5_init_71 : decode cX5_init 71 = .ok (.getfield 19, 3) := by decide +kernel
theorem dX5_init_74 : decode cX5_init 74 = .ok (.aload_n 0, 1) := by decide +kernel
theorem dX5_init_75 : decode cX5_init 75 = .ok (.getfield 10, 3) := by decide +kernel
theorem dX5_init_78 : decode cX5_init 78 = .ok (.invokevirtual 43, 3) := by decide +kernel
theorem dX5_init_81 : decode cX5_init 81 = .ok (.return_, 1) := by decide +kernel
theorem dX5_setCylinders_0 : decode cX5_setCylinders 0 = .ok (.iload_n 1, 1) := by decide +kernel
theorem dX5_setCylinders_1 : decode cX5_setCylinders 1 = .ok (.iconst 1, 1) := by decide +kernel
theorem dX5_setCylinders_2 : decode cX5_setCylinders 2 = .ok (.if_icmp .lt 9, 3) := by decide +kernel
theorem dX5_setCylinders_5 : decode cX5_setCylinders 5 = .ok (.iload_n 1, 1) := by decide +kernel
theorem dX5_setCylinders_6 : decode cX5_setCylinders 6 = .ok (.bipush 8, 2) := by decide +kernel
theorem dX5_setCylinders_8 : decode cX5_setCylinders 8 = .ok (.if_icmp .le 6, 3) := by decide +kernel
theorem dX5_setCylinders_11 : decode cX5_setCylinders 11 = .ok (.ldc 47, 2) := by decide +kernel
theorem dX5_setCylinders_13 : decode cX5_setCylinders 13 = .ok (.ireturn, 1) := by decide +kernel
theorem dX5_setCylinders_14 : decode cX5_setCylinders 14 = .ok (.aload_n 0, 1) := by decide +kernel
theorem dX5_setCylinders_15 : decode cX5_setCylinders 15 = .ok (.getfield 10, 3) := by decide +kernel
theorem dX5_setCylinders_18 : decode cX5_setCylinders 18 = .ok (.getfield 48, 3) := by decide +kernel
theorem dX5_setCylinders_21 : decode cX5_setCylinders 21 = .ok (.istore_n 2, 1) := by decide +kernel
theorem dX5_setCylinders_22 : decode cX5_setCylinders 22 = .ok (.aload_n 0, 1) := by decide +kernel
theorem dX5_setCylinders_23 : decode cX5_setCylinders 23 = .ok (.getfield 10, 3) := by decide +kernel
theorem dX5_setCylinders_26 : decode cX5_setCylinders 26 = .ok (.iload_n 1, 1) := by decide +kernel
theorem dX5_setCylinders_27 : decode cX5_setCylinders 27 = .ok (.invokevirtual 52, 3) := by decide +kernel
theorem dX5_setCylinders_30 : decode cX5_setCylinders 30 = .ok (.aload_n 0, 1) := by decide +kernel
theorem dX5_setCylinders_31 : decode cX5_setCylinders 31 = .ok (.invokevirtual 56, 3) := by decide +kernel
theorem dX5_setCylinders_34 : decode cX5_setCylinders 34 = .ok (.iload_n 2, 1) := by decide +kernel
theorem dX5_setCylinders_35 : decode cX5_setCylinders 35 = .ok (.ireturn, 1) := by decide +kernel
theorem dX5_setStrokes_0 : decode cX5_setStrokes 0 = .ok (.iload_n 1, 1) := by decide +kernel
theorem dX5_setStrokes_1 : decode cX5_setStrokes 1 = .ok (.iconst 2, 1) := by decide +kernel
theorem dX5_setStrokes_2 : decode cX5_setStrokes 2 = .ok (.if_icmp .eq 11, 3) := by decide +kernel
theorem dX5_setStrokes_5 : decode cX5_setStrokes 5 = .ok (.iload_n 1, 1) := by decide +kernel
theorem dX5_setStrokes_6 : decode cX5_setStrokes 6 = .ok (.iconst 4, 1) := by decide +kernel
theorem dX5_setStrokes_7 : decode cX5_setStrokes 7 = .ok (.if_icmp .eq 6, 3) := by decide +kernel
theorem dX5_setStrokes_10 : decode cX5_setStrokes 10 = .ok (.ldc 47, 2) := by decide +kernel
theorem dX5_setStrokes_12 : decode cX5_setStrokes 12 = .ok (.ireturn, 1) := by decide +kernel
theorem dX5_setStrokes_13 : decode cX5_setStrokes 13 = .ok (.aload_n 0, 1) := by decide +kernel
theorem dX5_setStrokes_14 : decode cX5_setStrokes 14 = .ok (.getfield 10, 3) := by decide +kernel
theorem dX5_setStrokes_17 : decode cX5_setStrokes 17 = .ok (.getfield 59, 3) := by decide +kernel
theorem dX5_setStrokes_20 : decode cX5_setStrokes 20 = .ok (.istore_n 2, 1) := by decide +kernel
theorem dX5_setStrokes_21 : decode cX5_setStrokes 21 = .ok (.aload_n 0, 1) := by decide +kernel
theorem dX5_setStrokes_22 : decode cX5_setStrokes 22 = .ok (.getfield 10, 3) := by decide +kernel
theorem dX5_setStrokes_25 : decode cX5_setStrokes 25 = .ok (.iload_n 1, 1) := by decide +kernel
theorem dX5_setStrokes_26 : decode cX5_setStrokes 26 = .ok (.putfield 59, 3) := by decide +kernel
theorem dX5_setStrokes_29 : decode cX5_setStrokes 29 = .ok (.aload_n 0, 1) := by decide +kernel
theorem dX5_setStrokes_30 : decode cX5_setStrokes 30 = .ok (.invokevirtual 56, 3) := by decide +kernel
theorem dX5_setStrokes_33 : decode cX5_setStrokes 33 = .ok (.iload_n 2, 1) := by decide +kernel
theorem dX5_setStrokes_34 : decode cX5_setStrokes 34 = .ok (.ireturn, 1) := by decide +kernel
theorem dX5_setThrow_0 : decode cX5_setThrow 0 = .ok (.aload_n 0, 1) := by decide +kernel
theorem dX5_setThrow_1 : decode cX5_setThrow 1 = .ok (.iload_n 1, 1) := by decide +kernel
theorem dX5_setThrow_2 : decode cX5_setThrow 2 = .ok (.invokevirtual 62, 3) := by decide +kernel
theorem dX5_setThrow_5 : decode cX5_setThrow 5 = .ok (.ifCond .eq 6, 3) := by decide +kernel
theorem dX5_setThrow_8 : decode cX5_setThrow 8 = .ok (.ldc 66, 2) := by decide +kernel
theorem dX5_setThrow_10 : decode cX5_setThrow 10 = .ok (.ireturn, 1) := by decide +kernel
theorem dX5_setThrow_11 : decode cX5_setThrow 11 = .ok (.iload_n 2, 1) := by decide +kernel
theorem dX5_setThrow_12 : decode cX5_setThrow 12 = .ok (.invokestatic 67, 3) := by decide +kernel
theorem dX5_setThrow_15 : decode cX5_setThrow 15 = .ok (.ifCond .eq 6, 3) := by decide +kernel
theorem dX5_setThrow_18 : decode cX5_setThrow 18 = .ok (.ldc 47, 2) := by decide +kernel
theorem dX5_setThrow_20 : decode cX5_setThrow 20 = .ok (.ireturn, 1) := by decide +kernel
theorem dX5_setThrow_21 : decode cX5_setThrow 21 = .ok (.aload_n 0, 1) := by decide +kernel
theorem dX5_setThrow_22 : decode cX5_setThrow 22 = .ok (.getfield 10, 3) := by decide +kernel
theorem dX5_setThrow_25 : decode cX5_setThrow 25 = .ok (.getfield 70, 3) := by decide +kernel
theorem dX5_setThrow_28 : decode cX5_setThrow 28 = .ok (.iload_n 1, 1) := by decide +kernel
theorem dX5_setThrow_29 : decode cX5_setThrow 29 = .ok (.iaload, 1) := by decide +kernel
theorem dX5_setThrow_30 : decode cX5_setThrow 30 = .ok (.istore_n 3, 1) := by decide +kernel
theorem dX5_setThrow_31 : decode cX5_setThrow 31 = .ok (.aload_n 0, 1) := by decide +kernel
theorem dX5_setThrow_32 : decode cX5_setThrow 32 = .ok (.getfield 10, 3) := by decide +kernel
theorem dX5_setThrow_35 : decode cX5_setThrow 35 = .ok (.getfield 70, 3) := by decide +kernel
theorem dX5_setThrow_38 : decode cX5_setThrow 38 = .ok (.iload_n 1, 1) := by decide +kernel
theorem dX5_setThrow_39 : decode cX5_setThrow 39 = .ok (.iload_n 2, 1) := by decide +kernel
theorem dX5_setThrow_40 : decode cX5_setThrow 40 = .ok (.iastore, 1) := by decide +kernel
theorem dX5_setThrow_41 : decode cX5_setThrow 41 = .ok (.aload_n 0, 1) := by decide +kernel
theorem dX5_setThrow_42 : decode cX5_setThrow 42 = .ok (.invokevirtual 56, 3) := by decide +kernel
theorem dX5_setThrow_45 : decode cX5_setThrow 45 = .ok (.iload_n 3, 1) := by decide +kernel
theorem dX5_setThrow_46 : decode cX5_setThrow 46 = .ok (.ireturn, 1) := by decide +kernel
theorem dX5_setMass_0 : decode cX5_setMass 0 = .ok (.aload_n 0, 1) := by decide +kernel
theorem dX5_setMass_1 : decode cX5_setMass 1 = .ok (.iload_n 1, 1) := by decide +kernel
theorem dX5_setMass_2 : decode cX5_setMass 2 = .ok (.invokevirtual 62, 3) := by decide +kernel
theorem dX5_setMass_5 : decode cX5_setMass 5 = .ok (.ifCond .eq 6, 3) := by decide +kernel
theorem dX5_setMass_8 : decode cX5_setMass 8 = .ok (.ldc 66, 2) := by decide +kernel
theorem dX5_setMass_10 : decode cX5_setMass 10 = .ok (.ireturn, 1) := by decide +kernel
theorem dX5_setMass_11 : decode cX5_setMass 11 = .ok (.iload_n 2, 1) := by decide +kernel
theorem dX5_setMass_12 : decode cX5_setMass 12 = .ok (.ifCond .lt 9, 3) := by decide +kernel
theorem dX5_setMass_15 : decode cX5_setMass 15 = .ok (.iload_n 2, 1) := by decide +kernel
theorem dX5_setMass_16 : decode cX5_setMass 16 = .ok (.bipush 99, 2) := by decide +kernel
theorem dX5_setMass_18 : decode cX5_setMass 18 = .ok (.if_icmp .le 6, 3) := by decide +kernel
theorem dX5_setMass_21 : decode cX5_setMass 21 = .ok (.ldc 47, 2) := by decide +kernel
theorem dX5_setMass_23 : decode cX5_setMass 23 = .ok (.ireturn, 1) := by decide +kernel
theorem dX5_setMass_24 : decode cX5_setMass 24 = .ok (.aload_n 0, 1) := by decide +kernel
theorem dX5_setMass_25 : decode cX5_setMass 25 = .ok (.getfield 10, 3) := by decide +kernel
theorem dX5_setMass_28 : decode cX5_setMass 28 = .ok (.getfield 74, 3) := by decide +kernel
theorem dX5_setMass_31 : decode cX5_setMass 31 = .ok (.iload_n 1, 1) := by decide +kernel
theorem dX5_setMass_32 : decode cX5_setMass 32 = .ok (.iaload, 1) := by decide +kernel
theorem dX5_setMass_33 : decode cX5_setMass 33 = .ok (.istore_n 3, 1) := by decide +kernel
theorem dX5_setMass_34 : decode cX5_setMass 34 = .ok (.aload_n 0, 1) := by decide +kernel
theorem dX5_setMass_35 : decode cX5_setMass 35 = .ok (.getfield 10, 3) := by decide +kernel
theorem dX5_setMass_38 : decode cX5_setMass 38 = .ok (.getfield 74, 3) := by decide +kernel
theorem dX5_setMass_41 : decode cX5_setMass 41 = .ok (.iload_n 1, 1) := by decide +kernel
theorem dX5_setMass_42 : decode cX5_setMass 42 = .ok (.iload_n 2, 1) := by decide +kernel
theorem dX5_setMass_43 : decode cX5_setMass 43 = .ok (.iastore, 1) := by decide +kernel
theorem dX5_setMass_44 : decode cX5_setMass 44 = .ok (.iload_n 3, 1) := by decide +kernel
theorem dX5_setMass_45 : decode cX5_setMass 45 = .ok (.ireturn, 1) := by decide +kernel
theorem dX5_setPlace_0 : decode cX5_setPlace 0 = .ok (.aload_n 0, 1) := by decide +kernel
theorem dX5_setPlace_1 : decode cX5_setPlace 1 = .ok (.iload_n 1, 1) := by decide +kernel
theorem dX5_setPlace_2 : decode cX5_setPlace 2 = .ok (.invokevirtual 62, 3) := by decide +kernel
theorem dX5_setPlace_5 : decode cX5_setPlace 5 = .ok (.ifCond .eq 6, 3) := by decide +kernel
theorem dX5_setPlace_8 : decode cX5_setPlace 8 = .ok (.ldc 66, 2) := by decide +kernel
theorem dX5_setPlace_10 : decode cX5_setPlace 10 = .ok (.ireturn, 1) := by decide +kernel
theorem dX5_setPlace_11 : decode cX5_setPlace 11 = .ok (.iload_n 2, 1) := by decide +kernel
theorem dX5_setPlace_12 : decode cX5_setPlace 12 = .ok (.invokestatic 77, 3) := by decide +kernel
theorem dX5_setPlace_15 : decode cX5_setPlace 15 = .ok (.ifCond .eq 6, 3) := by decide +kernel
theorem dX5_setPlace_18 : decode cX5_setPlace 18 = .ok (.ldc 47, 2) := by decide +kernel
theorem dX5_setPlace_20 : decode cX5_setPlace 20 = .ok (.ireturn, 1) := by decide +kernel
theorem dX5_setPlace_21 : decode cX5_setPlace 21 = .ok (.aload_n 0, 1) := by decide +kernel
theorem dX5_setPlace_22 : decode cX5_setPlace 22 = .ok (.getfield 10, 3) := by decide +kernel
theorem dX5_setPlace_25 : decode cX5_setPlace 25 = .ok (.getfield 80, 3) := by decide +kernel
theorem dX5_setPlace_28 : decode cX5_setPlace 28 = .ok (.iload_n 1, 1) := by decide +kernel
theorem dX5_setPlace_29 : decode cX5_setPlace 29 = .ok (.iaload, 1) := by decide +kernel
theorem dX5_setPlace_30 : decode cX5_setPlace 30 = .ok (.istore_n 3, 1) := by decide +kernel
theorem dX5_setPlace_31 : decode cX5_setPlace 31 = .ok (.aload_n 0, 1) := by decide +kernel
theorem dX5_setPlace_32 : decode cX5_setPlace 32 = .ok (.getfield 10, 3) := by decide +kernel
theorem dX5_setPlace_35 : decode cX5_setPlace 35 = .ok (.getfield 80, 3) := by decide +kernel
theorem dX5_setPlace_38 : decode cX5_setPlace 38 = .ok (.iload_n 1, 1) := by decide +kernel
theorem dX5_setPlace_39 : decode cX5_setPlace 39 = .ok (.iload_n 2, 1) := by decide +kernel
theorem dX5_setPlace_40 : decode cX5_setPlace 40 = .ok (.iastore, 1) := by decide +kernel
theorem dX5_setPlace_41 : decode cX5_setPlace 41 = .ok (.iload_n 3, 1) := by decide +kernel
theorem dX5_setPlace_42 : decode cX5_setPlace 42 = .ok (.ireturn, 1) := by decide +kernel
theorem dX5_setWeight_0 : decode cX5_setWeight 0 = .ok (.iload_n 1, 1) := by decide +kernel
theorem dX5_setWeight_1 : decode cX5_setWeight 1 = .ok (.invokestatic 77, 3) := by decide +kernel
theorem dX5_setWeight_4 : decode cX5_setWeight 4 = .ok (.ifCond .ne 21, 3) := by decide +kernel
theorem dX5_setWeight_7 : decode cX5_setWeight 7 = .ok (.iload_n 2, 1) := by decide +kernel
theorem dX5_setWeight_8 : decode cX5_setWeight 8 = .ok (.invokestatic 67, 3) := by decide +kernel
theorem dX5_setWeight_11 : decode cX5_setWeight 11 = .ok (.ifCond .ne 14, 3) := by decide +kernel
theorem dX5_setWeight_14 : decode cX5_setWeight 14 = .ok (.iload_n 3, 1) := by decide +kernel
theorem dX5_setWeight_15 : decode cX5_setWeight 15 = .ok (.ifCond .lt 10, 3) := by decide +kernel
theorem dX5_setWeight_18 : decode cX5_setWeight 18 = .ok (.iload_n 3, 1) := by decide +kernel
theorem dX5_setWeight_19 : decode cX5_setWeight 19 = .ok (.sipush 999, 3) := by decide +kernel
theorem dX5_setWeight_22 : decode cX5_setWeight 22 = .ok (.if_icmp .le 6, 3) := by decide +kernel
theorem dX5_setWeight_25 : decode cX5_setWeight 25 = .ok (.ldc 47, 2) := by decide +kernel
theorem dX5_setWeight_27 : decode cX5_setWeight 27 = .ok (.ireturn, 1) := by decide +kernel
theorem dX5_setWeight_28 : decode cX5_setWeight 28 = .ok (.aload_n 0, 1) := by decide +kernel
theorem dX5_setWeight_29 : decode cX5_setWeight 29 = .ok (.getfield 10, 3) := by decide +kernel
theorem dX5_setWeight_32 : decode cX5_setWeight 32 = .ok (.getfield 83, 3) := by decide +kernel
theorem dX5_setWeight_35 : decode cX5_setWeight 35 = .ok (.astore 4, 2) := by decide +kernel
theorem dX5_setWeight_37 : decode cX5_setWeight 37 = .ok (.iload_n 3, 1) := by decide +kernel
theorem dX5_setWeight_38 : decode cX5_setWeight 38 = .ok (.ifCond .ne 16, 3) := by decide +kernel
theorem dX5_setWeight_41 : decode cX5_setWeight 41 = .ok (.aload 4, 2) := by decide +kernel
theorem dX5_setWeight_43 : decode cX5_setWeight 43 = .ok (.iload_n 1, 1) := by decide +kernel
theorem dX5_setWeight_44 : decode cX5_setWeight 44 = .ok (.iload_n 2, 1) := by decide +kernel
theorem dX5_setWeight_45 : decode cX5_setWeight 45 = .ok (.invokevirtual 87, 3) := by decide +kernel
theorem dX5_setWeight_48 : decode cX5_setWeight 48 = .ok (.aload 4, 2) := by decide +kernel
theorem dX5_setWeight_50 : decode cX5_setWeight 50 = .ok (.getfield 93, 3) := by decide +kernel
theorem dX5_setWeight_53 : decode cX5_setWeight 53 = .ok (.ireturn, 1) := by decide +kernel
theorem dX5_setWeight_54 : decode cX5_setWeight 54 = .ok (.aload 4, 2) := by decide +kernel
theorem dX5_setWeight_56 : decode cX5_setWeight 56 = .ok (.iload_n 1, 1) := by decide +kernel
theorem dX5_setWeight_57 : decode cX5_setWeight 57 = .ok (.iload_n 2, 1) := by decide +kernel
theorem dX5_setWeight_58 : decode cX5_setWeight 58 = .ok (.iload_n 3, 1) := by decide +kernel
theorem dX5_setWeight_59 : decode cX5_setWeight 59 = .ok (.invokevirtual 96, 3) := by decide +kernel
theorem dX5_setWeight_62 : decode cX5_setWeight 62 = .ok (.ifCond .eq 11, 3) := by decide +kernel
theorem dX5_setWeight_65 : decode cX5_setWeight 65 = .ok (.aload 4, 2) := by decide +kernel
theorem dX5_setWeight_67 : decode cX5_setWeight 67 = .ok (.getfield 93, 3) := by decide +kernel
theorem dX5_setWeight_70 : decode cX5_setWeight 70 = .ok (.goto 5, 3) := by decide +kernel
theorem dX5_setWeight_73 : decode cX5_setWeight 73 = .ok (.ldc 100, 2) := by decide +kernel
theorem dX5_setWeight_75 : decode cX5_setWeight 75 = .ok (.ireturn, 1) := by decide +kernel
theorem dX5_weight_0 : decode cX5_weight 0 = .ok (.aload_n 0, 1) := by decide +kernel
theorem dX5_weight_1 : decode cX5_weight 1 = .ok (.getfield 10, 3) := by decide +kernel
theorem dX5_weight_4 : decode cX5_weight 4 = .ok (.getfield 83, 3) := by decide +kernel
theorem dX5_weight_7 : decode cX5_weight 7 = .ok (.astore_n 3, 1) := by decide +kernel
theorem dX5_weight_8 : decode cX5_weight 8 = .ok (.iload_n 1, 1) := by decide +kernel
theorem dX5_weight_9 : decode cX5_weight 9 = .ok (.ifCond .lt 11, 3) := by decide +kernel
theorem dX5_weight_12 : decode cX5_weight 12 = .ok (.iload_n 1, 1) := by decide +kernel
theorem dX5_weight_13 : decode cX5_weight 13 = .ok (.aload_n 3, 1) := by decide +kernel
theorem dX5_weight_14 : decode cX5_weight 14 = .ok (.getfield 93, 3) := by decide +kernel
theorem dX5_weight_17 : decode cX5_weight 17 = .ok (.if_icmp .lt 6, 3) := by decide +kernel
theorem dX5_weight_20 : decode cX5_weight 20 = .ok (.ldc 66, 2) := by decide +kernel
theorem dX5_weight_22 : decode cX5_weight 22 = .ok (.ireturn, 1) := by decide +kernel
theorem dX5_weight_23 : decode cX5_weight 23 = .ok (.iload_n 2, 1) := by decide +kernel
theorem dX5_weight_24 : decode cX5_weight 24 = .ok (.tableswitch 49 0 2 #[28, 35, 42], 28) := by decide +kernel
theorem dX5_weight_52 : decode cX5_weight 52 = .ok (.aload_n 3, 1) := by decide +kernel
theorem dX5_weight_53 : decode cX5_weight 53 = .ok (.getfield 101, 3) := by decide +kernel
theorem dX5_weight_56 : decode cX5_weight 56 = .ok (.iload_n 1, 1) := by decide +kernel
theorem dX5_weight_57 : decode cX5_weight 57 = .ok (.iaload, 1) := by decide +kernel
theorem dX5_weight_58 : decode cX5_weight 58 = .ok (.ireturn, 1) := by decide +kernel
theorem dX5_weight_59 : decode cX5_weight 59 = .ok (.aload_n 3, 1) := by decide +kernel
theorem dX5_weight_60 : decode cX5_weight 60 = .ok (.getfield 102, 3) := by decide +kernel
theorem dX5_weight_63 : decode cX5_weight 63 = .ok (.iload_n 1, 1) := by decide +kernel
theorem dX5_weight_64 : decode cX5_weight 64 = .ok (.iaload, 1) := by decide +kernel
theorem dX5_weight_65 : decode cX5_weight 65 = .ok (.ireturn, 1) := by decide +kernel
theorem dX5_weight_66 : decode cX5_weight 66 = .ok (.aload_n 3, 1) := by decide +kernel
theorem dX5_weight_67 : decode cX5_weight 67 = .ok (.getfield 103, 3) := by decide +kernel
theorem dX5_weight_70 : decode cX5_weight 70 = .ok (.iload_n 1, 1) := by decide +kernel
theorem dX5_weight_71 : decode cX5_weight 71 = .ok (.iaload, 1) := by decide +kernel
theorem dX5_weight_72 : decode cX5_weight 72 = .ok (.ireturn, 1) := by decide +kernel
theorem dX5_weight_73 : decode cX5_weight 73 = .ok (.ldc 47, 2) := by decide +kernel
theorem dX5_weight_75 : decode cX5_weight 75 = .ok (.ireturn, 1) := by decide +kernel
theorem dX5_cylinder_0 : decode cX5_cylinder 0 = .ok (.aload_n 0, 1) := by decide +kernel
theorem dX5_cylinder_1 : decode cX5_cylinder 1 = .ok (.iload_n 1, 1) := by decide +kernel
theorem dX5_cylinder_2 : decode cX5_cylinder 2 = .ok (.invokevirtual 62, 3) := by decide +kernel
theorem dX5_cylinder_5 : decode cX5_cylinder 5 = .ok (.ifCond .eq 6, 3) := by decide +kernel
theorem dX5_cylinder_8 : decode cX5_cylinder 8 = .ok (.ldc 66, 2) := by decide +kernel
theorem dX5_cylinder_10 : decode cX5_cylinder 10 = .ok (.ireturn, 1) := by decide +kernel
theorem dX5_cylinder_11 : decode cX5_cylinder 11 = .ok (.iload_n 2, 1) := by decide +kernel
theorem dX5_cylinder_12 : decode cX5_cylinder 12 = .ok (.tableswitch 106 0 4 #[36, 46, 56, 66, 78], 36) := by decide +kernel
theorem dX5_cylinder_48 : decode cX5_cylinder 48 = .ok (.aload_n 0, 1) := by decide +kernel
theorem dX5_cylinder_49 : decode cX5_cylinder 49 = .ok (.getfield 10, 3) := by decide +kernel
theorem dX5_cylinder_52 : decode cX5_cylinder 52 = .ok (.getfield 70, 3) := by decide +kernel
theorem dX5_cylinder_55 : decode cX5_cylinder 55 = .ok (.iload_n 1, 1) := by decide +kernel
theorem dX5_cylinder_56 : decode cX5_cylinder 56 = .ok (.iaload, 1) := by decide +kernel
theorem dX5_cylinder_57 : decode cX5_cylinder 57 = .ok (.ireturn, 1) := by decide +kernel
theorem dX5_cylinder_58 : decode cX5_cylinder 58 = .ok (.aload_n 0, 1) := by decide +kernel
theorem dX5_cylinder_59 : decode cX5_cylinder 59 = .ok (.getfield 10, 3) := by decide +kernel
theorem dX5_cylinder_62 : decode cX5_cylinder 62 = .ok (.getfield 74, 3) := by decide +kernel
theorem dX5_cylinder_65 : decode cX5_cylinder 65 = .ok (.iload_n 1, 1) := by decide +kernel
theorem dX5_cylinder_66 : decode cX5_cylinder 66 = .ok (.iaload, 1) := by decide +kernel
theorem dX5_cylinder_67 : decode cX5_cylinder 67 = .ok (.ireturn, 1) := by decide +kernel
theorem dX5_cylinder_68 : decode cX5_cylinder 68 = .ok (.aload_n 0, 1) := by decide +kernel
theorem dX5_cylinder_69 : decode cX5_cylinder 69 = .ok (.getfield 10, 3) := by decide +kernel
theorem dX5_cylinder_72 : decode cX5_cylinder 72 = .ok (.getfield 80, 3) := by decide +kernel
theorem dX5_cylinder_75 : decode cX5_cylinder 75 = .ok (.iload_n 1, 1) := by decide +kernel
theorem dX5_cylinder_76 : decode cX5_cylinder 76 = .ok (.iaload, 1) := by decide +kernel
theorem dX5_cylinder_77 : decode cX5_cylinder 77 = .ok (.ireturn, 1) := by decide +kernel
theorem dX5_cylinder_78 : decode cX5_cylinder 78 = .ok (.aload_n 0, 1) := by decide +kernel
theorem dX5_cylinder_79 : decode cX5_cylinder 79 = .ok (.getfield 10, 3) := by decide +kernel
theorem dX5_cylinder_82 : decode cX5_cylinder 82 = .ok (.getfield 104, 3) := by decide +kernel
theorem dX5_cylinder_85 : decode cX5_cylinder 85 = .ok (.iload_n 1, 1) := by decide +kernel
theorem dX5_cylinder_86 : decode cX5_cylinder 86 = .ok (.ishr, 1) := by decide +kernel
theorem dX5_cylinder_87 : decode cX5_cylinder 87 = .ok (.iconst 1, 1) := by decide +kernel
theorem dX5_cylinder_88 : decode cX5_cylinder 88 = .ok (.iand, 1) := by decide +kernel
theorem dX5_cylinder_89 : decode cX5_cylinder 89 = .ok (.ireturn, 1) := by decide +kernel
theorem dX5_cylinder_90 : decode cX5_cylinder 90 = .ok (.aload_n 0, 1) := by decide +kernel
theorem dX5_cylinder_91 : decode cX5_cylinder 91 = .ok (.invokevirtual 107, 3) := by decide +kernel
theorem dX5_cylinder_94 : decode cX5_cylinder 94 = .ok (.ifCond .eq 21, 3) := by decide +kernel
theorem dX5_cylinder_97 : decode cX5_cylinder 97 = .ok (.aload_n 0, 1) := by decide +kernel
theorem dX5_cylinder_98 : decode cX5_cylinder 98 = .ok (.getfield 19, 3) := by decide +kernel
theorem dX5_cylinder_101 : decode cX5_cylinder 101 = .ok (.aload_n 0, 1) := by decide +kernel
theorem dX5_cylinder_102 : decode cX5_cylinder 102 = .ok (.getfield 10, 3) := by decide +kernel
theorem dX5_cylinder_105 : decode cX5_cylinder 105 = .ok (.getfield 111, 3) := by decide +kernel
theorem dX5_cylinder_108 : decode cX5_cylinder 108 = .ok (.iload_n 1, 1) := by decide +kernel
theorem dX5_cylinder_109 : decode cX5_cylinder 109 = .ok (.invokevirtual 114, 3) := by decide +kernel
theorem dX5_cylinder_112 : decode cX5_cylinder 112 = .ok (.goto 5, 3) := by decide +kernel
theorem dX5_cylinder_115 : decode cX5_cylinder 115 = .ok (.ldc 118, 2) := by decide +kernel
theorem dX5_cylinder_117 : decode cX5_cylinder 117 = .ok (.ireturn, 1) := by decide +kernel
theorem dX5_cylinder_118 : decode cX5_cylinder 118 = .ok (.ldc 47, 2) := by decide +kernel
theorem dX5_cylinder_120 : decode cX5_cylinder 120 = .ok (.ireturn, 1) := by decide +kernel
theorem dX5_vector_0 : decode cX5_vector 0 = .ok (.iload_n 1, 1) := by decide +kernel
theorem dX5_vector_1 : decode cX5_vector 1 = .ok (.ifCond .lt 8, 3) := by decide +kernel
theorem dX5_vector_4 : decode cX5_vector 4 = .ok (.iload_n 1, 1) := by decide +kernel
theorem dX5_vector_5 : decode cX5_vector 5 = .ok (.iconst 4, 1) := by decide +kernel
theorem dX5_vector_6 : decode cX5_vector 6 = .ok (.if_icmp .lt 6, 3) := by decide +kernel
theorem dX5_vector_9 : decode cX5_vector 9 = .ok (.ldc 66, 2) := by decide +kernel
theorem dX5_vector_11 : decode cX5_vector 11 = .ok (.ireturn, 1) := by decide +kernel
theorem dX5_vector_12 : decode cX5_vector 12 = .ok (.aload_n 0, 1) := by decide +kernel
theorem dX5_vector_13 : decode cX5_vector 13 = .ok (.iload_n 1, 1) := by decide +kernel
theorem dX5_vector_14 : decode cX5_vector 14 = .ok (.invokevirtual 119, 3) := by decide +kernel
theorem dX5_vector_17 : decode cX5_vector 17 = .ok (.aload_n 0, 1) := by decide +kernel
theorem dX5_vector_18 : decode cX5_vector 18 = .ok (.getfield 26, 3) := by decide +kernel
theorem dX5_vector_21 : decode cX5_vector 21 = .ok (.iload_n 2, 1) := by decide +kernel
theorem dX5_vector_22 : decode cX5_vector 22 = .ok (.iload_n 3, 1) := by decide +kernel
theorem dX5_vector_23 : decode cX5_vector 23 = .ok (.invokevirtual 122, 3) := by decide +kernel
theorem dX5_vector_26 : decode cX5_vector 26 = .ok (.ireturn, 1) := by decide +kernel
theorem dX5_balanced_0 : decode cX5_balanced 0 = .ok (.iconst 0, 1) := by decide +kernel
theorem dX5_balanced_1 : decode cX5_balanced 1 = .ok (.istore_n 1, 1) := by decide +kernel
theorem dX5_balanced_2 : decode cX5_balanced 2 = .ok (.iconst 0, 1) := by decide +kernel
theorem dX5_balanced_3 : decode cX5_balanced 3 = .ok (.istore_n 2, 1) := by decide +kernel
theorem dX5_balanced_4 : decode cX5_balanced 4 = .ok (.iload_n 2, 1) := by decide +kernel
theorem dX5_balanced_5 : decode cX5_balanced 5 = .ok (.iconst 4, 1) := by decide +kernel
theorem dX5_balanced_6 : decode cX5_balanced 6 = .ok (.if_icmp .ge 30, 3) := by decide +kernel
theorem dX5_balanced_9 : decode cX5_balanced 9 = .ok (.aload_n 0, 1) := by decide +kernel
theorem dX5_balanced_10 : decode cX5_balanced 10 = .ok (.iload_n 2, 1) := by decide +kernel
theorem dX5_balanced_11 : decode cX5_balanced 11 = .ok (.invokevirtual 119, 3) := by decide +kernel
theorem dX5_balanced_14 : decode cX5_balanced 14 = .ok (.aload_n 0, 1) := by decide +kernel
theorem dX5_balanced_15 : decode cX5_balanced 15 = .ok (.getfield 26, 3) := by decide +kernel
theorem dX5_balanced_18 : decode cX5_balanced 18 = .ok (.invokevirtual 126, 3) := by decide +kernel
theorem dX5_balanced_21 : decode cX5_balanced 21 = .ok (.ifCond .eq 9, 3) := by decide +kernel
theorem dX5_balanced_24 : decode cX5_balanced 24 = .ok (.iload_n 1, 1) := by decide +kernel
theorem dX5_balanced_25 : decode cX5_balanced 25 = .ok (.iconst 1, 1) := by decide +kernel
theorem dX5_balanced_26 : decode cX5_balanced 26 = .ok (.iload_n 2, 1) := by decide +kernel
theorem dX5_balanced_27 : decode cX5_balanced 27 = .ok (.ishl, 1) := by decide +kernel
theorem dX5_balanced_28 : decode cX5_balanced 28 = .ok (.ior, 1) := by decide +kernel
theorem dX5_balanced_29 : decode cX5_balanced 29 = .ok (.istore_n 1, 1) := by decide +kernel
theorem dX5_balanced_30 : decode cX5_balanced 30 = .ok (.iinc 2 1, 3) := by decide +kernel
theorem dX5_balanced_33 : decode cX5_balanced 33 = .ok (.goto (-29), 3) := by decide +kernel
theorem dX5_balanced_36 : decode cX5_balanced 36 = .ok (.iload_n 1, 1) := by decide +kernel
theorem dX5_balanced_37 : decode cX5_balanced 37 = .ok (.ireturn, 1) := by decide +kernel
theorem dX5_isMirrored_0 : decode cX5_isMirrored 0 = .ok (.aload_n 0, 1) := by decide +kernel
theorem dX5_isMirrored_1 : decode cX5_isMirrored 1 = .ok (.getfield 10, 3) := by decide +kernel
theorem dX5_isMirrored_4 : decode cX5_isMirrored 4 = .ok (.invokevirtual 129, 3) := by decide +kernel
theorem dX5_isMirrored_7 : decode cX5_isMirrored 7 = .ok (.ifCond .eq 7, 3) := by decide +kernel
theorem dX5_isMirrored_10 : decode cX5_isMirrored 10 = .ok (.iconst 1, 1) := by decide +kernel
theorem dX5_isMirrored_11 : decode cX5_isMirrored 11 = .ok (.goto 4, 3) := by decide +kernel
theorem dX5_isMirrored_14 : decode cX5_isMirrored 14 = .ok (.iconst 0, 1) := by decide +kernel
theorem dX5_isMirrored_15 : decode cX5_isMirrored 15 = .ok (.ireturn, 1) := by decide +kernel
theorem dX5_counterWeight_0 : decode cX5_counterWeight 0 = .ok (.aload_n 0, 1) := by decide +kernel
theorem dX5_counterWeight_1 : decode cX5_counterWeight 1 = .ok (.iconst 0, 1) := by decide +kernel
