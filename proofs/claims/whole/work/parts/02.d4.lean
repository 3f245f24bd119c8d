/-! decode rows, 4 of 5 -/
theorem dX6_balancedNow_5 : decode cX6_balancedNow 5 = .ok (.iconst 4, 1) := by decide +kernel
theorem dX6_balancedNow_6 : decode cX6_balancedNow 6 = .ok (.if_icmp .ge 31, 3) := by decide +kernel
theorem dX6_balancedNow_9 : decode cX6_balancedNow 9 = .ok (.aload_n 0, 1) := by decide +kernel
theorem dX6_balancedNow_10 : decode cX6_balancedNow 10 = .ok (.iload_n 2, 1) := by decide +kernel
theorem dX6_balancedNow_11 : decode cX6_balancedNow 11 = .ok (.invokevirtual 71, 3) := by decide +kernel
theorem dX6_balancedNow_14 : decode cX6_balancedNow 14 = .ok (.iload_n 1, 1) := by decide +kernel
theorem dX6_balancedNow_15 : decode cX6_balancedNow 15 = .ok (.aload_n 0, 1) := by decide +kernel
theorem dX6_balancedNow_16 : decode cX6_balancedNow 16 = .ok (.invokevirtual 74, 3) := by decide +kernel
theorem dX6_balancedNow_19 : decode cX6_balancedNow 19 = .ok (.ifCond .eq 9, 3) := by decide +kernel
theorem dX6_balancedNow_22 : decode cX6_balancedNow 22 = .ok (.iconst 1, 1) := by decide +kernel
theorem dX6_balancedNow_23 : decode cX6_balancedNow 23 = .ok (.iload_n 2, 1) := by decide +kernel
theorem dX6_balancedNow_24 : decode cX6_balancedNow 24 = .ok (.ishl, 1) := by decide +kernel
theorem dX6_balancedNow_25 : decode cX6_balancedNow 25 = .ok (.goto 4, 3) := by decide +kernel
theorem dX6_balancedNow_28 : decode cX6_balancedNow 28 = .ok (.iconst 0, 1) := by decide +kernel
theorem dX6_balancedNow_29 : decode cX6_balancedNow 29 = .ok (.ior, 1) := by decide +kernel
theorem dX6_balancedNow_30 : decode cX6_balancedNow 30 = .ok (.istore_n 1, 1) := by decide +kernel
theorem dX6_balancedNow_31 : decode cX6_balancedNow 31 = .ok (.iinc 2 1, 3) := by decide +kernel
theorem dX6_balancedNow_34 : decode cX6_balancedNow 34 = .ok (.goto (-30), 3) := by decide +kernel
theorem dX6_balancedNow_37 : decode cX6_balancedNow 37 = .ok (.iload_n 1, 1) := by decide +kernel
theorem dX6_balancedNow_38 : decode cX6_balancedNow 38 = .ok (.ireturn, 1) := by decide +kernel
theorem dX6_balanced_0 : decode cX6_balanced 0 = .ok (.aload_n 0, 1) := by decide +kernel
theorem dX6_balanced_1 : decode cX6_balanced 1 = .ok (.invokevirtual 78, 3) := by decide +kernel
theorem dX6_balanced_4 : decode cX6_balanced 4 = .ok (.ireturn, 1) := by decide +kernel
theorem dX6_mirrored_0 : decode cX6_mirrored 0 = .ok (.iconst 1, 1) := by decide +kernel
theorem dX6_mirrored_1 : decode cX6_mirrored 1 = .ok (.istore_n 1, 1) := by decide +kernel
theorem dX6_mirrored_2 : decode cX6_mirrored 2 = .ok (.aload_n 0, 1) := by decide +kernel
theorem dX6_mirrored_3 : decode cX6_mirrored 3 = .ok (.getfield 7, 3) := by decide +kernel
theorem dX6_mirrored_6 : decode cX6_mirrored 6 = .ok (.iconst 0, 1) := by decide +kernel
theorem dX6_mirrored_7 : decode cX6_mirrored 7 = .ok (.iaload, 1) := by decide +kernel
theorem dX6_mirrored_8 : decode cX6_mirrored 8 = .ok (.iconst 1, 1) := by decide +kernel
theorem dX6_mirrored_9 : decode cX6_mirrored 9 = .ok (.isub, 1) := by decide +kernel
theorem dX6_mirrored_10 : decode cX6_mirrored 10 = .ok (.istore_n 2, 1) := by decide +kernel
theorem dX6_mirrored_11 : decode cX6_mirrored 11 = .ok (.iconst 0, 1) := by decide +kernel
theorem dX6_mirrored_12 : decode cX6_mirrored 12 = .ok (.istore_n 3, 1) := by decide +kernel
theorem dX6_mirrored_13 : decode cX6_mirrored 13 = .ok (.iload_n 3, 1) := by decide +kernel
theorem dX6_mirrored_14 : decode cX6_mirrored 14 = .ok (.iload_n 2, 1) := by decide +kernel
theorem dX6_mirrored_15 : decode cX6_mirrored 15 = .ok (.if_icmp .gt 126, 3) := by decide +kernel
theorem dX6_mirrored_18 : decode cX6_mirrored 18 = .ok (.iload_n 1, 1) := by decide +kernel
theorem dX6_mirrored_19 : decode cX6_mirrored 19 = .ok (.ifCond .eq 57, 3) := by decide +kernel
theorem dX6_mirrored_22 : decode cX6_mirrored 22 = .ok (.aload_n 0, 1) := by decide +kernel
theorem dX6_mirrored_23 : decode cX6_mirrored 23 = .ok (.getfield 7, 3) := by decide +kernel
theorem dX6_mirrored_26 : decode cX6_mirrored 26 = .ok (.iload_n 3, 1) := by decide +kernel
theorem dX6_mirrored_27 : decode cX6_mirrored 27 = .ok (.iconst 0, 1) := by decide +kernel
theorem dX6_mirrored_28 : decode cX6_mirrored 28 = .ok (.invokestatic 42, 3) := by decide +kernel
theorem dX6_mirrored_31 : decode cX6_mirrored 31 = .ok (.iaload, 1) := by decide +kernel
theorem dX6_mirrored_32 : decode cX6_mirrored 32 = .ok (.aload_n 0, 1) := by decide +kernel
theorem dX6_mirrored_33 : decode cX6_mirrored 33 = .ok (.getfield 7, 3) := by decide +kernel
theorem dX6_mirrored_36 : decode cX6_mirrored 36 = .ok (.iload_n 2, 1) := by decide +kernel
theorem dX6_mirrored_37 : decode cX6_mirrored 37 = .ok (.iload_n 3, 1) := by decide +kernel
theorem dX6_mirrored_38 : decode cX6_mirrored 38 = .ok (.isub, 1) := by decide +kernel
theorem dX6_mirrored_39 : decode cX6_mirrored 39 = .ok (.iconst 0, 1) := by decide +kernel
theorem dX6_mirrored_40 : decode cX6_mirrored 40 = .ok (.invokestatic 42, 3) := by decide +kernel
theorem dX6_mirrored_43 : decode cX6_mirrored 43 = .ok (.iaload, 1) := by decide +kernel
theorem dX6_mirrored_44 : decode cX6_mirrored 44 = .ok (.if_icmp .ne 32, 3) := by decide +kernel
theorem dX6_mirrored_47 : decode cX6_mirrored 47 = .ok (.aload_n 0, 1) := by decide +kernel
theorem dX6_mirrored_48 : decode cX6_mirrored 48 = .ok (.getfield 7, 3) := by decide +kernel
theorem dX6_mirrored_51 : decode cX6_mirrored 51 = .ok (.iload_n 3, 1) := by decide +kernel
theorem dX6_mirrored_52 : decode cX6_mirrored 52 = .ok (.iconst 1, 1) := by decide +kernel
theorem dX6_mirrored_53 : decode cX6_mirrored 53 = .ok (.invokestatic 42, 3) := by decide +kernel
theorem dX6_mirrored_56 : decode cX6_mirrored 56 = .ok (.iaload, 1) := by decide +kernel
theorem dX6_mirrored_57 : decode cX6_mirrored 57 = .ok (.aload_n 0, 1) := by decide +kernel
theorem dX6_mirrored_58 : decode cX6_mirrored 58 = .ok (.getfield 7, 3) := by decide +kernel
theorem dX6_mirrored_61 : decode cX6_mirrored 61 = .ok (.iload_n 2, 1) := by decide +kernel
theorem dX6_mirrored_62 : decode cX6_mirrored 62 = .ok (.iload_n 3, 1) := by decide +kernel
theorem dX6_mirrored_63 : decode cX6_mirrored 63 = .ok (.isub, 1) := by decide +kernel
theorem dX6_mirrored_64 : decode cX6_mirrored 64 = .ok (.iconst 1, 1) := by decide +kernel
theorem dX6_mirrored_65 : decode cX6_mirrored 65 = .ok (.invokestatic 42, 3) := by decide +kernel
theorem dX6_mirrored_68 : decode cX6_mirrored 68 = .ok (.iaload, 1) := by decide +kernel
theorem dX6_mirrored_69 : decode cX6_mirrored 69 = .ok (.if_icmp .ne 7, 3) := by decide +kernel
theorem dX6_mirrored_72 : decode cX6_mirrored 72 = .ok (.iconst 1, 1) := by decide +kernel
theorem dX6_mirrored_73 : decode cX6_mirrored 73 = .ok (.goto 4, 3) := by decide +kernel
theorem dX6_mirrored_76 : decode cX6_mirrored 76 = .ok (.iconst 0, 1) := by decide +kernel
theorem dX6_mirrored_77 : decode cX6_mirrored 77 = .ok (.istore_n 1, 1) := by decide +kernel
theorem dX6_mirrored_78 : decode cX6_mirrored 78 = .ok (.iload_n 1, 1) := by decide +kernel
theorem dX6_mirrored_79 : decode cX6_mirrored 79 = .ok (.ifCond .eq 54, 3) := by decide +kernel
theorem dX6_mirrored_82 : decode cX6_mirrored 82 = .ok (.aload_n 0, 1) := by decide +kernel
theorem dX6_mirrored_83 : decode cX6_mirrored 83 = .ok (.getfield 7, 3) := by decide +kernel
theorem dX6_mirrored_86 : decode cX6_mirrored 86 = .ok (.iload_n 3, 1) := by decide +kernel
theorem dX6_mirrored_87 : decode cX6_mirrored 87 = .ok (.iconst 2, 1) := by decide +kernel
theorem dX6_mirrored_88 : decode cX6_mirrored 88 = .ok (.invokestatic 42, 3) := by decide +kernel
theorem dX6_mirrored_91 : decode cX6_mirrored 91 = .ok (.iaload, 1) := by decide +kernel
theorem dX6_mirrored_92 : decode cX6_mirrored 92 = .ok (.aload_n 0, 1) := by decide +kernel
theorem dX6_mirrored_93 : decode cX6_mirrored 93 = .ok (.getfield 7, 3) := by decide +kernel
theorem dX6_mirrored_96 : decode cX6_mirrored 96 = .ok (.iload_n 2, 1) := by decide +kernel
theorem dX6_mirrored_97 : decode cX6_mirrored 97 = .ok (.iload_n 3, 1) := by decide +kernel
theorem dX6_mirrored_98 : decode cX6_mirrored 98 = .ok (.isub, 1) := by decide +kernel
theorem dX6_mirrored_99 : decode cX6_mirrored 99 = .ok (.iconst 2, 1) := by decide +kernel
theorem dX6_mirrored_100 : decode cX6_mirrored 100 = .ok (.invokestatic 42, 3) := by decide +kernel
theorem dX6_mirrored_103 : decode cX6_mirrored 103 = .ok (.iaload, 1) := by decide +kernel
theorem dX6_mirrored_104 : decode cX6_mirrored 104 = .ok (.iadd, 1) := by decide +kernel
theorem dX6_mirrored_105 : decode cX6_mirrored 105 = .ok (.aload_n 0, 1) := by decide +kernel
theorem dX6_mirrored_106 : decode cX6_mirrored 106 = .ok (.getfield 7, 3) := by decide +kernel
theorem dX6_mirrored_109 : decode cX6_mirrored 109 = .ok (.iconst 0, 1) := by decide +kernel
theorem dX6_mirrored_110 : decode cX6_mirrored 110 = .ok (.iconst 2, 1) := by decide +kernel
theorem dX6_mirrored_111 : decode cX6_mirrored 111 = .ok (.invokestatic 42, 3) := by decide +kernel
theorem dX6_mirrored_114 : decode cX6_mirrored 114 = .ok (.iaload, 1) := by decide +kernel
theorem dX6_mirrored_115 : decode cX6_mirrored 115 = .ok (.aload_n 0, 1) := by decide +kernel
theorem dX6_mirrored_116 : decode cX6_mirrored 116 = .ok (.getfield 7, 3) := by decide +kernel
theorem dX6_mirrored_119 : decode cX6_mirrored 119 = .ok (.iload_n 2, 1) := by decide +kernel
theorem dX6_mirrored_120 : decode cX6_mirrored 120 = .ok (.iconst 2, 1) := by decide +kernel
theorem dX6_mirrored_121 : decode cX6_mirrored 121 = .ok (.invokestatic 42, 3) := by decide +kernel
theorem dX6_mirrored_124 : decode cX6_mirrored 124 = .ok (.iaload, 1) := by decide +kernel
theorem dX6_mirrored_125 : decode cX6_mirrored 125 = .ok (.iadd, 1) := by decide +kernel
theorem dX6_mirrored_126 : decode cX6_mirrored 126 = .ok (.if_icmp .ne 7, 3) := by decide +kernel
theorem dX6_mirrored_129 : decode cX6_mirrored 129 = .ok (.iconst 1, 1) := by decide +kernel
theorem dX6_mirrored_130 : decode cX6_mirrored 130 = .ok (.goto 4, 3) := by decide +kernel
theorem dX6_mirrored_133 : decode cX6_mirrored 133 = .ok (.iconst 0, 1) := by decide +kernel
theorem dX6_mirrored_134 : decode cX6_mirrored 134 = .ok (.istore_n 1, 1) := by decide +kernel
theorem dX6_mirrored_135 : decode cX6_mirrored 135 = .ok (.iinc 3 1, 3) := by decide +kernel
theorem dX6_mirrored_138 : decode cX6_mirrored 138 = .ok (.goto (-125), 3) := by decide +kernel
theorem dX6_mirrored_141 : decode cX6_mirrored 141 = .ok (.iload_n 1, 1) := by decide +kernel
theorem dX6_mirrored_142 : decode cX6_mirrored 142 = .ok (.ifCond .eq 7, 3) := by decide +kernel
theorem dX6_mirrored_145 : decode cX6_mirrored 145 = .ok (.iconst 1, 1) := by decide +kernel
theorem dX6_mirrored_146 : decode cX6_mirrored 146 = .ok (.goto 4, 3) := by decide +kernel
theorem dX6_mirrored_149 : decode cX6_mirrored 149 = .ok (.iconst 0, 1) := by decide +kernel
theorem dX6_mirrored_150 : decode cX6_mirrored 150 = .ok (.ireturn, 1) := by decide +kernel
theorem dX6_isMirrored_0 : decode cX6_isMirrored 0 = .ok (.aload_n 0, 1) := by decide +kernel
theorem dX6_isMirrored_1 : decode cX6_isMirrored 1 = .ok (.invokevirtual 82, 3) := by decide +kernel
theorem dX6_isMirrored_4 : decode cX6_isMirrored 4 = .ok (.ireturn, 1) := by decide +kernel
theorem dX6_counter_0 : decode cX6_counter 0 = .ok (.iconst 0, 1) := by decide +kernel
theorem dX6_counter_1 : decode cX6_counter 1 = .ok (.istore_n 2, 1) := by decide +kernel
theorem dX6_counter_2 : decode cX6_counter 2 = .ok (.iload_n 2, 1) := by decide +kernel
theorem dX6_counter_3 : decode cX6_counter 3 = .ok (.bipush 12, 2) := by decide +kernel
theorem dX6_counter_5 : decode cX6_counter 5 = .ok (.if_icmp .ge 60, 3) := by decide +kernel
theorem dX6_counter_8 : decode cX6_counter 8 = .ok (.iconst 1, 1) := by decide +kernel
theorem dX6_counter_9 : decode cX6_counter 9 = .ok (.istore_n 3, 1) := by decide +kernel
theorem dX6_counter_10 : decode cX6_counter 10 = .ok (.iload_n 3, 1) := by decide +kernel
theorem dX6_counter_11 : decode cX6_counter 11 = .ok (.sipush 1000, 3) := by decide +kernel
theorem dX6_counter_14 : decode cX6_counter 14 = .ok (.if_icmp .ge 45, 3) := by decide +kernel
theorem dX6_counter_17 : decode cX6_counter 17 = .ok (.aload_n 0, 1) := by decide +kernel
theorem dX6_counter_18 : decode cX6_counter 18 = .ok (.iload_n 3, 1) := by decide +kernel
theorem dX6_counter_19 : decode cX6_counter 19 = .ok (.iload_n 1, 1) := by decide +kernel
theorem dX6_counter_20 : decode cX6_counter 20 = .ok (.imul, 1) := by decide +kernel
theorem dX6_counter_21 : decode cX6_counter 21 = .ok (.iload_n 2, 1) := by decide +kernel
theorem dX6_counter_22 : decode cX6_counter 22 = .ok (.invokevirtual 67, 3) := by decide +kernel
theorem dX6_counter_25 : decode cX6_counter 25 = .ok (.aload_n 0, 1) := by decide +kernel
theorem dX6_counter_26 : decode cX6_counter 26 = .ok (.invokevirtual 74, 3) := by decide +kernel
theorem dX6_counter_29 : decode cX6_counter 29 = .ok (.istore 4, 2) := by decide +kernel
theorem dX6_counter_31 : decode cX6_counter 31 = .ok (.aload_n 0, 1) := by decide +kernel
theorem dX6_counter_32 : decode cX6_counter 32 = .ok (.iload_n 3, 1) := by decide +kernel
theorem dX6_counter_33 : decode cX6_counter 33 = .ok (.ineg, 1) := by decide +kernel
theorem dX6_counter_34 : decode cX6_counter 34 = .ok (.iload_n 1, 1) := by decide +kernel
theorem dX6_counter_35 : decode cX6_counter 35 = .ok (.imul, 1) := by decide +kernel
theorem dX6_counter_36 : decode cX6_counter 36 = .ok (.iload_n 2, 1) := by decide +kernel
theorem dX6_counter_37 : decode cX6_counter 37 = .ok (.invokevirtual 67, 3) := by decide +kernel
theorem dX6_counter_40 : decode cX6_counter 40 = .ok (.iload 4, 2) := by decide +kernel
theorem dX6_counter_42 : decode cX6_counter 42 = .ok (.ifCond .eq 11, 3) := by decide +kernel
theorem dX6_counter_45 : decode cX6_counter 45 = .ok (.sipush 1000, 3) := by decide +kernel
theorem dX6_counter_48 : decode cX6_counter 48 = .ok (.iload_n 2, 1) := by decide +kernel
theorem dX6_counter_49 : decode cX6_counter 49 = .ok (.imul, 1) := by decide +kernel
theorem dX6_counter_50 : decode cX6_counter 50 = .ok (.iload_n 3, 1) := by decide +kernel
theorem dX6_counter_51 : decode cX6_counter 51 = .ok (.iadd, 1) := by decide +kernel
theorem dX6_counter_52 : decode cX6_counter 52 = .ok (.ireturn, 1) := by decide +kernel
theorem dX6_counter_53 : decode cX6_counter 53 = .ok (.iinc 3 1, 3) := by decide +kernel
theorem dX6_counter_56 : decode cX6_counter 56 = .ok (.goto (-46), 3) := by decide +kernel
theorem dX6_counter_59 : decode cX6_counter 59 = .ok (.iinc 2 1, 3) := by decide +kernel
theorem dX6_counter_62 : decode cX6_counter 62 = .ok (.goto (-60), 3) := by decide +kernel
theorem dX6_counter_65 : decode cX6_counter 65 = .ok (.ldc 49, 2) := by decide +kernel
theorem dX6_counter_67 : decode cX6_counter 67 = .ok (.ireturn, 1) := by decide +kernel
theorem dX6_counterNow_0 : decode cX6_counterNow 0 = .ok (.aload_n 0, 1) := by decide +kernel
theorem dX6_counterNow_1 : decode cX6_counterNow 1 = .ok (.iconst 0, 1) := by decide +kernel
theorem dX6_counterNow_2 : decode cX6_counterNow 2 = .ok (.invokevirtual 71, 3) := by decide +kernel
theorem dX6_counterNow_5 : decode cX6_counterNow 5 = .ok (.aload_n 0, 1) := by decide +kernel
theorem dX6_counterNow_6 : decode cX6_counterNow 6 = .ok (.invokevirtual 74, 3) := by decide +kernel
theorem dX6_counterNow_9 : decode cX6_counterNow 9 = .ok (.ifCond .eq 7, 3) := by decide +kernel
theorem dX6_counterNow_12 : decode cX6_counterNow 12 = .ok (.iconst 0, 1) := by decide +kernel
theorem dX6_counterNow_13 : decode cX6_counterNow 13 = .ok (.goto 8, 3) := by decide +kernel
theorem dX6_counterNow_16 : decode cX6_counterNow 16 = .ok (.aload_n 0, 1) := by decide +kernel
theorem dX6_counterNow_17 : decode cX6_counterNow 17 = .ok (.iconst 1, 1) := by decide +kernel
theorem dX6_counterNow_18 : decode cX6_counterNow 18 = .ok (.invokevirtual 85, 3) := by decide +kernel
theorem dX6_counterNow_21 : decode cX6_counterNow 21 = .ok (.ireturn, 1) := by decide +kernel
theorem dX6_counterWeight_0 : decode cX6_counterWeight 0 = .ok (.aload_n 0, 1) := by decide +kernel
theorem dX6_counterWeight_1 : decode cX6_counterWeight 1 = .ok (.invokevirtual 89, 3) := by decide +kernel
theorem dX6_counterWeight_4 : decode cX6_counterWeight 4 = .ok (.ireturn, 1) := by decide +kernel
theorem dX6_counterPair_0 : decode cX6_counterPair 0 = .ok (.iload_n 1, 1) := by decide +kernel
theorem dX6_counterPair_1 : decode cX6_counterPair 1 = .ok (.bipush (-100), 2) := by decide +kernel
theorem dX6_counterPair_3 : decode cX6_counterPair 3 = .ok (.bipush 100, 2) := by decide +kernel
theorem dX6_counterPair_5 : decode cX6_counterPair 5 = .ok (.invokestatic 50, 3) := by decide +kernel
theorem dX6_counterPair_8 : decode cX6_counterPair 8 = .ok (.ifCond .eq 19, 3) := by decide +kernel
theorem dX6_counterPair_11 : decode cX6_counterPair 11 = .ok (.iload_n 2, 1) := by decide +kernel
theorem dX6_counterPair_12 : decode cX6_counterPair 12 = .ok (.bipush (-100), 2) := by decide +kernel
theorem dX6_counterPair_14 : decode cX6_counterPair 14 = .ok (.bipush 100, 2) := by decide +kernel
theorem dX6_counterPair_16 : decode cX6_counterPair 16 = .ok (.invokestatic 50, 3) := by decide +kernel
theorem dX6_counterPair_19 : decode cX6_counterPair 19 = .ok (.ifCond .eq 8, 3) := by decide +kernel
theorem dX6_counterPair_22 : decode cX6_counterPair 22 = .ok (.iload_n 1, 1) := by decide +kernel
theorem dX6_counterPair_23 : decode cX6_counterPair 23 = .ok (.iload_n 2, 1) := by decide +kernel
theorem dX6_counterPair_24 : decode cX6_counterPair 24 = .ok (.if_icmp .ne 6, 3) := by decide +kernel
theorem dX6_counterPair_27 : decode cX6_counterPair 27 = .ok (.ldc 54, 2) := by decide +kernel
theorem dX6_counterPair_29 : decode cX6_counterPair 29 = .ok (.ireturn, 1) := by decide +kernel
theorem dX6_counterPair_30 : decode cX6_counterPair 30 = .ok (.aload_n 0, 1) := by decide +kernel
theorem dX6_counterPair_31 : decode cX6_counterPair 31 = .ok (.iconst 1, 1) := by decide +kernel
theorem dX6_counterPair_32 : decode cX6_counterPair 32 = .ok (.invokevirtual 71, 3) := by decide +kernel
theorem dX6_counterPair_35 : decode cX6_counterPair 35 = .ok (.aload_n 0, 1) := by decide +kernel
theorem dX6_counterPair_36 : decode cX6_counterPair 36 = .ok (.invokevirtual 74, 3) := by decide +kernel
theorem dX6_counterPair_39 : decode cX6_counterPair 39 = .ok (.ifCond .eq 7, 3) := by decide +kernel
theorem dX6_counterPair_42 : decode cX6_counterPair 42 = .ok (.iconst 0, 1) := by decide +kernel
theorem dX6_counterPair_43 : decode cX6_counterPair 43 = .ok (.goto 10, 3) := by decide +kernel
theorem dX6_counterPair_46 : decode cX6_counterPair 46 = .ok (.aload_n 0, 1) := by decide +kernel
theorem dX6_counterPair_47 : decode cX6_counterPair 47 = .ok (.iload_n 1, 1) := by decide +kernel
theorem dX6_counterPair_48 : decode cX6_counterPair 48 = .ok (.iload_n 2, 1) := by decide +kernel
theorem dX6_counterPair_49 : decode cX6_counterPair 49 = .ok (.isub, 1) := by decide +kernel
theorem dX6_counterPair_50 : decode cX6_counterPair 50 = .ok (.invokevirtual 85, 3) := by decide +kernel
theorem dX6_counterPair_53 : decode cX6_counterPair 53 = .ok (.ireturn, 1) := by decide +kernel
theorem dX6_cycle_0 : decode cX6_cycle 0 = .ok (.bipush 6, 2) := by decide +kernel
theorem dX6_cycle_2 : decode cX6_cycle 2 = .ok (.aload_n 0, 1) := by decide +kernel
theorem dX6_cycle_3 : decode cX6_cycle 3 = .ok (.getfield 7, 3) := by decide +kernel
theorem dX6_cycle_6 : decode cX6_cycle 6 = .ok (.iconst 1, 1) := by decide +kernel
theorem dX6_cycle_7 : decode cX6_cycle 7 = .ok (.iaload, 1) := by decide +kernel
theorem dX6_cycle_8 : decode cX6_cycle 8 = .ok (.imul, 1) := by decide +kernel
theorem dX6_cycle_9 : decode cX6_cycle 9 = .ok (.ireturn, 1) := by decide +kernel
theorem dX6_laysSlots_0 : decode cX6_laysSlots 0 = .ok (.iconst 0, 1) := by decide +kernel
theorem dX6_laysSlots_1 : decode cX6_laysSlots 1 = .ok (.istore_n 2, 1) := by decide +kernel
theorem dX6_laysSlots_2 : decode cX6_laysSlots 2 = .ok (.iload_n 2, 1) := by decide +kernel
theorem dX6_laysSlots_3 : decode cX6_laysSlots 3 = .ok (.aload_n 0, 1) := by decide +kernel
theorem dX6_laysSlots_4 : decode cX6_laysSlots 4 = .ok (.getfield 7, 3) := by decide +kernel
theorem dX6_laysSlots_7 : decode cX6_laysSlots 7 = .ok (.iconst 0, 1) := by decide +kernel
theorem dX6_laysSlots_8 : decode cX6_laysSlots 8 = .ok (.iaload, 1) := by decide +kernel
theorem dX6_laysSlots_9 : decode cX6_laysSlots 9 = .ok (.if_icmp .ge 47, 3) := by decide +kernel
theorem dX6_laysSlots_12 : decode cX6_laysSlots 12 = .ok (.aload_n 0, 1) := by decide +kernel
theorem dX6_laysSlots_13 : decode cX6_laysSlots 13 = .ok (.getfield 35, 3) := by decide +kernel
theorem dX6_laysSlots_16 : decode cX6_laysSlots 16 = .ok (.iload_n 2, 1) := by decide +kernel
theorem dX6_laysSlots_17 : decode cX6_laysSlots 17 = .ok (.bipush 12, 2) := by decide +kernel
theorem dX6_laysSlots_19 : decode cX6_laysSlots 19 = .ok (.aload_n 0, 1) := by decide +kernel
theorem dX6_laysSlots_20 : decode cX6_laysSlots 20 = .ok (.getfield 7, 3) := by decide +kernel
theorem dX6_laysSlots_23 : decode cX6_laysSlots 23 = .ok (.iload_n 2, 1) := by decide +kernel
theorem dX6_laysSlots_24 : decode cX6_laysSlots 24 = .ok (.iconst 0, 1) := by decide +kernel
theorem dX6_laysSlots_25 : decode cX6_laysSlots 25 = .ok (.invokestatic 42, 3) := by decide +kernel
theorem dX6_laysSlots_28 : decode cX6_laysSlots 28 = .ok (.iaload, 1) := by decide +kernel
theorem dX6_laysSlots_29 : decode cX6_laysSlots 29 = .ok (.isub, 1) := by decide +kernel
theorem dX6_laysSlots_30 : decode cX6_laysSlots 30 = .ok (.bipush 12, 2) := by decide +kernel
theorem dX6_laysSlots_32 : decode cX6_laysSlots 32 = .ok (.irem, 1) := by decide +kernel
theorem dX6_laysSlots_33 : decode cX6_laysSlots 33 = .ok (.iload_n 1, 1) := by decide +kernel
theorem dX6_laysSlots_34 : decode cX6_laysSlots 34 = .ok (.iload_n 2, 1) := by decide +kernel
theorem dX6_laysSlots_35 : decode cX6_laysSlots 35 = .ok (.ishr, 1) := by decide +kernel
theorem dX6_laysSlots_36 : decode cX6_laysSlots 36 = .ok (.iconst 1, 1) := by decide +kernel
theorem dX6_laysSlots_37 : decode cX6_laysSlots 37 = .ok (.iand, 1) := by decide +kernel
theorem dX6_laysSlots_38 : decode cX6_laysSlots 38 = .ok (.iconst 1, 1) := by decide +kernel
theorem dX6_laysSlots_39 : decode cX6_laysSlots 39 = .ok (.if_icmp .ne 8, 3) := by decide +kernel
theorem dX6_laysSlots_42 : decode cX6_laysSlots 42 = .ok (.bipush 12, 2) := by decide +kernel
theorem dX6_laysSlots_44 : decode cX6_laysSlots 44 = .ok (.goto 4, 3) := by decide +kernel
theorem dX6_laysSlots_47 : decode cX6_laysSlots 47 = .ok (.iconst 0, 1) := by decide +kernel
theorem dX6_laysSlots_48 : decode cX6_laysSlots 48 = .ok (.iadd, 1) := by decide +kernel
theorem dX6_laysSlots_49 : decode cX6_laysSlots 49 = .ok (.iastore, 1) := by decide +kernel
theorem dX6_laysSlots_50 : decode cX6_laysSlots 50 = .ok (.iinc 2 1, 3) := by decide +kernel
theorem dX6_laysSlots_53 : decode cX6_laysSlots 53 = .ok (.goto (-51), 3) := by decide +kernel
theorem dX6_laysSlots_56 : decode cX6_laysSlots 56 = .ok (.return_, 1) := by decide +kernel
theorem dX6_orderOfSlots_0 : decode cX6_orderOfSlots 0 = .ok (.aload_n 0, 1) := by decide +kernel
theorem dX6_orderOfSlots_1 : decode cX6_orderOfSlots 1 = .ok (.getfield 7, 3) := by decide +kernel
theorem dX6_orderOfSlots_4 : decode cX6_orderOfSlots 4 = .ok (.iconst 0, 1) := by decide +kernel
theorem dX6_orderOfSlots_5 : decode cX6_orderOfSlots 5 = .ok (.iaload, 1) := by decide +kernel
theorem dX6_orderOfSlots_6 : decode cX6_orderOfSlots 6 = .ok (.istore_n 1, 1) := by decide +kernel
theorem dX6_orderOfSlots_7 : decode cX6_orderOfSlots 7 = .ok (.aload_n 0, 1) := by decide +kernel
theorem dX6_orderOfSlots_8 : decode cX6_orderOfSlots 8 = .ok (.invokevirtual 92, 3) := by decide +kernel
theorem dX6_orderOfSlots_11 : decode cX6_orderOfSlots 11 = .ok (.iload_n 1, 1) := by decide +kernel
theorem dX6_orderOfSlots_12 : decode cX6_orderOfSlots 12 = .ok (.irem, 1) := by decide +kernel
theorem dX6_orderOfSlots_13 : decode cX6_orderOfSlots 13 = .ok (.ifCond .eq 5, 3) := by decide +kernel
theorem dX6_orderOfSlots_16 : decode cX6_orderOfSlots 16 = .ok (.iconst (-1), 1) := by decide +kernel
theorem dX6_orderOfSlots_17 : decode cX6_orderOfSlots 17 = .ok (.ireturn, 1) := by decide +kernel
theorem dX6_orderOfSlots_18 : decode cX6_orderOfSlots 18 = .ok (.iconst 0, 1) := by decide +kernel
theorem dX6_orderOfSlots_19 : decode cX6_orderOfSlots 19 = .ok (.istore_n 2, 1) := by decide +kernel
theorem dX6_orderOfSlots_20 : decode cX6_orderOfSlots 20 = .ok (.iconst 0, 1) := by decide +kernel
theorem dX6_orderOfSlots_21 : decode cX6_orderOfSlots 21 = .ok (.istore_n 3, 1) := by decide +kernel
theorem dX6_orderOfSlots_22 : decode cX6_orderOfSlots 22 = .ok (.iload_n 3, 1) := by decide +kernel
theorem dX6_orderOfSlots_23 : decode cX6_orderOfSlots 23 = .ok (.iload_n 1, 1) := by decide +kernel
theorem dX6_orderOfSlots_24 : decode cX6_orderOfSlots 24 = .ok (.if_icmp .ge 85, 3) := by decide +kernel
theorem dX6_orderOfSlots_27 : decode cX6_orderOfSlots 27 = .ok (.aload_n 0, 1) := by decide +kernel
theorem dX6_orderOfSlots_28 : decode cX6_orderOfSlots 28 = .ok (.getfield 35, 3) := by decide +kernel
theorem dX6_orderOfSlots_31 : decode cX6_orderOfSlots 31 = .ok (.iconst 0, 1) := by decide +kernel
theorem dX6_orderOfSlots_32 : decode cX6_orderOfSlots 32 = .ok (.iaload, 1) := by decide +kernel
theorem dX6_orderOfSlots_33 : decode cX6_orderOfSlots 33 = .ok (.iload_n 3, 1) := by decide +kernel
theorem dX6_orderOfSlots_34 : decode cX6_orderOfSlots 34 = .ok (.aload_n 0, 1) := by decide +kernel
theorem dX6_orderOfSlots_35 : decode cX6_orderOfSlots 35 = .ok (.invokevirtual 92, 3) := by decide +kernel
theorem dX6_orderOfSlots_38 : decode cX6_orderOfSlots 38 = .ok (.iload_n 1, 1) := by decide +kernel
theorem dX6_orderOfSlots_39 : decode cX6_orderOfSlots 39 = .ok (.idiv, 1) := by decide +kernel
theorem dX6_orderOfSlots_40 : decode cX6_orderOfSlots 40 = .ok (.imul, 1) := by decide +kernel
theorem dX6_orderOfSlots_41 : decode cX6_orderOfSlots 41 = .ok (.iadd, 1) := by decide +kernel
theorem dX6_orderOfSlots_42 : decode cX6_orderOfSlots 42 = .ok (.aload_n 0, 1) := by decide +kernel
theorem dX6_orderOfSlots_43 : decode cX6_orderOfSlots 43 = .ok (.invokevirtual 92, 3) := by decide +kernel
theorem dX6_orderOfSlots_46 : decode cX6_orderOfSlots 46 = .ok (.irem, 1) := by decide +kernel
theorem dX6_orderOfSlots_47 : decode cX6_orderOfSlots 47 = .ok (.istore 4, 2) := by decide +kernel
theorem dX6_orderOfSlots_49 : decode cX6_orderOfSlots 49 = .ok (.iconst (-1), 1) := by decide +kernel
theorem dX6_orderOfSlots_50 : decode cX6_orderOfSlots 50 = .ok (.istore 5, 2) := by decide +kernel
theorem dX6_orderOfSlots_52 : decode cX6_orderOfSlots 52 = .ok (.iconst 0, 1) := by decide +kernel
theorem dX6_orderOfSlots_53 : decode cX6_orderOfSlots 53 = .ok (.istore 6, 2) := by decide +kernel
theorem dX6_orderOfSlots_55 : decode cX6_orderOfSlots 55 = .ok (.iload 6, 2) := by decide +kernel
theorem dX6_orderOfSlots_57 : decode cX6_orderOfSlots 57 = .ok (.iload_n 1, 1) := by decide +kernel
theorem dX6_orderOfSlots_58 : decode cX6_orderOfSlots 58 = .ok (.if_icmp .ge 30, 3) := by decide +kernel
theorem dX6_orderOfSlots_61 : decode cX6_orderOfSlots 61 = .ok (.aload_n 0, 1) := by decide +kernel
theorem dX6_orderOfSlots_62 : decode cX6_orderOfSlots 62 = .ok (.getfield 35, 3) := by decide +kernel
theorem dX6_orderOfSlots_65 : decode cX6_orderOfSlots 65 = .ok (.iload 6, 2) := by decide +kernel
theorem dX6_orderOfSlots_67 : decode cX6_orderOfSlots 67 = .ok (.iaload, 1) := by decide +kernel
theorem dX6_orderOfSlots_68 : decode cX6_orderOfSlots 68 = .ok (.iload 4, 2) := by decide +kernel
theorem dX6_orderOfSlots_70 : decode cX6_orderOfSlots 70 = .ok (.if_icmp .ne 8, 3) := by decide +kernel
theorem dX6_orderOfSlots_73 : decode cX6_orderOfSlots 73 = .ok (.iload 6, 2) := by decide +kernel
theorem dX6_orderOfSlots_75 : decode cX6_orderOfSlots 75 = .ok (.goto 5, 3) := by decide +kernel
theorem dX6_orderOfSlots_78 : decode cX6_orderOfSlots 78 = .ok (.iload 5, 2) := by decide +kernel
theorem dX6_orderOfSlots_80 : decode cX6_orderOfSlots 80 = .ok (.istore 5, 2) := by decide +kernel
theorem dX6_orderOfSlots_82 : decode cX6_orderOfSlots 82 = .ok (.iinc 6 1, 3) := by decide +kernel
theorem dX6_orderOfSlots_85 : decode cX6_orderOfSlots 85 = .ok (.goto (-30), 3) := by decide +kernel
theorem dX6_orderOfSlots_88 : decode cX6_orderOfSlots 88 = .ok (.iload 5, 2) := by decide +kernel
theorem dX6_orderOfSlots_90 : decode cX6_orderOfSlots 90 = .ok (.ifCond .ge 5, 3) := by decide +kernel
theorem dX6_orderOfSlots_93 : decode cX6_orderOfSlots 93 = .ok (.iconst (-1), 1) := by decide +kernel
theorem dX6_orderOfSlots_94 : decode cX6_orderOfSlots 94 = .ok (.ireturn, 1) := by decide +kernel
theorem dX6_orderOfSlots_95 : decode cX6_orderOfSlots 95 = .ok (.bipush 8, 2) := by decide +kernel
theorem dX6_orderOfSlots_97 : decode cX6_orderOfSlots 97 = .ok (.iload_n 2, 1) := by decide +kernel
theorem dX6_orderOfSlots_98 : decode cX6_orderOfSlots 98 = .ok (.imul, 1) := by decide +kernel
theorem dX6_orderOfSlots_99 : decode cX6_orderOfSlots 99 = .ok (.iload 5, 2) := by decide +kernel
theorem dX6_orderOfSlots_101 : decode cX6_orderOfSlots 101 = .ok (.iadd, 1) := by decide +kernel
theorem dX6_orderOfSlots_102 : decode cX6_orderOfSlots 102 = .ok (.istore_n 2, 1) := by decide +kernel
theorem dX6_orderOfSlots_103 : decode cX6_orderOfSlots 103 = .ok (.iinc 3 1, 3) := by decide +kernel
theorem dX6_orderOfSlots_106 : decode cX6_orderOfSlots 106 = .ok (.goto (-84), 3) := by decide +kernel
theorem dX6_orderOfSlots_109 : decode cX6_orderOfSlots 109 = .ok (.iload_n 2, 1) := by decide +kernel
theorem dX6_orderOfSlots_110 : decode cX6_orderOfSlots 110 = .ok (.ireturn, 1) := by decide +kernel
theorem dX6_findOrders_0 : decode cX6_findOrders 0 = .ok (.aload_n 0, 1) := by decide +kernel
theorem dX6_findOrders_1 : decode cX6_findOrders 1 = .ok (.iconst 0, 1) := by decide +kernel
theorem dX6_findOrders_2 : decode cX6_findOrders 2 = .ok (.putfield 95, 3) := by decide +kernel
theorem dX6_findOrders_5 : decode cX6_findOrders 5 = .ok (.aload_n 0, 1) := by decide +kernel
theorem dX6_findOrders_6 : decode cX6_findOrders 6 = .ok (.getfield 7, 3) := by decide +kernel
theorem dX6_findOrders_9 : decode cX6_findOrders 9 = .ok (.iconst 1, 1) := by decide +kernel
theorem dX6_findOrders_10 : decode cX6_findOrders 10 = .ok (.iaload, 1) := by decide +kernel
theorem dX6_findOrders_11 : decode cX6_findOrders 11 = .ok (.iconst 4, 1) := by decide +kernel
theorem dX6_findOrders_12 : decode cX6_findOrders 12 = .ok (.if_icmp .ne 14, 3) := by decide +kernel
theorem dX6_findOrders_15 : decode cX6_findOrders 15 = .ok (.iconst 1, 1) := by decide +kernel
theorem dX6_findOrders_16 : decode cX6_findOrders 16 = .ok (.aload_n 0, 1) := by decide +kernel
theorem dX6_findOrders_17 : decode cX6_findOrders 17 = .ok (.getfield 7, 3) := by decide +kernel
theorem dX6_findOrders_20 : decode cX6_findOrders 20 = .ok (.iconst 0, 1) := by decide +kernel
theorem dX6_findOrders_21 : decode cX6_findOrders 21 = .ok (.iaload, 1) := by decide +kernel
theorem dX6_findOrders_22 : decode cX6_findOrders 22 = .ok (.ishl, 1) := by decide +kernel
theorem dX6_findOrders_23 : decode cX6_findOrders 23 = .ok (.goto 4, 3) := by decide +kernel
theorem dX6_findOrders_26 : decode cX6_findOrders 26 = .ok (.iconst 1, 1) := by decide +kernel
theorem dX6_findOrders_27 : decode cX6_findOrders 27 = .ok (.istore_n 1, 1) := by decide +kernel
theorem dX6_findOrders_28 : decode cX6_findOrders 28 = .ok (.iconst 0, 1) := by decide +kernel
theorem dX6_findOrders_29 : decode cX6_findOrders 29 = .ok (.istore_n 2, 1) := by decide +kernel
theorem dX6_findOrders_30 : decode cX6_findOrders 30 = .ok (.iload_n 2, 1) := by decide +kernel
theorem dX6_findOrders_31 : decode cX6_findOrders 31 = .ok (.iload_n 1, 1) := by decide +kernel
theorem dX6_findOrders_32 : decode cX6_findOrders 32 = .ok (.if_icmp .ge 87, 3) := by decide +kernel
theorem dX6_findOrders_35 : decode cX6_findOrders 35 = .ok (.aload_n 0, 1) := by decide +kernel
theorem dX6_findOrders_36 : decode cX6_findOrders 36 = .ok (.iload_n 2, 1) := by decide +kernel
theorem dX6_findOrders_37 : decode cX6_findOrders 37 = .ok (.invokevirtual 99, 3) := by decide +kernel
theorem dX6_findOrders_40 : decode cX6_findOrders 40 = .ok (.aload_n 0, 1) := by decide +kernel
theorem dX6_findOrders_41 : decode cX6_findOrders 41 = .ok (.invokevirtual 102, 3) := by decide +kernel
theorem dX6_findOrders_44 : decode cX6_findOrders 44 = .ok (.istore_n 3, 1) := by decide +kernel
theorem dX6_findOrders_45 : decode cX6_findOrders 45 = .ok (.iload_n 3, 1) := by decide +kernel
theorem dX6_findOrders_46 : decode cX6_findOrders 46 = .ok (.ifCond .lt 67, 3) := by decide +kernel
theorem dX6_findOrders_49 : decode cX6_findOrders 49 = .ok (.aload_n 0, 1) := by decide +kernel
theorem dX6_findOrders_50 : decode cX6_findOrders 50 = .ok (.getfield 95, 3) := by decide +kernel
theorem dX6_findOrders_53 : decode cX6_findOrders 53 = .ok (.istore 4, 2) := by decide +kernel
theorem dX6_findOrders_55 : decode cX6_findOrders 55 = .ok (.iload 4, 2) := by decide +kernel
theorem dX6_findOrders_57 : decode cX6_findOrders 57 = .ok (.ifCond .le 38, 3) := by decide +kernel
theorem dX6_findOrders_60 : decode cX6_findOrders 60 = .ok (.aload_n 0, 1) := by decide +kernel
theorem dX6_findOrders_61 : decode cX6_findOrders 61 = .ok (.getfield 32, 3) := by decide +kernel
theorem dX6_findOrders_64 : decode cX6_findOrders 64 = .ok (.iload 4, 2) := by decide +kernel
theorem dX6_findOrders_66 : decode cX6_findOrders 66 = .ok (.iconst 1, 1) := by decide +kernel
theorem dX6_findOrders_67 : decode cX6_findOrders 67 = .ok (.isub, 1) := by decide +kernel
theorem dX6_findOrders_68 : decode cX6_findOrders 68 = .ok (.iaload, 1) := by decide +kernel
theorem dX6_findOrders_69 : decode cX6_findOrders 69 = .ok (.iload_n 3, 1) := by decide +kernel
theorem dX6_findOrders_70 : decode cX6_findOrders 70 = .ok (.if_icmp .le 25, 3) := by decide +kernel
theorem dX6_findOrders_73 : decode cX6_findOrders 73 = .ok (.aload_n 0, 1) := by decide +kernel
theorem dX6_findOrders_74 : decode cX6_findOrders 74 = .ok (.getfield 32, 3) := by decide +kernel
theorem dX6_findOrders_77 : decode cX6_findOrders 77 = .ok (.iload 4, 2) := by decide +kernel
theorem dX6_findOrders_79 : decode cX6_findOrders 79 = .ok (.aload_n 0, 1) := by decide +kernel
theorem dX6_findOrders_80 : decode cX6_findOrders 80 = .ok (.getfield 32, 3) := by decide +kernel
theorem dX6_findOrders_83 : decode cX6_findOrders 83 = .ok (.iload 4, 2) := by decide +kernel
theorem dX6_findOrders_85 : decode cX6_findOrders 85 = .ok (.iconst 1, 1) := by decide +kernel
theorem dX6_findOrders_86 : decode cX6_findOrders 86 = .ok (.isub, 1) := by decide +kernel
theorem dX6_findOrders_87 : decode cX6_findOrders 87 = .ok (.iaload, 1) := by decide +kernel
theorem dX6_findOrders_88 : decode cX6_findOrders 88 = .ok (.iastore, 1) := by decide +kernel
theorem dX6_findOrders_89 : decode cX6_findOrders 89 = .ok (.iinc 4 (-1), 3) := by decide +kernel
theorem dX6_findOrders_92 : decode cX6_findOrders 92 = .ok (.goto (-37), 3) := by decide +kernel
theorem dX6_findOrders_95 : decode cX6_findOrders 95 = .ok (.aload_n 0, 1) := by decide +kernel
theorem dX6_findOrders_96 : decode cX6_findOrders 96 = .ok (.getfield 32, 3) := by decide +kernel
theorem dX6_findOrders_99 : decode cX6_findOrders 99 = .ok (.iload 4, 2) := by decide +kernel
theorem dX6_findOrders_101 : decode cX6_findOrders 101 = .ok (.iload_n 3, 1) := by decide +kernel
theorem dX6_findOrders_102 : decode cX6_findOrders 102 = .ok (.iastore, 1) := by decide +kernel
theorem dX6_findOrders_103 : decode cX6_findOrders 103 = .ok (.aload_n 0, 1) := by decide +kernel
theorem dX6_findOrders_104 : decode cX6_findOrders 104 = .ok (.dup, 1) := by decide +kernel
theorem dX6_findOrders_105 : decode cX6_findOrders 105 = .ok (.getfield 95, 3) := by decide +kernel
theorem dX6_findOrders_108 : decode cX6_findOrders 108 = .ok (.iconst 1, 1) := by decide +kernel
theorem dX6_findOrders_109 : decode cX6_findOrders 109 = .ok (.iadd, 1) := by decide +kernel
theorem dX6_findOrders_110 : decode cX6_findOrders 110 = .ok (.putfield 95, 3) := by decide +kernel
theorem dX6_findOrders_113 : decode cX6_findOrders 113 = .ok (.iinc 2 2, 3) := by decide +kernel
theorem dX6_findOrders_116 : decode cX6_findOrders 116 = .ok (.goto (-86), 3) := by decide +kernel
theorem dX6_findOrders_119 : decode cX6_findOrders 119 = .ok (.return_, 1) := by decide +kernel
theorem dX6_orders_0 : decode cX6_orders 0 = .ok (.aload_n 0, 1) := by decide +kernel
theorem dX6_orders_1 : decode cX6_orders 1 = .ok (.invokevirtual 105, 3) := by decide +kernel
theorem dX6_orders_4 : decode cX6_orders 4 = .ok (.aload_n 0, 1) := by decide +kernel
theorem dX6_orders_5 : decode cX6_orders 5 = .ok (.getfield 95, 3) := by decide +kernel
theorem dX6_orders_8 : decode cX6_orders 8 = .ok (.ireturn, 1) := by decide +kernel
theorem dX6_isOrder_0 : decode cX6_isOrder 0 = .ok (.aload_n 0, 1) := by decide +kernel
theorem dX6_isOrder_1 : decode cX6_isOrder 1 = .ok (.invokevirtual 105, 3) := by decide +kernel
theorem dX6_isOrder_4 : decode cX6_isOrder 4 = .ok (.iload_n 1, 1) := by decide +kernel
theorem dX6_isOrder_5 : decode cX6_isOrder 5 = .ok (.iconst 0, 1) := by decide +kernel
theorem dX6_isOrder_6 : decode cX6_isOrder 6 = .ok (.aload_n 0, 1) := by decide +kernel
theorem dX6_isOrder_7 : decode cX6_isOrder 7 = .ok (.getfield 95, 3) := by decide +kernel
theorem dX6_isOrder_10 : decode cX6_isOrder 10 = .ok (.iconst 1, 1) := by decide +kernel
theorem dX6_isOrder_11 : decode cX6_isOrder 11 = .ok (.isub, 1) := by decide +kernel
theorem dX6_isOrder_12 : decode cX6_isOrder 12 = .ok (.invokestatic 50, 3) := by decide +kernel
theorem dX6_isOrder_15 : decode cX6_isOrder 15 = .ok (.ireturn, 1) := by decide +kernel
theorem dX6_cylinderAt_0 : decode cX6_cylinderAt 0 = .ok (.aload_n 0, 1) := by decide +kernel
theorem dX6_cylinderAt_1 : decode cX6_cylinderAt 1 = .ok (.getfield 32, 3) := by decide +kernel
theorem dX6_cylinderAt_4 : decode cX6_cylinderAt 4 = .ok (.iload_n 1, 1) := by decide +kernel
theorem dX6_cylinderAt_5 : decode cX6_cylinderAt 5 = .ok (.iaload, 1) := by decide +kernel
theorem dX6_cylinderAt_6 : decode cX6_cylinderAt 6 = .ok (.iconst 3, 1) := by decide +kernel
theorem dX6_cylinderAt_7 : decode cX6_cylinderAt 7 = .ok (.aload_n 0, 1) := by decide +kernel
theorem dX6_cylinderAt_8 : decode cX6_cylinderAt 8 = .ok (.getfield 7, 3) := by decide +kernel
theorem dX6_cylinderAt_11 : decode cX6_cylinderAt 11 = .ok (.iconst 0, 1) := by decide +kernel
theorem dX6_cylinderAt_12 : decode cX6_cylinderAt 12 = .ok (.iaload, 1) := by decide +kernel
theorem dX6_cylinderAt_13 : decode cX6_cylinderAt 13 = .ok (.iconst 1, 1) := by decide +kernel
theorem dX6_cylinderAt_14 : decode cX6_cylinderAt 14 = .ok (.isub, 1) := by decide +kernel
theorem dX6_cylinderAt_15 : decode cX6_cylinderAt 15 = .ok (.iload_n 2, 1) := by decide +kernel
theorem dX6_cylinderAt_16 : decode cX6_cylinderAt 16 = .ok (.isub, 1) := by decide +kernel
theorem dX6_cylinderAt_17 : decode cX6_cylinderAt 17 = .ok (.imul, 1) := by decide +kernel
theorem dX6_cylinderAt_18 : decode cX6_cylinderAt 18 = .ok (.ishr, 1) := by decide +kernel
theorem dX6_cylinderAt_19 : decode cX6_cylinderAt 19 = .ok (.bipush 7, 2) := by decide +kernel
theorem dX6_cylinderAt_21 : decode cX6_cylinderAt 21 = .ok (.iand, 1) := by decide +kernel
theorem dX6_cylinderAt_22 : decode cX6_cylinderAt 22 = .ok (.ireturn, 1) := by decide +kernel
theorem dX6_order_0 : decode cX6_order 0 = .ok (.aload_n 0, 1) := by decide +kernel
theorem dX6_order_1 : decode cX6_order 1 = .ok (.iload_n 1, 1) := by decide +kernel
theorem dX6_order_2 : decode cX6_order 2 = .ok (.invokevirtual 108, 3) := by decide +kernel
theorem dX6_order_5 : decode cX6_order 5 = .ok (.ifCond .eq 28, 3) := by decide +kernel
theorem dX6_order_8 : decode cX6_order 8 = .ok (.iload_n 2, 1) := by decide +kernel
theorem dX6_order_9 : decode cX6_order 9 = .ok (.iconst 0, 1) := by decide +kernel
theorem dX6_order_10 : decode cX6_order 10 = .ok (.aload_n 0, 1) := by decide +kernel
theorem dX6_order_11 : decode cX6_order 11 = .ok (.getfield 7, 3) := by decide +kernel
theorem dX6_order_14 : decode cX6_order 14 = .ok (.iconst 0, 1) := by decide +kernel
theorem dX6_order_15 : decode cX6_order 15 = .ok (.iaload, 1) := by decide +kernel
theorem dX6_order_16 : decode cX6_order 16 = .ok (.iconst 1, 1) := by decide +kernel
theorem dX6_order_17 : decode cX6_order 17 = .ok (.isub, 1) := by decide +kernel
theorem dX6_order_18 : decode cX6_order 18 = .ok (.invokestatic 50, 3) := by decide +kernel
theorem dX6_order_21 : decode cX6_order 21 = .ok (.ifCond .eq 12, 3) := by decide +kernel
theorem dX6_order_24 : decode cX6_order 24 = .ok (.aload_n 0, 1) := by decide +kernel
theorem dX6_order_25 : decode cX6_order 25 = .ok (.iload_n 1, 1) := by decide +kernel
theorem dX6_order_26 : decode cX6_order 26 = .ok (.iload_n 2, 1) := by decide +kernel
theorem dX6_order_27 : decode cX6_order 27 = .ok (.invokevirtual 111, 3) := by decide +kernel
theorem dX6_order_30 : decode cX6_order 30 = .ok (.goto 5, 3) := by decide +kernel
theorem dX6_order_33 : decode cX6_order 33 = .ok (.ldc 62, 2) := by decide +kernel
theorem dX6_order_35 : decode cX6_order 35 = .ok (.ireturn, 1) := by decide +kernel
theorem dX6_penalty_0 : decode cX6_penalty 0 = .ok (.iconst 0, 1) := by decide +kernel
theorem dX6_penalty_1 : decode cX6_penalty 1 = .ok (.istore_n 2, 1) := by decide +kernel
theorem dX6_penalty_2 : decode cX6_penalty 2 = .ok (.iconst 0, 1) := by decide +kernel
theorem dX6_penalty_3 : decode cX6_penalty 3 = .ok (.istore_n 3, 1) := by decide +kernel
theorem dX6_penalty_4 : decode cX6_penalty 4 = .ok (.iload_n 3, 1) := by decide +kernel
theorem dX6_penalty_5 : decode cX6_penalty 5 = .ok (.aload_n 0, 1) := by decide +kernel
theorem dX6_penalty_6 : decode cX6_penalty 6 = .ok (.getfield 7, 3) := by decide +kernel
theorem dX6_penalty_9 : decode cX6_penalty 9 = .ok (.iconst 0, 1) := by decide +kernel
theorem dX6_penalty_10 : decode cX6_penalty 10 = .ok (.iaload, 1) := by decide +kernel
theorem dX6_penalty_11 : decode cX6_penalty 11 = .ok (.if_icmp .ge 53, 3) := by decide +kernel
theorem dX6_penalty_14 : decode cX6_penalty 14 = .ok (.aload_n 0, 1) := by decide +kernel
theorem dX6_penalty_15 : decode cX6_penalty 15 = .ok (.iload_n 1, 1) := by decide +kernel
theorem dX6_penalty_16 : decode cX6_penalty 16 = .ok (.iload_n 3, 1) := by decide +kernel
theorem dX6_penalty_17 : decode cX6_penalty 17 = .ok (.invokevirtual 111, 3) := by decide +kernel
theorem dX6_penalty_20 : decode cX6_penalty 20 = .ok (.aload_n 0, 1) := by decide +kernel
theorem dX6_penalty_21 : decode cX6_penalty 21 = .ok (.iload_n 1, 1) := by decide +kernel
theorem dX6_penalty_22 : decode cX6_penalty 22 = .ok (.iload_n 3, 1) := by decide +kernel
theorem dX6_penalty_23 : decode cX6_penalty 23 = .ok (.iconst 1, 1) := by decide +kernel
theorem dX6_penalty_24 : decode cX6_penalty 24 = .ok (.iadd, 1) := by decide +kernel
theorem dX6_penalty_25 : decode cX6_penalty 25 = .ok (.aload_n 0, 1) := by decide +kernel
theorem dX6_penalty_26 : decode cX6_penalty 26 = .ok (.getfield 7, 3) := by decide +kernel
theorem dX6_penalty_29 : decode cX6_penalty 29 = .ok (.iconst 0, 1) := by decide +kernel
theorem dX6_penalty_30 : decode cX6_penalty 30 = .ok (.iaload, 1) := by decide +kernel
theorem dX6_penalty_31 : decode cX6_penalty 31 = .ok (.irem, 1) := by decide +kernel
theorem dX6_penalty_32 : decode cX6_penalty 32 = .ok (.invokevirtual 111, 3) := by decide +kernel
theorem dX6_penalty_35 : decode cX6_penalty 35 = .ok (.isub, 1) := by decide +kernel
theorem dX6_penalty_36 : decode cX6_penalty 36 = .ok (.istore 4, 2) := by decide +kernel
theorem dX6_penalty_38 : decode cX6_penalty 38 = .ok (.iload_n 2, 1) := by decide +kernel
theorem dX6_penalty_39 : decode cX6_penalty 39 = .ok (.iload 4, 2) := by decide +kernel
theorem dX6_penalty_41 : decode cX6_penalty 41 = .ok (.iconst 1, 1) := by decide +kernel
theorem dX6_penalty_42 : decode cX6_penalty 42 = .ok (.if_icmp .eq 9, 3) := by decide +kernel
theorem dX6_penalty_45 : decode cX6_penalty 45 = .ok (.iload 4, 2) := by decide +kernel
theorem dX6_penalty_47 : decode cX6_penalty 47 = .ok (.iconst (-1), 1) := by decide +kernel
theorem dX6_penalty_48 : decode cX6_penalty 48 = .ok (.if_icmp .ne 7, 3) := by decide +kernel
theorem dX6_penalty_51 : decode cX6_penalty 51 = .ok (.iconst 1, 1) := by decide +kernel
theorem dX6_penalty_52 : decode cX6_penalty 52 = .ok (.goto 4, 3) := by decide +kernel
theorem dX6_penalty_55 : decode cX6_penalty 55 = .ok (.iconst 0, 1) := by decide +kernel
theorem dX6_penalty_56 : decode cX6_penalty 56 = .ok (.iadd, 1) := by decide +kernel
theorem dX6_penalty_57 : decode cX6_penalty 57 = .ok (.istore_n 2, 1) := by decide +kernel
theorem dX6_penalty_58 : decode cX6_penalty 58 = .ok (.iinc 3 1, 3) := by decide +kernel
theorem dX6_penalty_61 : decode cX6_penalty 61 = .ok (.goto (-57), 3) := by decide +kernel
theorem dX6_penalty_64 : decode cX6_penalty 64 = .ok (.iload_n 2, 1) := by decide +kernel
theorem dX6_penalty_65 : decode cX6_penalty 65 = .ok (.ireturn, 1) := by decide +kernel
theorem dX6_laysOrder_0 : decode cX6_laysOrder 0 = .ok (.bipush 12, 2) := by decide +kernel
theorem dX6_laysOrder_2 : decode cX6_laysOrder 2 = .ok (.aload_n 0, 1) := by decide +kernel
theorem dX6_laysOrder_3 : decode cX6_laysOrder 3 = .ok (.getfield 7, 3) := by decide +kernel
theorem dX6_laysOrder_6 : decode cX6_laysOrder 6 = .ok (.iconst 0, 1) := by decide +kernel
theorem dX6_laysOrder_7 : decode cX6_laysOrder 7 = .ok (.iconst 0, 1) := by decide +kernel
theorem dX6_laysOrder_8 : decode cX6_laysOrder 8 = .ok (.invokestatic 42, 3) := by decide +kernel
theorem dX6_laysOrder_11 : decode cX6_laysOrder 11 = .ok (.iaload, 1) := by decide +kernel
theorem dX6_laysOrder_12 : decode cX6_laysOrder 12 = .ok (.isub, 1) := by decide +kernel
theorem dX6_laysOrder_13 : decode cX6_laysOrder 13 = .ok (.bipush 12, 2) := by decide +kernel
theorem dX6_laysOrder_15 : decode cX6_laysOrder 15 = .ok (.irem, 1) := by decide +kernel
theorem dX6_laysOrder_16 : decode cX6_laysOrder 16 = .ok (.istore_n 2, 1) := by decide +kernel
theorem dX6_laysOrder_17 : decode cX6_laysOrder 17 = .ok (.iconst 0, 1) := by decide +kernel
theorem dX6_laysOrder_18 : decode cX6_laysOrder 18 = .ok (.istore_n 3, 1) := by decide +kernel
theorem dX6_laysOrder_19 : decode cX6_laysOrder 19 = .ok (.iload_n 3, 1) := by decide +kernel
theorem dX6_laysOrder_20 : decode cX6_laysOrder 20 = .ok (.aload_n 0, 1) := by decide +kernel
theorem dX6_laysOrder_21 : decode cX6_laysOrder 21 = .ok (.getfield 7, 3) := by decide +kernel
theorem dX6_laysOrder_24 : decode cX6_laysOrder 24 = .ok (.iconst 0, 1) := by decide +kernel
theorem dX6_laysOrder_25 : decode cX6_laysOrder 25 = .ok (.iaload, 1) := by decide +kernel
theorem dX6_laysOrder_26 : decode cX6_laysOrder 26 = .ok (.if_icmp .ge 40, 3) := by decide +kernel
theorem dX6_laysOrder_29 : decode cX6_laysOrder 29 = .ok (.aload_n 0, 1) := by decide +kernel
theorem dX6_laysOrder_30 : decode cX6_laysOrder 30 = .ok (.getfield 35, 3) := by decide +kernel
theorem dX6_laysOrder_33 : decode cX6_laysOrder 33 = .ok (.aload_n 0, 1) := by decide +kernel
theorem dX6_laysOrder_34 : decode cX6_laysOrder 34 = .ok (.iload_n 1, 1) := by decide +kernel
theorem dX6_laysOrder_35 : decode cX6_laysOrder 35 = .ok (.iload_n 3, 1) := by decide +kernel
theorem dX6_laysOrder_36 : decode cX6_laysOrder 36 = .ok (.invokevirtual 111, 3) := by decide +kernel
theorem dX6_laysOrder_39 : decode cX6_laysOrder 39 = .ok (.iload_n 2, 1) := by decide +kernel
theorem dX6_laysOrder_40 : decode cX6_laysOrder 40 = .ok (.iastore, 1) := by decide +kernel
theorem dX6_laysOrder_41 : decode cX6_laysOrder 41 = .ok (.iload_n 2, 1) := by decide +kernel
theorem dX6_laysOrder_42 : decode cX6_laysOrder 42 = .ok (.aload_n 0, 1) := by decide +kernel
theorem dX6_laysOrder_43 : decode cX6_laysOrder 43 = .ok (.invokevirtual 92, 3) := by decide +kernel
theorem dX6_laysOrder_46 : decode cX6_laysOrder 46 = .ok (.aload_n 0, 1) := by decide +kernel
theorem dX6_laysOrder_47 : decode cX6_laysOrder 47 = .ok (.getfield 7, 3) := by decide +kernel
theorem dX6_laysOrder_50 : decode cX6_laysOrder 50 = .ok (.iconst 0, 1) := by decide +kernel
theorem dX6_laysOrder_51 : decode cX6_laysOrder 51 = .ok (.iaload, 1) := by decide +kernel
theorem dX6_laysOrder_52 : decode cX6_laysOrder 52 = .ok (.idiv, 1) := by decide +kernel
theorem dX6_laysOrder_53 : decode cX6_laysOrder 53 = .ok (.iadd, 1) := by decide +kernel
theorem dX6_laysOrder_54 : decode cX6_laysOrder 54 = .ok (.aload_n 0, 1) := by decide +kernel
theorem dX6_laysOrder_55 : decode cX6_laysOrder 55 = .ok (.invokevirtual 92, 3) := by decide +kernel
theorem dX6_laysOrder_58 : decode cX6_laysOrder 58 = .ok (.irem, 1) := by decide +kernel
theorem dX6_laysOrder_59 : decode cX6_laysOrder 59 = .ok (.istore_n 2, 1) := by decide +kernel
theorem dX6_laysOrder_60 : decode cX6_laysOrder 60 = .ok (.iinc 3 1, 3) := by decide +kernel
theorem dX6_laysOrder_63 : decode cX6_laysOrder 63 = .ok (.goto (-44), 3) := by decide +kernel
theorem dX6_laysOrder_66 : decode cX6_laysOrder 66 = .ok (.return_, 1) := by decide +kernel
theorem dX6_loadIn_0 : decode cX6_loadIn 0 = .ok (.iconst 0, 1) := by decide +kernel
theorem dX6_loadIn_1 : decode cX6_loadIn 1 = .ok (.istore_n 3, 1) := by decide +kernel
theorem dX6_loadIn_2 : decode cX6_loadIn 2 = .ok (.iload_n 1, 1) := by decide +kernel
theorem dX6_loadIn_3 : decode cX6_loadIn 3 = .ok (.iconst 1, 1) := by decide +kernel
theorem dX6_loadIn_4 : decode cX6_loadIn 4 = .ok (.isub, 1) := by decide +kernel
theorem dX6_loadIn_5 : decode cX6_loadIn 5 = .ok (.istore 4, 2) := by decide +kernel
theorem dX6_loadIn_7 : decode cX6_loadIn 7 = .ok (.iload 4, 2) := by decide +kernel
theorem dX6_loadIn_9 : decode cX6_loadIn 9 = .ok (.iload_n 1, 1) := by decide +kernel
theorem dX6_loadIn_10 : decode cX6_loadIn 10 = .ok (.if_icmp .gt 70, 3) := by decide +kernel
theorem dX6_loadIn_13 : decode cX6_loadIn 13 = .ok (.aload_n 0, 1) := by decide +kernel
theorem dX6_loadIn_14 : decode cX6_loadIn 14 = .ok (.iload 4, 2) := by decide +kernel
theorem dX6_loadIn_16 : decode cX6_loadIn 16 = .ok (.invokevirtual 58, 3) := by decide +kernel
theorem dX6_loadIn_19 : decode cX6_loadIn 19 = .ok (.ifCond .eq 55, 3) := by decide +kernel
theorem dX6_loadIn_22 : decode cX6_loadIn 22 = .ok (.aload_n 0, 1) := by decide +kernel
theorem dX6_loadIn_23 : decode cX6_loadIn 23 = .ok (.getfield 114, 3) := by decide +kernel
theorem dX6_loadIn_26 : decode cX6_loadIn 26 = .ok (.iload 4, 2) := by decide +kernel
theorem dX6_loadIn_28 : decode cX6_loadIn 28 = .ok (.ishr, 1) := by decide +kernel
theorem dX6_loadIn_29 : decode cX6_loadIn 29 = .ok (.iconst 1, 1) := by decide +kernel
theorem dX6_loadIn_30 : decode cX6_loadIn 30 = .ok (.iand, 1) := by decide +kernel
theorem dX6_loadIn_31 : decode cX6_loadIn 31 = .ok (.iconst 1, 1) := by decide +kernel
theorem dX6_loadIn_32 : decode cX6_loadIn 32 = .ok (.if_icmp .ne 42, 3) := by decide +kernel
theorem dX6_loadIn_35 : decode cX6_loadIn 35 = .ok (.iload_n 2, 1) := by decide +kernel
theorem dX6_loadIn_36 : decode cX6_loadIn 36 = .ok (.aload_n 0, 1) := by decide +kernel
theorem dX6_loadIn_37 : decode cX6_loadIn 37 = .ok (.getfield 35, 3) := by decide +kernel
theorem dX6_loadIn_40 : decode cX6_loadIn 40 = .ok (.iload 4, 2) := by decide +kernel
theorem dX6_loadIn_42 : decode cX6_loadIn 42 = .ok (.iaload, 1) := by decide +kernel
theorem dX6_loadIn_43 : decode cX6_loadIn 43 = .ok (.isub, 1) := by decide +kernel
theorem dX6_loadIn_44 : decode cX6_loadIn 44 = .ok (.aload_n 0, 1) := by decide +kernel
theorem dX6_loadIn_45 : decode cX6_loadIn 45 = .ok (.invokevirtual 92, 3) := by decide +kernel
theorem dX6_loadIn_48 : decode cX6_loadIn 48 = .ok (.iadd, 1) := by decide +kernel
theorem dX6_loadIn_49 : decode cX6_loadIn 49 = .ok (.aload_n 0, 1) := by decide +kernel
theorem dX6_loadIn_50 : decode cX6_loadIn 50 = .ok (.invokevirtual 92, 3) := by decide +kernel
theorem dX6_loadIn_53 : decode cX6_loadIn 53 = .ok (.irem, 1) := by decide +kernel
theorem dX6_loadIn_54 : decode cX6_loadIn 54 = .ok (.istore 5, 2) := by decide +kernel
theorem dX6_loadIn_56 : decode cX6_loadIn 56 = .ok (.iload_n 3, 1) := by decide +kernel
theorem dX6_loadIn_57 : decode cX6_loadIn 57 = .ok (.iload 5, 2) := by decide +kernel
theorem dX6_loadIn_59 : decode cX6_loadIn 59 = .ok (.iconst 4, 1) := by decide +kernel
theorem dX6_loadIn_60 : decode cX6_loadIn 60 = .ok (.if_icmp .ge 11, 3) := by decide +kernel
theorem dX6_loadIn_63 : decode cX6_loadIn 63 = .ok (.bipush 8, 2) := by decide +kernel
theorem dX6_loadIn_65 : decode cX6_loadIn 65 = .ok (.iload 5, 2) := by decide +kernel
theorem dX6_loadIn_67 : decode cX6_loadIn 67 = .ok (.ishr, 1) := by decide +kernel
theorem dX6_loadIn_68 : decode cX6_loadIn 68 = .ok (.goto 4, 3) := by decide +kernel
theorem dX6_loadIn_71 : decode cX6_loadIn 71 = .ok (.iconst 0, 1) := by decide +kernel
theorem dX6_loadIn_72 : decode cX6_loadIn 72 = .ok (.iadd, 1) := by decide +kernel
theorem dX6_loadIn_73 : decode cX6_loadIn 73 = .ok (.istore_n 3, 1) := by decide +kernel
theorem dX6_loadIn_74 : decode cX6_loadIn 74 = .ok (.iinc 4 1, 3) := by decide +kernel
theorem dX6_loadIn_77 : decode cX6_loadIn 77 = .ok (.goto (-70), 3) := by decide +kernel
theorem dX6_loadIn_80 : decode cX6_loadIn 80 = .ok (.iload_n 3, 1) := by decide +kernel
theorem dX6_loadIn_81 : decode cX6_loadIn 81 = .ok (.ireturn, 1) := by decide +kernel
theorem dX6_peakOf_0 : decode cX6_peakOf 0 = .ok (.iconst 0, 1) := by decide +kernel
theorem dX6_peakOf_1 : decode cX6_peakOf 1 = .ok (.istore_n 2, 1) := by decide +kernel
theorem dX6_peakOf_2 : decode cX6_peakOf 2 = .ok (.iconst 0, 1) := by decide +kernel
theorem dX6_peakOf_3 : decode cX6_peakOf 3 = .ok (.istore_n 3, 1) := by decide +kernel
theorem dX6_peakOf_4 : decode cX6_peakOf 4 = .ok (.iload_n 3, 1) := by decide +kernel
theorem dX6_peakOf_5 : decode cX6_peakOf 5 = .ok (.aload_n 0, 1) := by decide +kernel
theorem dX6_peakOf_6 : decode cX6_peakOf 6 = .ok (.invokevirtual 92, 3) := by decide +kernel
theorem dX6_peakOf_9 : decode cX6_peakOf 9 = .ok (.if_icmp .ge 30, 3) := by decide +kernel
theorem dX6_peakOf_12 : decode cX6_peakOf 12 = .ok (.aload_n 0, 1) := by decide +kernel
theorem dX6_peakOf_13 : decode cX6_peakOf 13 = .ok (.iload_n 1, 1) := by decide +kernel
theorem dX6_peakOf_14 : decode cX6_peakOf 14 = .ok (.iload_n 3, 1) := by decide +kernel
theorem dX6_peakOf_15 : decode cX6_peakOf 15 = .ok (.invokevirtual 117, 3) := by decide +kernel
theorem dX6_peakOf_18 : decode cX6_peakOf 18 = .ok (.istore 4, 2) := by decide +kernel
theorem dX6_peakOf_20 : decode cX6_peakOf 20 = .ok (.iload 4, 2) := by decide +kernel
theorem dX6_peakOf_22 : decode cX6_peakOf 22 = .ok (.iload_n 2, 1) := by decide +kernel
theorem dX6_peakOf_23 : decode cX6_peakOf 23 = .ok (.if_icmp .le 8, 3) := by decide +kernel
theorem dX6_peakOf_26 : decode cX6_peakOf 26 = .ok (.iload 4, 2) := by decide +kernel
theorem dX6_peakOf_28 : decode cX6_peakOf 28 = .ok (.goto 4, 3) := by decide +kernel
theorem dX6_peakOf_31 : decode cX6_peakOf 31 = .ok (.iload_n 2, 1) := by decide +kernel
theorem dX6_peakOf_32 : decode cX6_peakOf 32 = .ok (.istore_n 2, 1) := by decide +kernel
theorem dX6_peakOf_33 : decode cX6_peakOf 33 = .ok (.iinc 3 1, 3) := by decide +kernel
theorem dX6_peakOf_36 : decode cX6_peakOf 36 = .ok (.goto (-32), 3) := by decide +kernel
theorem dX6_peakOf_39 : decode cX6_peakOf 39 = .ok (.iload_n 2, 1) := by decide +kernel
theorem dX6_peakOf_40 : decode cX6_peakOf 40 = .ok (.ireturn, 1) := by decide +kernel
theorem dX6_peakOfAll_0 : decode cX6_peakOfAll 0 = .ok (.aload_n 0, 1) := by decide +kernel
theorem dX6_peakOfAll_1 : decode cX6_peakOfAll 1 = .ok (.iload_n 1, 1) := by decide +kernel
theorem dX6_peakOfAll_2 : decode cX6_peakOfAll 2 = .ok (.invokevirtual 120, 3) := by decide +kernel
theorem dX6_peakOfAll_5 : decode cX6_peakOfAll 5 = .ok (.aload_n 0, 1) := by decide +kernel
theorem dX6_peakOfAll_6 : decode cX6_peakOfAll 6 = .ok (.sipush 255, 3) := by decide +kernel
theorem dX6_peakOfAll_9 : decode cX6_peakOfAll 9 = .ok (.putfield 114, 3) := by decide +kernel
theorem dX6_peakOfAll_12 : decode cX6_peakOfAll 12 = .ok (.iconst 0, 1) := by decide +kernel
theorem dX6_peakOfAll_13 : decode cX6_peakOfAll 13 = .ok (.istore_n 2, 1) := by decide +kernel
theorem dX6_peakOfAll_14 : decode cX6_peakOfAll 14 = .ok (.iconst 0, 1) := by decide +kernel
theorem dX6_peakOfAll_15 : decode cX6_peakOfAll 15 = .ok (.istore_n 3, 1) := by decide +kernel
theorem dX6_peakOfAll_16 : decode cX6_peakOfAll 16 = .ok (.iload_n 3, 1) := by decide +kernel
theorem dX6_peakOfAll_17 : decode cX6_peakOfAll 17 = .ok (.aload_n 0, 1) := by decide +kernel
theorem dX6_peakOfAll_18 : decode cX6_peakOfAll 18 = .ok (.getfield 7, 3) := by decide +kernel
theorem dX6_peakOfAll_21 : decode cX6_peakOfAll 21 = .ok (.iconst 0, 1) := by decide +kernel
theorem dX6_peakOfAll_22 : decode cX6_peakOfAll 22 = .ok (.iaload, 1) := by decide +kernel
theorem dX6_peakOfAll_23 : decode cX6_peakOfAll 23 = .ok (.if_icmp .gt 29, 3) := by decide +kernel
theorem dX6_peakOfAll_26 : decode cX6_peakOfAll 26 = .ok (.aload_n 0, 1) := by decide +kernel
theorem dX6_peakOfAll_27 : decode cX6_peakOfAll 27 = .ok (.iload_n 3, 1) := by decide +kernel
theorem dX6_peakOfAll_28 : decode cX6_peakOfAll 28 = .ok (.invokevirtual 123, 3) := by decide +kernel
theorem dX6_peakOfAll_31 : decode cX6_peakOfAll 31 = .ok (.istore 4, 2) := by decide +kernel
theorem dX6_peakOfAll_33 : decode cX6_peakOfAll 33 = .ok (.iload 4, 2) := by decide +kernel
theorem dX6_peakOfAll_35 : decode cX6_peakOfAll 35 = .ok (.iload_n 2, 1) := by decide +kernel
theorem dX6_peakOfAll_36 : decode cX6_peakOfAll 36 = .ok (.if_icmp .le 8, 3) := by decide +kernel
theorem dX6_peakOfAll_39 : decode cX6_peakOfAll 39 = .ok (.iload 4, 2) := by decide +kernel
theorem dX6_peakOfAll_41 : decode cX6_peakOfAll 41 = .ok (.goto 4, 3) := by decide +kernel
theorem dX6_peakOfAll_44 : decode cX6_peakOfAll 44 = .ok (.iload_n 2, 1) := by decide +kernel
theorem dX6_peakOfAll_45 : decode cX6_peakOfAll 45 = .ok (.istore_n 2, 1) := by decide +kernel
theorem dX6_peakOfAll_46 : decode cX6_peakOfAll 46 = .ok (.iinc 3 1, 3) := by decide +kernel
theorem dX6_peakOfAll_49 : decode cX6_peakOfAll 49 = .ok (.goto (-33), 3) := by decide +kernel
theorem dX6_peakOfAll_52 : decode cX6_peakOfAll 52 = .ok (.iload_n 2, 1) := by decide +kernel
theorem dX6_peakOfAll_53 : decode cX6_peakOfAll 53 = .ok (.ireturn, 1) := by decide +kernel
theorem dX6_orderCost_0 : decode cX6_orderCost 0 = .ok (.aload_n 0, 1) := by decide +kernel
theorem dX6_orderCost_1 : decode cX6_orderCost 1 = .ok (.iload_n 1, 1) := by decide +kernel
theorem dX6_orderCost_2 : decode cX6_orderCost 2 = .ok (.invokevirtual 108, 3) := by decide +kernel
theorem dX6_orderCost_5 : decode cX6_orderCost 5 = .ok (.ifCond .ne 6, 3) := by decide +kernel
theorem dX6_orderCost_8 : decode cX6_orderCost 8 = .ok (.ldc 62, 2) := by decide +kernel
theorem dX6_orderCost_10 : decode cX6_orderCost 10 = .ok (.ireturn, 1) := by decide +kernel
theorem dX6_orderCost_11 : decode cX6_orderCost 11 = .ok (.iload_n 2, 1) := by decide +kernel
theorem dX6_orderCost_12 : decode cX6_orderCost 12 = .ok (.ifCond .ne 11, 3) := by decide +kernel
theorem dX6_orderCost_15 : decode cX6_orderCost 15 = .ok (.aload_n 0, 1) := by decide +kernel
theorem dX6_orderCost_16 : decode cX6_orderCost 16 = .ok (.iload_n 1, 1) := by decide +kernel
theorem dX6_orderCost_17 : decode cX6_orderCost 17 = .ok (.invokevirtual 126, 3) := by decide +kernel
theorem dX6_orderCost_20 : decode cX6_orderCost 20 = .ok (.goto 18, 3) := by decide +kernel
theorem dX6_orderCost_23 : decode cX6_orderCost 23 = .ok (.iload_n 2, 1) := by decide +kernel
theorem dX6_orderCost_24 : decode cX6_orderCost 24 = .ok (.iconst 1, 1) := by decide +kernel
theorem dX6_orderCost_25 : decode cX6_orderCost 25 = .ok (.if_icmp .ne 11, 3) := by decide +kernel
theorem dX6_orderCost_28 : decode cX6_orderCost 28 = .ok (.aload_n 0, 1) := by decide +kernel
theorem dX6_orderCost_29 : decode cX6_orderCost 29 = .ok (.iload_n 1, 1) := by decide +kernel
theorem dX6_orderCost_30 : decode cX6_orderCost 30 = .ok (.invokevirtual 129, 3) := by decide +kernel
theorem dX6_orderCost_33 : decode cX6_orderCost 33 = .ok (.goto 5, 3) := by decide +kernel
theorem dX6_orderCost_36 : decode cX6_orderCost 36 = .ok (.ldc 54, 2) := by decide +kernel
theorem dX6_orderCost_38 : decode cX6_orderCost 38 = .ok (.ireturn, 1) := by decide +kernel
theorem dX6_best_0 : decode cX6_best 0 = .ok (.aload_n 0, 1) := by decide +kernel
theorem dX6_best_1 : decode cX6_best 1 = .ok (.invokevirtual 105, 3) := by decide +kernel
theorem dX6_best_4 : decode cX6_best 4 = .ok (.ldc 49, 2) := by decide +kernel
theorem dX6_best_6 : decode cX6_best 6 = .ok (.istore_n 1, 1) := by decide +kernel
theorem dX6_best_7 : decode cX6_best 7 = .ok (.iconst 0, 1) := by decide +kernel
theorem dX6_best_8 : decode cX6_best 8 = .ok (.istore_n 2, 1) := by decide +kernel
theorem dX6_best_9 : decode cX6_best 9 = .ok (.iconst 0, 1) := by decide +kernel
theorem dX6_best_10 : decode cX6_best 10 = .ok (.istore_n 3, 1) := by decide +kernel
theorem dX6_best_11 : decode cX6_best 11 = .ok (.iload_n 3, 1) := by decide +kernel
theorem dX6_best_12 : decode cX6_best 12 = .ok (.aload_n 0, 1) := by decide +kernel
theorem dX6_best_13 : decode cX6_best 13 = .ok (.getfield 95, 3) := by decide +kernel
theorem dX6_best_16 : decode cX6_best 16 = .ok (.if_icmp .ge 40, 3) := by decide +kernel
theorem dX6_best_19 : decode cX6_best 19 = .ok (.bipush 100, 2) := by decide +kernel
theorem dX6_best_21 : decode cX6_best 21 = .ok (.aload_n 0, 1) := by decide +kernel
theorem dX6_best_22 : decode cX6_best 22 = .ok (.iload_n 3, 1) := by decide +kernel
theorem dX6_best_23 : decode cX6_best 23 = .ok (.invokevirtual 129, 3) := by decide +kernel
theorem dX6_best_26 : decode cX6_best 26 = .ok (.imul, 1) := by decide +kernel
theorem dX6_best_27 : decode cX6_best 27 = .ok (.aload_n 0, 1) := by decide +kernel
theorem dX6_best_28 : decode cX6_best 28 = .ok (.iload_n 3, 1) := by decide +kernel
theorem dX6_best_29 : decode cX6_best 29 = .ok (.invokevirtual 126, 3) := by decide +kernel
theorem dX6_best_32 : decode cX6_best 32 = .ok (.iadd, 1) := by decide +kernel
theorem dX6_best_33 : decode cX6_best 33 = .ok (.istore 4, 2) := by decide +kernel
theorem dX6_best_35 : decode cX6_best 35 = .ok (.iload_n 1, 1) := by decide +kernel
theorem dX6_best_36 : decode cX6_best 36 = .ok (.ifCond .lt 9, 3) := by decide +kernel
theorem dX6_best_39 : decode cX6_best 39 = .ok (.iload 4, 2) := by decide +kernel
theorem dX6_best_41 : decode cX6_best 41 = .ok (.iload_n 2, 1) := by decide +kernel
theorem dX6_best_42 : decode cX6_best 42 = .ok (.if_icmp .ge 8, 3) := by decide +kernel
theorem dX6_best_45 : decode cX6_best 45 = .ok (.iload_n 3, 1) := by decide +kernel
theorem dX6_best_46 : decode cX6_best 46 = .ok (.istore_n 1, 1) := by decide +kernel
theorem dX6_best_47 : decode cX6_best 47 = .ok (.iload 4, 2) := by decide +kernel
theorem dX6_best_49 : decode cX6_best 49 = .ok (.istore_n 2, 1) := by decide +kernel
theorem dX6_best_50 : decode cX6_best 50 = .ok (.iinc 3 1, 3) := by decide +kernel
theorem dX6_best_53 : decode cX6_best 53 = .ok (.goto (-42), 3) := by decide +kernel
theorem dX6_best_56 : decode cX6_best 56 = .ok (.iload_n 1, 1) := by decide +kernel
theorem dX6_best_57 : decode cX6_best 57 = .ok (.ireturn, 1) := by decide +kernel
theorem dX6_bestOrder_0 : decode cX6_bestOrder 0 = .ok (.aload_n 0, 1) := by decide +kernel
theorem dX6_bestOrder_1 : decode cX6_bestOrder 1 = .ok (.invokevirtual 132, 3) := by decide +kernel
theorem dX6_bestOrder_4 : decode cX6_bestOrder 4 = .ok (.ireturn, 1) := by decide +kernel
theorem dX6_choose_0 : decode cX6_choose 0 = .ok (.aload_n 0, 1) := by decide +kernel
theorem dX6_choose_1 : decode cX6_choose 1 = .ok (.iload_n 1, 1) := by decide +kernel
theorem dX6_choose_2 : decode cX6_choose 2 = .ok (.invokevirtual 108, 3) := by decide +kernel
theorem dX6_choose_5 : decode cX6_choose 5 = .ok (.ifCond .ne 6, 3) := by decide +kernel
theorem dX6_choose_8 : decode cX6_choose 8 = .ok (.ldc 62, 2) := by decide +kernel
theorem dX6_choose_10 : decode cX6_choose 10 = .ok (.ireturn, 1) := by decide +kernel
theorem dX6_choose_11 : decode cX6_choose 11 = .ok (.aload_n 0, 1) := by decide +kernel
theorem dX6_choose_12 : decode cX6_choose 12 = .ok (.iload_n 1, 1) := by decide +kernel
theorem dX6_choose_13 : decode cX6_choose 13 = .ok (.invokevirtual 120, 3) := by decide +kernel
theorem dX6_choose_16 : decode cX6_choose 16 = .ok (.aload_n 0, 1) := by decide +kernel
theorem dX6_choose_17 : decode cX6_choose 17 = .ok (.iconst 1, 1) := by decide +kernel
theorem dX6_choose_18 : decode cX6_choose 18 = .ok (.invokevirtual 46, 3) := by decide +kernel
theorem dX6_choose_21 : decode cX6_choose 21 = .ok (.iconst 0, 1) := by decide +kernel
theorem dX6_choose_22 : decode cX6_choose 22 = .ok (.istore_n 2, 1) := by decide +kernel
theorem dX6_choose_23 : decode cX6_choose 23 = .ok (.iload_n 2, 1) := by decide +kernel
theorem dX6_choose_24 : decode cX6_choose 24 = .ok (.aload_n 0, 1) := by decide +kernel
theorem dX6_choose_25 : decode cX6_choose 25 = .ok (.getfield 7, 3) := by decide +kernel
theorem dX6_choose_28 : decode cX6_choose 28 = .ok (.iconst 0, 1) := by decide +kernel
theorem dX6_choose_29 : decode cX6_choose 29 = .ok (.iaload, 1) := by decide +kernel
theorem dX6_choose_30 : decode cX6_choose 30 = .ok (.if_icmp .ge 25, 3) := by decide +kernel
theorem dX6_choose_33 : decode cX6_choose 33 = .ok (.aload_n 0, 1) := by decide +kernel
theorem dX6_choose_34 : decode cX6_choose 34 = .ok (.getfield 7, 3) := by decide +kernel
theorem dX6_choose_37 : decode cX6_choose 37 = .ok (.iload_n 2, 1) := by decide +kernel
theorem dX6_choose_38 : decode cX6_choose 38 = .ok (.iconst 4, 1) := by decide +kernel
theorem dX6_choose_39 : decode cX6_choose 39 = .ok (.invokestatic 42, 3) := by decide +kernel
theorem dX6_choose_42 : decode cX6_choose 42 = .ok (.aload_n 0, 1) := by decide +kernel
theorem dX6_choose_43 : decode cX6_choose 43 = .ok (.getfield 35, 3) := by decide +kernel
theorem dX6_choose_46 : decode cX6_choose 46 = .ok (.iload_n 2, 1) := by decide +kernel
theorem dX6_choose_47 : decode cX6_choose 47 = .ok (.iaload, 1) := by decide +kernel
theorem dX6_choose_48 : decode cX6_choose 48 = .ok (.iastore, 1) := by decide +kernel
theorem dX6_choose_49 : decode cX6_choose 49 = .ok (.iinc 2 1, 3) := by decide +kernel
theorem dX6_choose_52 : decode cX6_choose 52 = .ok (.goto (-29), 3) := by decide +kernel
theorem dX6_choose_55 : decode cX6_choose 55 = .ok (.aload_n 0, 1) := by decide +kernel
theorem dX6_choose_56 : decode cX6_choose 56 = .ok (.getfield 35, 3) := by decide +kernel
theorem dX6_choose_59 : decode cX6_choose 59 = .ok (.iconst 0, 1) := by decide +kernel
theorem dX6_choose_60 : decode cX6_choose 60 = .ok (.iaload, 1) := by decide +kernel
theorem dX6_choose_61 : decode cX6_choose 61 = .ok (.ireturn, 1) := by decide +kernel
theorem dX6_append_0 : decode cX6_append 0 = .ok (.iload_n 1, 1) := by decide +kernel
theorem dX6_append_1 : decode cX6_append 1 = .ok (.iconst 0, 1) := by decide +kernel
theorem dX6_append_2 : decode cX6_append 2 = .ok (.bipush 127, 2) := by decide +kernel
theorem dX6_append_4 : decode cX6_append 4 = .ok (.invokestatic 50, 3) := by decide +kernel
theorem dX6_append_7 : decode cX6_append 7 = .ok (.ifCond .ne 6, 3) := by decide +kernel
theorem dX6_append_10 : decode cX6_append 10 = .ok (.ldc 54, 2) := by decide +kernel
theorem dX6_append_12 : decode cX6_append 12 = .ok (.ireturn, 1) := by decide +kernel
theorem dX6_append_13 : decode cX6_append 13 = .ok (.aload_n 0, 1) := by decide +kernel
theorem dX6_append_14 : decode cX6_append 14 = .ok (.getfield 135, 3) := by decide +kernel
theorem dX6_append_17 : decode cX6_append 17 = .ok (.bipush 40, 2) := by decide +kernel
theorem dX6_append_19 : decode cX6_append 19 = .ok (.if_icmp .ne 6, 3) := by decide +kernel
theorem dX6_append_22 : decode cX6_append 22 = .ok (.ldc 66, 2) := by decide +kernel
theorem dX6_append_24 : decode cX6_append 24 = .ok (.ireturn, 1) := by decide +kernel
theorem dX6_append_25 : decode cX6_append 25 = .ok (.aload_n 0, 1) := by decide +kernel
theorem dX6_append_26 : decode cX6_append 26 = .ok (.getfield 20, 3) := by decide +kernel
theorem dX6_append_29 : decode cX6_append 29 = .ok (.aload_n 0, 1) := by decide +kernel
theorem dX6_append_30 : decode cX6_append 30 = .ok (.getfield 135, 3) := by decide +kernel
theorem dX6_append_33 : decode cX6_append 33 = .ok (.iload_n 1, 1) := by decide +kernel
theorem dX6_append_34 : decode cX6_append 34 = .ok (.iastore, 1) := by decide +kernel
theorem dX6_append_35 : decode cX6_append 35 = .ok (.aload_n 0, 1) := by decide +kernel
theorem dX6_append_36 : decode cX6_append 36 = .ok (.dup, 1) := by decide +kernel
theorem dX6_append_37 : decode cX6_append 37 = .ok (.getfield 135, 3) := by decide +kernel
theorem dX6_append_40 : decode cX6_append 40 = .ok (.iconst 1, 1) := by decide +kernel
theorem dX6_append_41 : decode cX6_append 41 = .ok (.iadd, 1) := by decide +kernel
theorem dX6_append_42 : decode cX6_append 42 = .ok (.putfield 135, 3) := by decide +kernel
theorem dX6_append_45 : decode cX6_append 45 = .ok (.aload_n 0, 1) := by decide +kernel
theorem dX6_append_46 : decode cX6_append 46 = .ok (.getfield 135, 3) := by decide +kernel
theorem dX6_append_49 : decode cX6_append 49 = .ok (.ireturn, 1) := by decide +kernel
theorem dX6_clearText_0 : decode cX6_clearText 0 = .ok (.aload_n 0, 1) := by decide +kernel
theorem dX6_clearText_1 : decode cX6_clearText 1 = .ok (.getfield 135, 3) := by decide +kernel
theorem dX6_clearText_4 : decode cX6_clearText 4 = .ok (.istore_n 1, 1) := by decide +kernel
theorem dX6_clearText_5 : decode cX6_clearText 5 = .ok (.aload_n 0, 1) := by decide +kernel
theorem dX6_clearText_6 : decode cX6_clearText 6 = .ok (.iconst 0, 1) := by decide +kernel
theorem dX6_clearText_7 : decode cX6_clearText 7 = .ok (.putfield 135, 3) := by decide +kernel
theorem dX6_clearText_10 : decode cX6_clearText 10 = .ok (.iload_n 1, 1) := by decide +kernel
theorem dX6_clearText_11 : decode cX6_clearText 11 = .ok (.ireturn, 1) := by decide +kernel
theorem dX6_fault_0 : decode cX6_fault 0 = .ok (.iconst 0, 1) := by decide +kernel
theorem dX6_fault_1 : decode cX6_fault 1 = .ok (.istore_n 1, 1) := by decide +kernel
theorem dX6_fault_2 : decode cX6_fault 2 = .ok (.iconst 0, 1) := by decide +kernel
theorem dX6_fault_3 : decode cX6_fault 3 = .ok (.istore_n 2, 1) := by decide +kernel
theorem dX6_fault_4 : decode cX6_fault 4 = .ok (.iload_n 2, 1) := by decide +kernel
theorem dX6_fault_5 : decode cX6_fault 5 = .ok (.aload_n 0, 1) := by decide +kernel
theorem dX6_fault_6 : decode cX6_fault 6 = .ok (.getfield 135, 3) := by decide +kernel
theorem dX6_fault_9 : decode cX6_fault 9 = .ok (.if_icmp .ge 92, 3) := by decide +kernel
theorem dX6_fault_12 : decode cX6_fault 12 = .ok (.aload_n 0, 1) := by decide +kernel
theorem dX6_fault_13 : decode cX6_fault 13 = .ok (.getfield 20, 3) := by decide +kernel
theorem dX6_fault_16 : decode cX6_fault 16 = .ok (.iload_n 2, 1) := by decide +kernel
theorem dX6_fault_17 : decode cX6_fault 17 = .ok (.iaload, 1) := by decide +kernel
theorem dX6_fault_18 : decode cX6_fault 18 = .ok (.bipush 49, 2) := by decide +kernel
theorem dX6_fault_20 : decode cX6_fault 20 = .ok (.isub, 1) := by decide +kernel
theorem dX6_fault_21 : decode cX6_fault 21 = .ok (.istore_n 3, 1) := by decide +kernel
theorem dX6_fault_22 : decode cX6_fault 22 = .ok (.iload_n 2, 1) := by decide +kernel
theorem dX6_fault_23 : decode cX6_fault 23 = .ok (.iconst 2, 1) := by decide +kernel
theorem dX6_fault_24 : decode cX6_fault 24 = .ok (.aload_n 0, 1) := by decide +kernel
theorem dX6_fault_25 : decode cX6_fault 25 = .ok (.getfield 7, 3) := by decide +kernel
theorem dX6_fault_28 : decode cX6_fault 28 = .ok (.iconst 0, 1) := by decide +kernel
theorem dX6_fault_29 : decode cX6_fault 29 = .ok (.iaload, 1) := by decide +kernel
theorem dX6_fault_30 : decode cX6_fault 30 = .ok (.imul, 1) := by decide +kernel
theorem dX6_fault_31 : decode cX6_fault 31 = .ok (.iconst 1, 1) := by decide +kernel
theorem dX6_fault_32 : decode cX6_fault 32 = .ok (.isub, 1) := by decide +kernel
theorem dX6_fault_33 : decode cX6_fault 33 = .ok (.if_icmp .lt 5, 3) := by decide +kernel
theorem dX6_fault_36 : decode cX6_fault 36 = .ok (.iload_n 2, 1) := by decide +kernel
theorem dX6_fault_37 : decode cX6_fault 37 = .ok (.ireturn, 1) := by decide +kernel
theorem dX6_fault_38 : decode cX6_fault 38 = .ok (.iload_n 2, 1) := by decide +kernel
theorem dX6_fault_39 : decode cX6_fault 39 = .ok (.iconst 2, 1) := by decide +kernel
theorem dX6_fault_40 : decode cX6_fault 40 = .ok (.irem, 1) := by decide +kernel
theorem dX6_fault_41 : decode cX6_fault 41 = .ok (.iconst 1, 1) := by decide +kernel
theorem dX6_fault_42 : decode cX6_fault 42 = .ok (.if_icmp .ne 17, 3) := by decide +kernel
theorem dX6_fault_45 : decode cX6_fault 45 = .ok (.aload_n 0, 1) := by decide +kernel
theorem dX6_fault_46 : decode cX6_fault 46 = .ok (.getfield 20, 3) := by decide +kernel
theorem dX6_fault_49 : decode cX6_fault 49 = .ok (.iload_n 2, 1) := by decide +kernel
theorem dX6_fault_50 : decode cX6_fault 50 = .ok (.iaload, 1) := by decide +kernel
theorem dX6_fault_51 : decode cX6_fault 51 = .ok (.bipush 45, 2) := by decide +kernel
theorem dX6_fault_53 : decode cX6_fault 53 = .ok (.if_icmp .eq 25, 3) := by decide +kernel
theorem dX6_fault_56 : decode cX6_fault 56 = .ok (.goto 20, 3) := by decide +kernel
theorem dX6_fault_59 : decode cX6_fault 59 = .ok (.aload_n 0, 1) := by decide +kernel
theorem dX6_fault_60 : decode cX6_fault 60 = .ok (.iload_n 3, 1) := by decide +kernel
theorem dX6_fault_61 : decode cX6_fault 61 = .ok (.invokevirtual 58, 3) := by decide +kernel
theorem dX6_fault_64 : decode cX6_fault 64 = .ok (.ifCond .eq 12, 3) := by decide +kernel
theorem dX6_fault_67 : decode cX6_fault 67 = .ok (.iload_n 1, 1) := by decide +kernel
theorem dX6_fault_68 : decode cX6_fault 68 = .ok (.iload_n 3, 1) := by decide +kernel
theorem dX6_fault_69 : decode cX6_fault 69 = .ok (.ishr, 1) := by decide +kernel
theorem dX6_fault_70 : decode cX6_fault 70 = .ok (.iconst 1, 1) := by decide +kernel
theorem dX6_fault_71 : decode cX6_fault 71 = .ok (.iand, 1) := by decide +kernel
theorem dX6_fault_72 : decode cX6_fault 72 = .ok (.iconst 1, 1) := by decide +kernel
theorem dX6_fault_73 : decode cX6_fault 73 = .ok (.if_icmp .ne 5, 3) := by decide +kernel
theorem dX6_fault_76 : decode cX6_fault 76 = .ok (.iload_n 2, 1) := by decide +kernel
theorem dX6_fault_77 : decode cX6_fault 77 = .ok (.ireturn, 1) := by decide +kernel
theorem dX6_fault_78 : decode cX6_fault 78 = .ok (.iload_n 1, 1) := by decide +kernel
theorem dX6_fault_79 : decode cX6_fault 79 = .ok (.iload_n 2, 1) := by decide +kernel
theorem dX6_fault_80 : decode cX6_fault 80 = .ok (.iconst 2, 1) := by decide +kernel
theorem dX6_fault_81 : decode cX6_fault 81 = .ok (.irem, 1) := by decide +kernel
theorem dX6_fault_82 : decode cX6_fault 82 = .ok (.iconst 1, 1) := by decide +kernel
theorem dX6_fault_83 : decode cX6_fault 83 = .ok (.if_icmp .ne 7, 3) := by decide +kernel
theorem dX6_fault_86 : decode cX6_fault 86 = .ok (.iconst 0, 1) := by decide +kernel
theorem dX6_fault_87 : decode cX6_fault 87 = .ok (.goto 6, 3) := by decide +kernel
theorem dX6_fault_90 : decode cX6_fault 90 = .ok (.iconst 1, 1) := by decide +kernel
theorem dX6_fault_91 : decode cX6_fault 91 = .ok (.iload_n 3, 1) := by decide +kernel
theorem dX6_fault_92 : decode cX6_fault 92 = .ok (.ishl, 1) := by decide +kernel
theorem dX6_fault_93 : decode cX6_fault 93 = .ok (.ior, 1) := by decide +kernel
theorem dX6_fault_94 : decode cX6_fault 94 = .ok (.istore_n 1, 1) := by decide +kernel
theorem dX6_fault_95 : decode cX6_fault 95 = .ok (.iinc 2 1, 3) := by decide +kernel
theorem dX6_fault_98 : decode cX6_fault 98 = .ok (.goto (-94), 3) := by decide +kernel
theorem dX6_fault_101 : decode cX6_fault 101 = .ok (.aload_n 0, 1) := by decide +kernel
theorem dX6_fault_102 : decode cX6_fault 102 = .ok (.getfield 135, 3) := by decide +kernel
theorem dX6_fault_105 : decode cX6_fault 105 = .ok (.iconst 2, 1) := by decide +kernel
theorem dX6_fault_106 : decode cX6_fault 106 = .ok (.aload_n 0, 1) := by decide +kernel
theorem dX6_fault_107 : decode cX6_fault 107 = .ok (.getfield 7, 3) := by decide +kernel
theorem dX6_fault_110 : decode cX6_fault 110 = .ok (.iconst 0, 1) := by decide +kernel
theorem dX6_fault_111 : decode cX6_fault 111 = .ok (.iaload, 1) := by decide +kernel
theorem dX6_fault_112 : decode cX6_fault 112 = .ok (.imul, 1) := by decide +kernel
theorem dX6_fault_113 : decode cX6_fault 113 = .ok (.iconst 1, 1) := by decide +kernel
theorem dX6_fault_114 : decode cX6_fault 114 = .ok (.isub, 1) := by decide +kernel
theorem dX6_fault_115 : decode cX6_fault 115 = .ok (.if_icmp .ne 7, 3) := by decide +kernel
theorem dX6_fault_118 : decode cX6_fault 118 = .ok (.iconst (-1), 1) := by decide +kernel
theorem dX6_fault_119 : decode cX6_fault 119 = .ok (.goto 7, 3) := by decide +kernel
theorem dX6_fault_122 : decode cX6_fault 122 = .ok (.aload_n 0, 1) := by decide +kernel
theorem dX6_fault_123 : decode cX6_fault 123 = .ok (.getfield 135, 3) := by decide +kernel
theorem dX6_fault_126 : decode cX6_fault 126 = .ok (.ireturn, 1) := by decide +kernel
theorem dX6_faultPosition_0 : decode cX6_faultPosition 0 = .ok (.aload_n 0, 1) := by decide +kernel
theorem dX6_faultPosition_1 : decode cX6_faultPosition 1 = .ok (.invokevirtual 138, 3) := by decide +kernel
theorem dX6_faultPosition_4 : decode cX6_faultPosition 4 = .ok (.istore_n 1, 1) := by decide +kernel
theorem dX6_faultPosition_5 : decode cX6_faultPosition 5 = .ok (.iload_n 1, 1) := by decide +kernel
theorem dX6_faultPosition_6 : decode cX6_faultPosition 6 = .ok (.ifCond .ge 8, 3) := by decide +kernel
theorem dX6_faultPosition_9 : decode cX6_faultPosition 9 = .ok (.ldc 49, 2) := by decide +kernel
theorem dX6_faultPosition_11 : decode cX6_faultPosition 11 = .ok (.goto 4, 3) := by decide +kernel
theorem dX6_faultPosition_14 : decode cX6_faultPosition 14 = .ok (.iload_n 1, 1) := by decide +kernel
theorem dX6_faultPosition_15 : decode cX6_faultPosition 15 = .ok (.ireturn, 1) := by decide +kernel
theorem dX6_find_0 : decode cX6_find 0 = .ok (.aload_n 0, 1) := by decide +kernel
theorem dX6_find_1 : decode cX6_find 1 = .ok (.invokevirtual 138, 3) := by decide +kernel
theorem dX6_find_4 : decode cX6_find 4 = .ok (.ifCond .lt 6, 3) := by decide +kernel
theorem dX6_find_7 : decode cX6_find 7 = .ok (.ldc 141, 2) := by decide +kernel
theorem dX6_find_9 : decode cX6_find 9 = .ok (.ireturn, 1) := by decide +kernel
theorem dX6_find_10 : decode cX6_find 10 = .ok (.iconst 0, 1) := by decide +kernel
theorem dX6_find_11 : decode cX6_find 11 = .ok (.istore_n 1, 1) := by decide +kernel
theorem dX6_find_12 : decode cX6_find 12 = .ok (.aload_n 0, 1) := by decide +kernel
theorem dX6_find_13 : decode cX6_find 13 = .ok (.getfield 20, 3) := by decide +kernel
theorem dX6_find_16 : decode cX6_find 16 = .ok (.iconst 2, 1) := by decide +kernel
theorem dX6_find_17 : decode cX6_find 17 = .ok (.iload_n 1, 1) := by decide +kernel
theorem dX6_find_18 : decode cX6_find 18 = .ok (.imul, 1) := by decide +kernel
theorem dX6_find_19 : decode cX6_find 19 = .ok (.iaload, 1) := by decide +kernel
theorem dX6_find_20 : decode cX6_find 20 = .ok (.bipush 49, 2) := by decide +kernel
theorem dX6_find_22 : decode cX6_find 22 = .ok (.if_icmp .eq 9, 3) := by decide +kernel
theorem dX6_find_25 : decode cX6_find 25 = .ok (.iinc 1 1, 3) := by decide +kernel
theorem dX6_find_28 : decode cX6_find 28 = .ok (.goto (-16), 3) := by decide +kernel
theorem dX6_find_31 : decode cX6_find 31 = .ok (.iconst 0, 1) := by decide +kernel
theorem dX6_find_32 : decode cX6_find 32 = .ok (.istore_n 2, 1) := by decide +kernel
theorem dX6_find_33 : decode cX6_find 33 = .ok (.iconst 0, 1) := by decide +kernel
theorem dX6_find_34 : decode cX6_find 34 = .ok (.istore_n 3, 1) := by decide +kernel
theorem dX6_find_35 : decode cX6_find 35 = .ok (.iload_n 3, 1) := by decide +kernel
theorem dX6_find_36 : decode cX6_find 36 = .ok (.aload_n 0, 1) := by decide +kernel
theorem dX6_find_37 : decode cX6_find 37 = .ok (.getfield 7, 3) := by decide +kernel
theorem dX6_find_40 : decode cX6_find 40 = .ok (.iconst 0, 1) := by decide +kernel
theorem dX6_find_41 : decode cX6_find 41 = .ok (.iaload, 1) := by decide +kernel
theorem dX6_find_42 : decode cX6_find 42 = .ok (.if_icmp .ge 35, 3) := by decide +kernel
theorem dX6_find_45 : decode cX6_find 45 = .ok (.bipush 8, 2) := by decide +kernel
theorem dX6_find_47 : decode cX6_find 47 = .ok (.iload_n 2, 1) := by decide +kernel
theorem dX6_find_48 : decode cX6_find 48 = .ok (.imul, 1) := by decide +kernel
theorem dX6_find_49 : decode cX6_find 49 = .ok (.aload_n 0, 1) := by decide +kernel
theorem dX6_find_50 : decode cX6_find 50 = .ok (.getfield 20, 3) := by decide +kernel
theorem dX6_find_53 : decode cX6_find 53 = .ok (.iconst 2, 1) := by decide +kernel
theorem dX6_find_54 : decode cX6_find 54 = .ok (.iload_n 1, 1) := by decide +kernel
theorem dX6_find_55 : decode cX6_find 55 = .ok (.iload_n 3, 1) := by decide +kernel
theorem dX6_find_56 : decode cX6_find 56 = .ok (.iadd, 1) := by decide +kernel
theorem dX6_find_57 : decode cX6_find 57 = .ok (.aload_n 0, 1) := by decide +kernel
theorem dX6_find_58 : decode cX6_find 58 = .ok (.getfield 7, 3) := by decide +kernel
theorem dX6_find_61 : decode cX6_find 61 = .ok (.iconst 0, 1) := by decide +kernel
theorem dX6_find_62 : decode cX6_find 62 = .ok (.iaload, 1) := by decide +kernel
theorem dX6_find_63 : decode cX6_find 63 = .ok (.irem, 1) := by decide +kernel
theorem dX6_find_64 : decode cX6_find 64 = .ok (.imul, 1) := by decide +kernel
theorem dX6_find_65 : decode cX6_find 65 = .ok (.iaload, 1) := by decide +kernel
theorem dX6_find_66 : decode cX6_find 66 = .ok (.iadd, 1) := by decide +kernel
theorem dX6_find_67 : decode cX6_find 67 = .ok (.bipush 49, 2) := by decide +kernel
theorem dX6_find_69 : decode cX6_find 69 = .ok (.isub, 1) := by decide +kernel
theorem dX6_find_70 : decode cX6_find 70 = .ok (.istore_n 2, 1) := by decide +kernel
theorem dX6_find_71 : decode cX6_find 71 = .ok (.iinc 3 1, 3) := by decide +kernel
theorem dX6_find_74 : decode cX6_find 74 = .ok (.goto (-39), 3) := by decide +kernel
theorem dX6_find_77 : decode cX6_find 77 = .ok (.aload_n 0, 1) := by decide +kernel
theorem dX6_find_78 : decode cX6_find 78 = .ok (.invokevirtual 105, 3) := by decide +kernel
theorem dX6_find_81 : decode cX6_find 81 = .ok (.iconst 0, 1) := by decide +kernel
theorem dX6_find_82 : decode cX6_find 82 = .ok (.istore_n 3, 1) := by decide +kernel
theorem dX6_find_83 : decode cX6_find 83 = .ok (.iload_n 3, 1) := by decide +kernel
theorem dX6_find_84 : decode cX6_find 84 = .ok (.aload_n 0, 1) := by decide +kernel
theorem dX6_find_85 : decode cX6_find 85 = .ok (.getfield 95, 3) := by decide +kernel
theorem dX6_find_88 : decode cX6_find 88 = .ok (.if_icmp .ge 21, 3) := by decide +kernel
theorem dX6_find_91 : decode cX6_find 91 = .ok (.aload_n 0, 1) := by decide +kernel
theorem dX6_find_92 : decode cX6_find 92 = .ok (.getfield 32, 3) := by decide +kernel
theorem dX6_find_95 : decode cX6_find 95 = .ok (.iload_n 3, 1) := by decide +kernel
theorem dX6_find_96 : decode cX6_find 96 = .ok (.iaload, 1) := by decide +kernel
theorem dX6_find_97 : decode cX6_find 97 = .ok (.iload_n 2, 1) := by decide +kernel
theorem dX6_find_98 : decode cX6_find 98 = .ok (.if_icmp .ne 5, 3) := by decide +kernel
theorem dX6_find_101 : decode cX6_find 101 = .ok (.iload_n 3, 1) := by decide +kernel
theorem dX6_find_102 : decode cX6_find 102 = .ok (.ireturn, 1) := by decide +kernel
theorem dX6_find_103 : decode cX6_find 103 = .ok (.iinc 3 1, 3) := by decide +kernel
theorem dX6_find_106 : decode cX6_find 106 = .ok (.goto (-23), 3) := by decide +kernel
theorem dX6_find_109 : decode cX6_find 109 = .ok (.ldc 49, 2) := by decide +kernel
theorem dX6_find_111 : decode cX6_find 111 = .ok (.ireturn, 1) := by decide +kernel
theorem dX6_onMany_0 : decode cX6_onMany 0 = .ok (.iconst 0, 1) := by decide +kernel
theorem dX6_onMany_1 : decode cX6_onMany 1 = .ok (.istore_n 1, 1) := by decide +kernel
theorem dX6_onMany_2 : decode cX6_onMany 2 = .ok (.iconst 0, 1) := by decide +kernel
theorem dX6_onMany_3 : decode cX6_onMany 3 = .ok (.istore_n 2, 1) := by decide +kernel
theorem dX6_onMany_4 : decode cX6_onMany 4 = .ok (.iload_n 2, 1) := by decide +kernel
theorem dX6_onMany_5 : decode cX6_onMany 5 = .ok (.aload_n 0, 1) := by decide +kernel
theorem dX6_onMany_6 : decode cX6_onMany 6 = .ok (.getfield 7, 3) := by decide +kernel
theorem dX6_onMany_9 : decode cX6_onMany 9 = .ok (.iconst 0, 1) := by decide +kernel
theorem dX6_onMany_10 : decode cX6_onMany 10 = .ok (.iaload, 1) := by decide +kernel
theorem dX6_onMany_11 : decode cX6_onMany 11 = .ok (.if_icmp .ge 22, 3) := by decide +kernel
theorem dX6_onMany_14 : decode cX6_onMany 14 = .ok (.iload_n 1, 1) := by decide +kernel
theorem dX6_onMany_15 : decode cX6_onMany 15 = .ok (.aload_n 0, 1) := by decide +kernel
theorem dX6_onMany_16 : decode cX6_onMany 16 = .ok (.getfield 7, 3) := by decide +kernel
theorem dX6_onMany_19 : decode cX6_onMany 19 = .ok (.iload_n 2, 1) := by decide +kernel
theorem dX6_onMany_20 : decode cX6_onMany 20 = .ok (.iconst 3, 1) := by decide +kernel
theorem dX6_onMany_21 : decode cX6_onMany 21 = .ok (.invokestatic 42, 3) := by decide +kernel
theorem dX6_onMany_24 : decode cX6_onMany 24 = .ok (.iaload, 1) := by decide +kernel
theorem dX6_onMany_25 : decode cX6_onMany 25 = .ok (.iadd, 1) := by decide +kernel
theorem dX6_onMany_26 : decode cX6_onMany 26 = .ok (.istore_n 1, 1) := by decide +kernel
theorem dX6_onMany_27 : decode cX6_onMany 27 = .ok (.iinc 2 1, 3) := by decide +kernel
theorem dX6_onMany_30 : decode cX6_onMany 30 = .ok (.goto (-26), 3) := by decide +kernel
theorem dX6_onMany_33 : decode cX6_onMany 33 = .ok (.iload_n 1, 1) := by decide +kernel
theorem dX6_onMany_34 : decode cX6_onMany 34 = .ok (.ireturn, 1) := by decide +kernel
theorem dX6_turn_0 : decode cX6_turn 0 = .ok (.aload_n 0, 1) := by decide +kernel
theorem dX6_turn_1 : decode cX6_turn 1 = .ok (.iload_n 1, 1) := by decide +kernel
theorem dX6_turn_2 : decode cX6_turn 2 = .ok (.invokevirtual 58, 3) := by decide +kernel
theorem dX6_turn_5 : decode cX6_turn 5 = .ok (.ifCond .ne 6, 3) := by decide +kernel
theorem dX6_turn_8 : decode cX6_turn 8 = .ok (.ldc 62, 2) := by decide +kernel
theorem dX6_turn_10 : decode cX6_turn 10 = .ok (.ireturn, 1) := by decide +kernel
theorem dX6_turn_11 : decode cX6_turn 11 = .ok (.aload_n 0, 1) := by decide +kernel
theorem dX6_turn_12 : decode cX6_turn 12 = .ok (.getfield 7, 3) := by decide +kernel
theorem dX6_turn_15 : decode cX6_turn 15 = .ok (.iconst 2, 1) := by decide +kernel
theorem dX6_turn_16 : decode cX6_turn 16 = .ok (.iaload, 1) := by decide +kernel
theorem dX6_turn_17 : decode cX6_turn 17 = .ok (.ifCond .ne 6, 3) := by decide +kernel
theorem dX6_turn_20 : decode cX6_turn 20 = .ok (.ldc 141, 2) := by decide +kernel
theorem dX6_turn_22 : decode cX6_turn 22 = .ok (.ireturn, 1) := by decide +kernel
theorem dX6_turn_23 : decode cX6_turn 23 = .ok (.aload_n 0, 1) := by decide +kernel
theorem dX6_turn_24 : decode cX6_turn 24 = .ok (.getfield 7, 3) := by decide +kernel
theorem dX6_turn_27 : decode cX6_turn 27 = .ok (.iload_n 1, 1) := by decide +kernel
theorem dX6_turn_28 : decode cX6_turn 28 = .ok (.iconst 3, 1) := by decide +kernel
theorem dX6_turn_29 : decode cX6_turn 29 = .ok (.invokestatic 42, 3) := by decide +kernel
theorem dX6_turn_32 : decode cX6_turn 32 = .ok (.iload_n 2, 1) := by decide +kernel
theorem dX6_turn_33 : decode cX6_turn 33 = .ok (.ifCond .eq 7, 3) := by decide +kernel
theorem dX6_turn_36 : decode cX6_turn 36 = .ok (.iconst 1, 1) := by decide +kernel
theorem dX6_turn_37 : decode cX6_turn 37 = .ok (.goto 4, 3) := by decide +kernel
theorem dX6_turn_40 : decode cX6_turn 40 = .ok (.iconst 0, 1) := by decide +kernel
theorem dX6_turn_41 : decode cX6_turn 41 = .ok (.iastore, 1) := by decide +kernel
theorem dX6_turn_42 : decode cX6_turn 42 = .ok (.aload_n 0, 1) := by decide +kernel
theorem dX6_turn_43 : decode cX6_turn 43 = .ok (.invokevirtual 142, 3) := by decide +kernel
theorem dX6_turn_46 : decode cX6_turn 46 = .ok (.ireturn, 1) := by decide +kernel
theorem dX6_gapBut_0 : decode cX6_gapBut 0 = .ok (.ldc 49, 2) := by decide +kernel
theorem dX6_gapBut_2 : decode cX6_gapBut 2 = .ok (.istore_n 2, 1) := by decide +kernel
theorem dX6_gapBut_3 : decode cX6_gapBut 3 = .ok (.iconst 0, 1) := by decide +kernel
theorem dX6_gapBut_4 : decode cX6_gapBut 4 = .ok (.istore_n 3, 1) := by decide +kernel
theorem dX6_gapBut_5 : decode cX6_gapBut 5 = .ok (.iload_n 3, 1) := by decide +kernel
theorem dX6_gapBut_6 : decode cX6_gapBut 6 = .ok (.aload_n 0, 1) := by decide +kernel
theorem dX6_gapBut_7 : decode cX6_gapBut 7 = .ok (.getfield 7, 3) := by decide +kernel
theorem dX6_gapBut_10 : decode cX6_gapBut 10 = .ok (.iconst 0, 1) := by decide +kernel
theorem dX6_gapBut_11 : decode cX6_gapBut 11 = .ok (.iaload, 1) := by decide +kernel
theorem dX6_gapBut_12 : decode cX6_gapBut 12 = .ok (.if_icmp .ge 144, 3) := by decide +kernel
theorem dX6_gapBut_15 : decode cX6_gapBut 15 = .ok (.iload_n 3, 1) := by decide +kernel
theorem dX6_gapBut_16 : decode cX6_gapBut 16 = .ok (.iload_n 1, 1) := by decide +kernel
theorem dX6_gapBut_17 : decode cX6_gapBut 17 = .ok (.if_icmp .eq 133, 3) := by decide +kernel
theorem dX6_gapBut_20 : decode cX6_gapBut 20 = .ok (.aload_n 0, 1) := by decide +kernel
theorem dX6_gapBut_21 : decode cX6_gapBut 21 = .ok (.getfield 7, 3) := by decide +kernel
theorem dX6_gapBut_24 : decode cX6_gapBut 24 = .ok (.iload_n 3, 1) := by decide +kernel
theorem dX6_gapBut_25 : decode cX6_gapBut 25 = .ok (.iconst 3, 1) := by decide +kernel
theorem dX6_gapBut_26 : decode cX6_gapBut 26 = .ok (.invokestatic 42, 3) := by decide +kernel
theorem dX6_gapBut_29 : decode cX6_gapBut 29 = .ok (.iaload, 1) := by decide +kernel
theorem dX6_gapBut_30 : decode cX6_gapBut 30 = .ok (.iconst 1, 1) := by decide +kernel
theorem dX6_gapBut_31 : decode cX6_gapBut 31 = .ok (.if_icmp .ne 119, 3) := by decide +kernel
theorem dX6_gapBut_34 : decode cX6_gapBut 34 = .ok (.aload_n 0, 1) := by decide +kernel
theorem dX6_gapBut_35 : decode cX6_gapBut 35 = .ok (.invokevirtual 92, 3) := by decide +kernel
theorem dX6_gapBut_38 : decode cX6_gapBut 38 = .ok (.istore 4, 2) := by decide +kernel
theorem dX6_gapBut_40 : decode cX6_gapBut 40 = .ok (.iconst 0, 1) := by decide +kernel
theorem dX6_gapBut_41 : decode cX6_gapBut 41 = .ok (.istore 5, 2) := by decide +kernel
theorem dX6_gapBut_43 : decode cX6_gapBut 43 = .ok (.iload 5, 2) := by decide +kernel
theorem dX6_gapBut_45 : decode cX6_gapBut 45 = .ok (.aload_n 0, 1) := by decide +kernel
theorem dX6_gapBut_46 : decode cX6_gapBut 46 = .ok (.getfield 7, 3) := by decide +kernel
theorem dX6_gapBut_49 : decode cX6_gapBut 49 = .ok (.iconst 0, 1) := by decide +kernel
theorem dX6_gapBut_50 : decode cX6_gapBut 50 = .ok (.iaload, 1) := by decide +kernel
theorem dX6_gapBut_51 : decode cX6_gapBut 51 = .ok (.if_icmp .ge 86, 3) := by decide +kernel
theorem dX6_gapBut_54 : decode cX6_gapBut 54 = .ok (.aload_n 0, 1) := by decide +kernel
theorem dX6_gapBut_55 : decode cX6_gapBut 55 = .ok (.getfield 7, 3) := by decide +kernel
theorem dX6_gapBut_58 : decode cX6_gapBut 58 = .ok (.iload 5, 2) := by decide +kernel
theorem dX6_gapBut_60 : decode cX6_gapBut 60 = .ok (.iconst 4, 1) := by decide +kernel
theorem dX6_gapBut_61 : decode cX6_gapBut 61 = .ok (.invokestatic 42, 3) := by decide +kernel
theorem dX6_gapBut_64 : decode cX6_gapBut 64 = .ok (.iaload, 1) := by decide +kernel
theorem dX6_gapBut_65 : decode cX6_gapBut 65 = .ok (.aload_n 0, 1) := by decide +kernel
theorem dX6_gapBut_66 : decode cX6_gapBut 66 = .ok (.getfield 7, 3) := by decide +kernel
theorem dX6_gapBut_69 : decode cX6_gapBut 69 = .ok (.iload_n 3, 1) := by decide +kernel
theorem dX6_gapBut_70 : decode cX6_gapBut 70 = .ok (.iconst 4, 1) := by decide +kernel
theorem dX6_gapBut_71 : decode cX6_gapBut 71 = .ok (.invokestatic 42, 3) := by decide +kernel
theorem dX6_gapBut_74 : decode cX6_gapBut 74 = .ok (.iaload, 1) := by decide +kernel
theorem dX6_gapBut_75 : decode cX6_gapBut 75 = .ok (.isub, 1) := by decide +kernel
theorem dX6_gapBut_76 : decode cX6_gapBut 76 = .ok (.aload_n 0, 1) := by decide +kernel
theorem dX6_gapBut_77 : decode cX6_gapBut 77 = .ok (.invokevirtual 92, 3) := by decide +kernel
theorem dX6_gapBut_80 : decode cX6_gapBut 80 = .ok (.iadd, 1) := by decide +kernel
theorem dX6_gapBut_81 : decode cX6_gapBut 81 = .ok (.aload_n 0, 1) := by decide +kernel
theorem dX6_gapBut_82 : decode cX6_gapBut 82 = .ok (.invokevirtual 92, 3) := by decide +kernel
theorem dX6_gapBut_85 : decode cX6_gapBut 85 = .ok (.irem, 1) := by decide +kernel
theorem dX6_gapBut_86 : decode cX6_gapBut 86 = .ok (.istore 6, 2) := by decide +kernel
theorem dX6_gapBut_88 : decode cX6_gapBut 88 = .ok (.iload 5, 2) := by decide +kernel
theorem dX6_gapBut_90 : decode cX6_gapBut 90 = .ok (.iload_n 1, 1) := by decide +kernel
theorem dX6_gapBut_91 : decode cX6_gapBut 91 = .ok (.if_icmp .eq 36, 3) := by decide +kernel
theorem dX6_gapBut_94 : decode cX6_gapBut 94 = .ok (.iload 5, 2) := by decide +kernel
theorem dX6_gapBut_96 : decode cX6_gapBut 96 = .ok (.iload_n 3, 1) := by decide +kernel
theorem dX6_gapBut_97 : decode cX6_gapBut 97 = .ok (.if_icmp .eq 30, 3) := by decide +kernel
theorem dX6_gapBut_100 : decode cX6_gapBut 100 = .ok (.aload_n 0, 1) := by decide +kernel
theorem dX6_gapBut_101 : decode cX6_gapBut 101 = .ok (.getfield 7, 3) := by decide +kernel
theorem dX6_gapBut_104 : decode cX6_gapBut 104 = .ok (.iload 5, 2) := by decide +kernel
theorem dX6_gapBut_106 : decode cX6_gapBut 106 = .ok (.iconst 3, 1) := by decide +kernel
theorem dX6_gapBut_107 : decode cX6_gapBut 107 = .ok (.invokestatic 42, 3) := by decide +kernel
theorem dX6_gapBut_110 : decode cX6_gapBut 110 = .ok (.iaload, 1) := by decide +kernel
theorem dX6_gapBut_111 : decode cX6_gapBut 111 = .ok (.iconst 1, 1) := by decide +kernel
theorem dX6_gapBut_112 : decode cX6_gapBut 112 = .ok (.if_icmp .ne 15, 3) := by decide +kernel
theorem dX6_gapBut_115 : decode cX6_gapBut 115 = .ok (.iload 6, 2) := by decide +kernel
theorem dX6_gapBut_117 : decode cX6_gapBut 117 = .ok (.iload 4, 2) := by decide +kernel
theorem dX6_gapBut_119 : decode cX6_gapBut 119 = .ok (.if_icmp .ge 8, 3) := by decide +kernel
theorem dX6_gapBut_122 : decode cX6_gapBut 122 = .ok (.iload 6, 2) := by decide +kernel
theorem dX6_gapBut_124 : decode cX6_gapBut 124 = .ok (.goto 5, 3) := by decide +kernel
theorem dX6_gapBut_127 : decode cX6_gapBut 127 = .ok (.iload 4, 2) := by decide +kernel
theorem dX6_gapBut_129 : decode cX6_gapBut 129 = .ok (.istore 4, 2) := by decide +kernel
theorem dX6_gapBut_131 : decode cX6_gapBut 131 = .ok (.iinc 5 1, 3) := by decide +kernel
theorem dX6_gapBut_134 : decode cX6_gapBut 134 = .ok (.goto (-91), 3) := by decide +kernel
theorem dX6_gapBut_137 : decode cX6_gapBut 137 = .ok (.iload 4, 2) := by decide +kernel
theorem dX6_gapBut_139 : decode cX6_gapBut 139 = .ok (.iload_n 2, 1) := by decide +kernel
theorem dX6_gapBut_140 : decode cX6_gapBut 140 = .ok (.if_icmp .le 8, 3) := by decide +kernel
theorem dX6_gapBut_143 : decode cX6_gapBut 143 = .ok (.iload 4, 2) := by decide +kernel
theorem dX6_gapBut_145 : decode cX6_gapBut 145 = .ok (.goto 4, 3) := by decide +kernel
theorem dX6_gapBut_148 : decode cX6_gapBut 148 = .ok (.iload_n 2, 1) := by decide +kernel
theorem dX6_gapBut_149 : decode cX6_gapBut 149 = .ok (.istore_n 2, 1) := by decide +kernel
theorem dX6_gapBut_150 : decode cX6_gapBut 150 = .ok (.iinc 3 1, 3) := by decide +kernel
theorem dX6_gapBut_153 : decode cX6_gapBut 153 = .ok (.goto (-148), 3) := by decide +kernel
theorem dX6_gapBut_156 : decode cX6_gapBut 156 = .ok (.iload_n 2, 1) := by decide +kernel
theorem dX6_gapBut_157 : decode cX6_gapBut 157 = .ok (.ireturn, 1) := by decide +kernel
theorem dX6_longestGap_0 : decode cX6_longestGap 0 = .ok (.aload_n 0, 1) := by decide +kernel
theorem dX6_longestGap_1 : decode cX6_longestGap 1 = .ok (.getfield 7, 3) := by decide +kernel
