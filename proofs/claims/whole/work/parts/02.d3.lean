/-! decode rows, 3 of 5 -/
theorem dX5_isNoTurn_1 : decode cX5_isNoTurn 1 = .ok (.ifCond .lt 9, 3) := by decide +kernel
theorem dX5_isNoTurn_4 : decode cX5_isNoTurn 4 = .ok (.iload_n 0, 1) := by decide +kernel
theorem dX5_isNoTurn_5 : decode cX5_isNoTurn 5 = .ok (.bipush 12, 2) := by decide +kernel
theorem dX5_isNoTurn_7 : decode cX5_isNoTurn 7 = .ok (.if_icmp .lt 7, 3) := by decide +kernel
theorem dX5_isNoTurn_10 : decode cX5_isNoTurn 10 = .ok (.iconst 1, 1) := by decide +kernel
theorem dX5_isNoTurn_11 : decode cX5_isNoTurn 11 = .ok (.goto 4, 3) := by decide +kernel
theorem dX5_isNoTurn_14 : decode cX5_isNoTurn 14 = .ok (.iconst 0, 1) := by decide +kernel
theorem dX5_isNoTurn_15 : decode cX5_isNoTurn 15 = .ok (.ireturn, 1) := by decide +kernel
theorem dX5_isNoPlace_0 : decode cX5_isNoPlace 0 = .ok (.iload_n 0, 1) := by decide +kernel
theorem dX5_isNoPlace_1 : decode cX5_isNoPlace 1 = .ok (.bipush (-100), 2) := by decide +kernel
theorem dX5_isNoPlace_3 : decode cX5_isNoPlace 3 = .ok (.if_icmp .lt 9, 3) := by decide +kernel
theorem dX5_isNoPlace_6 : decode cX5_isNoPlace 6 = .ok (.iload_n 0, 1) := by decide +kernel
theorem dX5_isNoPlace_7 : decode cX5_isNoPlace 7 = .ok (.bipush 100, 2) := by decide +kernel
theorem dX5_isNoPlace_9 : decode cX5_isNoPlace 9 = .ok (.if_icmp .le 7, 3) := by decide +kernel
theorem dX5_isNoPlace_12 : decode cX5_isNoPlace 12 = .ok (.iconst 1, 1) := by decide +kernel
theorem dX5_isNoPlace_13 : decode cX5_isNoPlace 13 = .ok (.goto 4, 3) := by decide +kernel
theorem dX5_isNoPlace_16 : decode cX5_isNoPlace 16 = .ok (.iconst 0, 1) := by decide +kernel
theorem dX5_isNoPlace_17 : decode cX5_isNoPlace 17 = .ok (.ireturn, 1) := by decide +kernel
theorem dX5_isChosen_0 : decode cX5_isChosen 0 = .ok (.aload_n 0, 1) := by decide +kernel
theorem dX5_isChosen_1 : decode cX5_isChosen 1 = .ok (.getfield 10, 3) := by decide +kernel
theorem dX5_isChosen_4 : decode cX5_isChosen 4 = .ok (.getfield 111, 3) := by decide +kernel
theorem dX5_isChosen_7 : decode cX5_isChosen 7 = .ok (.iconst (-1), 1) := by decide +kernel
theorem dX5_isChosen_8 : decode cX5_isChosen 8 = .ok (.if_icmp .eq 7, 3) := by decide +kernel
theorem dX5_isChosen_11 : decode cX5_isChosen 11 = .ok (.iconst 1, 1) := by decide +kernel
theorem dX5_isChosen_12 : decode cX5_isChosen 12 = .ok (.goto 4, 3) := by decide +kernel
theorem dX5_isChosen_15 : decode cX5_isChosen 15 = .ok (.iconst 0, 1) := by decide +kernel
theorem dX5_isChosen_16 : decode cX5_isChosen 16 = .ok (.ireturn, 1) := by decide +kernel
theorem dX5_firingsChanged_0 : decode cX5_firingsChanged 0 = .ok (.aload_n 0, 1) := by decide +kernel
theorem dX5_firingsChanged_1 : decode cX5_firingsChanged 1 = .ok (.getfield 10, 3) := by decide +kernel
theorem dX5_firingsChanged_4 : decode cX5_firingsChanged 4 = .ok (.invokevirtual 239, 3) := by decide +kernel
theorem dX5_firingsChanged_7 : decode cX5_firingsChanged 7 = .ok (.aload_n 0, 1) := by decide +kernel
theorem dX5_firingsChanged_8 : decode cX5_firingsChanged 8 = .ok (.getfield 19, 3) := by decide +kernel
theorem dX5_firingsChanged_11 : decode cX5_firingsChanged 11 = .ok (.aload_n 0, 1) := by decide +kernel
theorem dX5_firingsChanged_12 : decode cX5_firingsChanged 12 = .ok (.getfield 10, 3) := by decide +kernel
theorem dX5_firingsChanged_15 : decode cX5_firingsChanged 15 = .ok (.invokevirtual 43, 3) := by decide +kernel
theorem dX5_firingsChanged_18 : decode cX5_firingsChanged 18 = .ok (.return_, 1) := by decide +kernel
theorem dX5_addUp_0 : decode cX5_addUp 0 = .ok (.iload_n 1, 1) := by decide +kernel
theorem dX5_addUp_1 : decode cX5_addUp 1 = .ok (.iconst 1, 1) := by decide +kernel
theorem dX5_addUp_2 : decode cX5_addUp 2 = .ok (.if_icmp .eq 8, 3) := by decide +kernel
theorem dX5_addUp_5 : decode cX5_addUp 5 = .ok (.iload_n 1, 1) := by decide +kernel
theorem dX5_addUp_6 : decode cX5_addUp 6 = .ok (.iconst 3, 1) := by decide +kernel
theorem dX5_addUp_7 : decode cX5_addUp 7 = .ok (.if_icmp .ne 7, 3) := by decide +kernel
theorem dX5_addUp_10 : decode cX5_addUp 10 = .ok (.iconst 1, 1) := by decide +kernel
theorem dX5_addUp_11 : decode cX5_addUp 11 = .ok (.goto 4, 3) := by decide +kernel
theorem dX5_addUp_14 : decode cX5_addUp 14 = .ok (.iconst 0, 1) := by decide +kernel
theorem dX5_addUp_15 : decode cX5_addUp 15 = .ok (.istore_n 2, 1) := by decide +kernel
theorem dX5_addUp_16 : decode cX5_addUp 16 = .ok (.iload_n 1, 1) := by decide +kernel
theorem dX5_addUp_17 : decode cX5_addUp 17 = .ok (.iconst 2, 1) := by decide +kernel
theorem dX5_addUp_18 : decode cX5_addUp 18 = .ok (.if_icmp .eq 8, 3) := by decide +kernel
theorem dX5_addUp_21 : decode cX5_addUp 21 = .ok (.iload_n 1, 1) := by decide +kernel
theorem dX5_addUp_22 : decode cX5_addUp 22 = .ok (.iconst 3, 1) := by decide +kernel
theorem dX5_addUp_23 : decode cX5_addUp 23 = .ok (.if_icmp .ne 7, 3) := by decide +kernel
theorem dX5_addUp_26 : decode cX5_addUp 26 = .ok (.iconst 1, 1) := by decide +kernel
theorem dX5_addUp_27 : decode cX5_addUp 27 = .ok (.goto 4, 3) := by decide +kernel
theorem dX5_addUp_30 : decode cX5_addUp 30 = .ok (.iconst 0, 1) := by decide +kernel
theorem dX5_addUp_31 : decode cX5_addUp 31 = .ok (.istore_n 3, 1) := by decide +kernel
theorem dX5_addUp_32 : decode cX5_addUp 32 = .ok (.aload_n 0, 1) := by decide +kernel
theorem dX5_addUp_33 : decode cX5_addUp 33 = .ok (.getfield 26, 3) := by decide +kernel
theorem dX5_addUp_36 : decode cX5_addUp 36 = .ok (.invokevirtual 242, 3) := by decide +kernel
theorem dX5_addUp_39 : decode cX5_addUp 39 = .ok (.iconst 0, 1) := by decide +kernel
theorem dX5_addUp_40 : decode cX5_addUp 40 = .ok (.istore 4, 2) := by decide +kernel
theorem dX5_addUp_42 : decode cX5_addUp 42 = .ok (.iload 4, 2) := by decide +kernel
theorem dX5_addUp_44 : decode cX5_addUp 44 = .ok (.aload_n 0, 1) := by decide +kernel
theorem dX5_addUp_45 : decode cX5_addUp 45 = .ok (.getfield 10, 3) := by decide +kernel
theorem dX5_addUp_48 : decode cX5_addUp 48 = .ok (.getfield 48, 3) := by decide +kernel
theorem dX5_addUp_51 : decode cX5_addUp 51 = .ok (.if_icmp .ge 87, 3) := by decide +kernel
theorem dX5_addUp_54 : decode cX5_addUp 54 = .ok (.iload_n 3, 1) := by decide +kernel
theorem dX5_addUp_55 : decode cX5_addUp 55 = .ok (.ifCond .eq 18, 3) := by decide +kernel
theorem dX5_addUp_58 : decode cX5_addUp 58 = .ok (.iconst 2, 1) := by decide +kernel
theorem dX5_addUp_59 : decode cX5_addUp 59 = .ok (.aload_n 0, 1) := by decide +kernel
theorem dX5_addUp_60 : decode cX5_addUp 60 = .ok (.getfield 10, 3) := by decide +kernel
theorem dX5_addUp_63 : decode cX5_addUp 63 = .ok (.getfield 70, 3) := by decide +kernel
theorem dX5_addUp_66 : decode cX5_addUp 66 = .ok (.iload 4, 2) := by decide +kernel
theorem dX5_addUp_68 : decode cX5_addUp 68 = .ok (.iaload, 1) := by decide +kernel
theorem dX5_addUp_69 : decode cX5_addUp 69 = .ok (.imul, 1) := by decide +kernel
theorem dX5_addUp_70 : decode cX5_addUp 70 = .ok (.goto 13, 3) := by decide +kernel
theorem dX5_addUp_73 : decode cX5_addUp 73 = .ok (.aload_n 0, 1) := by decide +kernel
theorem dX5_addUp_74 : decode cX5_addUp 74 = .ok (.getfield 10, 3) := by decide +kernel
theorem dX5_addUp_77 : decode cX5_addUp 77 = .ok (.getfield 70, 3) := by decide +kernel
theorem dX5_addUp_80 : decode cX5_addUp 80 = .ok (.iload 4, 2) := by decide +kernel
theorem dX5_addUp_82 : decode cX5_addUp 82 = .ok (.iaload, 1) := by decide +kernel
theorem dX5_addUp_83 : decode cX5_addUp 83 = .ok (.istore 5, 2) := by decide +kernel
theorem dX5_addUp_85 : decode cX5_addUp 85 = .ok (.aload_n 0, 1) := by decide +kernel
theorem dX5_addUp_86 : decode cX5_addUp 86 = .ok (.getfield 26, 3) := by decide +kernel
theorem dX5_addUp_89 : decode cX5_addUp 89 = .ok (.iload 5, 2) := by decide +kernel
theorem dX5_addUp_91 : decode cX5_addUp 91 = .ok (.iload_n 2, 1) := by decide +kernel
theorem dX5_addUp_92 : decode cX5_addUp 92 = .ok (.ifCond .eq 27, 3) := by decide +kernel
theorem dX5_addUp_95 : decode cX5_addUp 95 = .ok (.aload_n 0, 1) := by decide +kernel
theorem dX5_addUp_96 : decode cX5_addUp 96 = .ok (.getfield 10, 3) := by decide +kernel
theorem dX5_addUp_99 : decode cX5_addUp 99 = .ok (.getfield 74, 3) := by decide +kernel
theorem dX5_addUp_102 : decode cX5_addUp 102 = .ok (.iload 4, 2) := by decide +kernel
theorem dX5_addUp_104 : decode cX5_addUp 104 = .ok (.iaload, 1) := by decide +kernel
theorem dX5_addUp_105 : decode cX5_addUp 105 = .ok (.aload_n 0, 1) := by decide +kernel
theorem dX5_addUp_106 : decode cX5_addUp 106 = .ok (.getfield 10, 3) := by decide +kernel
theorem dX5_addUp_109 : decode cX5_addUp 109 = .ok (.getfield 80, 3) := by decide +kernel
theorem dX5_addUp_112 : decode cX5_addUp 112 = .ok (.iload 4, 2) := by decide +kernel
theorem dX5_addUp_114 : decode cX5_addUp 114 = .ok (.iaload, 1) := by decide +kernel
theorem dX5_addUp_115 : decode cX5_addUp 115 = .ok (.imul, 1) := by decide +kernel
theorem dX5_addUp_116 : decode cX5_addUp 116 = .ok (.goto 13, 3) := by decide +kernel
theorem dX5_addUp_119 : decode cX5_addUp 119 = .ok (.aload_n 0, 1) := by decide +kernel
theorem dX5_addUp_120 : decode cX5_addUp 120 = .ok (.getfield 10, 3) := by decide +kernel
theorem dX5_addUp_123 : decode cX5_addUp 123 = .ok (.getfield 74, 3) := by decide +kernel
theorem dX5_addUp_126 : decode cX5_addUp 126 = .ok (.iload 4, 2) := by decide +kernel
theorem dX5_addUp_128 : decode cX5_addUp 128 = .ok (.iaload, 1) := by decide +kernel
theorem dX5_addUp_129 : decode cX5_addUp 129 = .ok (.invokevirtual 245, 3) := by decide +kernel
theorem dX5_addUp_132 : decode cX5_addUp 132 = .ok (.iinc 4 1, 3) := by decide +kernel
theorem dX5_addUp_135 : decode cX5_addUp 135 = .ok (.goto (-93), 3) := by decide +kernel
theorem dX5_addUp_138 : decode cX5_addUp 138 = .ok (.iload_n 3, 1) := by decide +kernel
theorem dX5_addUp_139 : decode cX5_addUp 139 = .ok (.ifCond .ne 76, 3) := by decide +kernel
theorem dX5_addUp_142 : decode cX5_addUp 142 = .ok (.aload_n 0, 1) := by decide +kernel
theorem dX5_addUp_143 : decode cX5_addUp 143 = .ok (.getfield 10, 3) := by decide +kernel
theorem dX5_addUp_146 : decode cX5_addUp 146 = .ok (.getfield 83, 3) := by decide +kernel
theorem dX5_addUp_149 : decode cX5_addUp 149 = .ok (.astore 4, 2) := by decide +kernel
theorem dX5_addUp_151 : decode cX5_addUp 151 = .ok (.iconst 0, 1) := by decide +kernel
theorem dX5_addUp_152 : decode cX5_addUp 152 = .ok (.istore 5, 2) := by decide +kernel
theorem dX5_addUp_154 : decode cX5_addUp 154 = .ok (.iload 5, 2) := by decide +kernel
theorem dX5_addUp_156 : decode cX5_addUp 156 = .ok (.aload 4, 2) := by decide +kernel
theorem dX5_addUp_158 : decode cX5_addUp 158 = .ok (.getfield 93, 3) := by decide +kernel
theorem dX5_addUp_161 : decode cX5_addUp 161 = .ok (.if_icmp .ge 54, 3) := by decide +kernel
theorem dX5_addUp_164 : decode cX5_addUp 164 = .ok (.aload 4, 2) := by decide +kernel
theorem dX5_addUp_166 : decode cX5_addUp 166 = .ok (.getfield 103, 3) := by decide +kernel
theorem dX5_addUp_169 : decode cX5_addUp 169 = .ok (.iload 5, 2) := by decide +kernel
theorem dX5_addUp_171 : decode cX5_addUp 171 = .ok (.iaload, 1) := by decide +kernel
theorem dX5_addUp_172 : decode cX5_addUp 172 = .ok (.istore 6, 2) := by decide +kernel
theorem dX5_addUp_174 : decode cX5_addUp 174 = .ok (.aload_n 0, 1) := by decide +kernel
theorem dX5_addUp_175 : decode cX5_addUp 175 = .ok (.getfield 26, 3) := by decide +kernel
theorem dX5_addUp_178 : decode cX5_addUp 178 = .ok (.aload 4, 2) := by decide +kernel
theorem dX5_addUp_180 : decode cX5_addUp 180 = .ok (.getfield 102, 3) := by decide +kernel
theorem dX5_addUp_183 : decode cX5_addUp 183 = .ok (.iload 5, 2) := by decide +kernel
theorem dX5_addUp_185 : decode cX5_addUp 185 = .ok (.iaload, 1) := by decide +kernel
theorem dX5_addUp_186 : decode cX5_addUp 186 = .ok (.iload_n 2, 1) := by decide +kernel
theorem dX5_addUp_187 : decode cX5_addUp 187 = .ok (.ifCond .eq 17, 3) := by decide +kernel
theorem dX5_addUp_190 : decode cX5_addUp 190 = .ok (.iload 6, 2) := by decide +kernel
theorem dX5_addUp_192 : decode cX5_addUp 192 = .ok (.aload 4, 2) := by decide +kernel
theorem dX5_addUp_194 : decode cX5_addUp 194 = .ok (.getfield 101, 3) := by decide +kernel
theorem dX5_addUp_197 : decode cX5_addUp 197 = .ok (.iload 5, 2) := by decide +kernel
theorem dX5_addUp_199 : decode cX5_addUp 199 = .ok (.iaload, 1) := by decide +kernel
theorem dX5_addUp_200 : decode cX5_addUp 200 = .ok (.imul, 1) := by decide +kernel
theorem dX5_addUp_201 : decode cX5_addUp 201 = .ok (.goto 5, 3) := by decide +kernel
theorem dX5_addUp_204 : decode cX5_addUp 204 = .ok (.iload 6, 2) := by decide +kernel
theorem dX5_addUp_206 : decode cX5_addUp 206 = .ok (.invokevirtual 245, 3) := by decide +kernel
theorem dX5_addUp_209 : decode cX5_addUp 209 = .ok (.iinc 5 1, 3) := by decide +kernel
theorem dX5_addUp_212 : decode cX5_addUp 212 = .ok (.goto (-58), 3) := by decide +kernel
theorem dX5_addUp_215 : decode cX5_addUp 215 = .ok (.return_, 1) := by decide +kernel
theorem dX5_textTells_0 : decode cX5_textTells 0 = .ok (.aload_n 0, 1) := by decide +kernel
theorem dX5_textTells_1 : decode cX5_textTells 1 = .ok (.getfield 10, 3) := by decide +kernel
theorem dX5_textTells_4 : decode cX5_textTells 4 = .ok (.getfield 48, 3) := by decide +kernel
theorem dX5_textTells_7 : decode cX5_textTells 7 = .ok (.istore_n 2, 1) := by decide +kernel
theorem dX5_textTells_8 : decode cX5_textTells 8 = .ok (.iconst 0, 1) := by decide +kernel
theorem dX5_textTells_9 : decode cX5_textTells 9 = .ok (.istore_n 3, 1) := by decide +kernel
theorem dX5_textTells_10 : decode cX5_textTells 10 = .ok (.iconst 0, 1) := by decide +kernel
theorem dX5_textTells_11 : decode cX5_textTells 11 = .ok (.istore 4, 2) := by decide +kernel
theorem dX5_textTells_13 : decode cX5_textTells 13 = .ok (.iload 4, 2) := by decide +kernel
theorem dX5_textTells_15 : decode cX5_textTells 15 = .ok (.iload_n 2, 1) := by decide +kernel
theorem dX5_textTells_16 : decode cX5_textTells 16 = .ok (.if_icmp .ge 24, 3) := by decide +kernel
theorem dX5_textTells_19 : decode cX5_textTells 19 = .ok (.aload_n 0, 1) := by decide +kernel
theorem dX5_textTells_20 : decode cX5_textTells 20 = .ok (.getfield 33, 3) := by decide +kernel
theorem dX5_textTells_23 : decode cX5_textTells 23 = .ok (.iload 4, 2) := by decide +kernel
theorem dX5_textTells_25 : decode cX5_textTells 25 = .ok (.invokevirtual 248, 3) := by decide +kernel
theorem dX5_textTells_28 : decode cX5_textTells 28 = .ok (.ifCond .ne 6, 3) := by decide +kernel
theorem dX5_textTells_31 : decode cX5_textTells 31 = .ok (.iload 4, 2) := by decide +kernel
theorem dX5_textTells_33 : decode cX5_textTells 33 = .ok (.istore_n 3, 1) := by decide +kernel
theorem dX5_textTells_34 : decode cX5_textTells 34 = .ok (.iinc 4 1, 3) := by decide +kernel
theorem dX5_textTells_37 : decode cX5_textTells 37 = .ok (.goto (-24), 3) := by decide +kernel
theorem dX5_textTells_40 : decode cX5_textTells 40 = .ok (.iconst 0, 1) := by decide +kernel
theorem dX5_textTells_41 : decode cX5_textTells 41 = .ok (.istore 4, 2) := by decide +kernel
theorem dX5_textTells_43 : decode cX5_textTells 43 = .ok (.iload 4, 2) := by decide +kernel
theorem dX5_textTells_45 : decode cX5_textTells 45 = .ok (.iload_n 2, 1) := by decide +kernel
theorem dX5_textTells_46 : decode cX5_textTells 46 = .ok (.if_icmp .ge 56, 3) := by decide +kernel
theorem dX5_textTells_49 : decode cX5_textTells 49 = .ok (.iload_n 3, 1) := by decide +kernel
theorem dX5_textTells_50 : decode cX5_textTells 50 = .ok (.iload 4, 2) := by decide +kernel
theorem dX5_textTells_52 : decode cX5_textTells 52 = .ok (.iadd, 1) := by decide +kernel
theorem dX5_textTells_53 : decode cX5_textTells 53 = .ok (.iload_n 2, 1) := by decide +kernel
theorem dX5_textTells_54 : decode cX5_textTells 54 = .ok (.if_icmp .ge 10, 3) := by decide +kernel
theorem dX5_textTells_57 : decode cX5_textTells 57 = .ok (.iload_n 3, 1) := by decide +kernel
theorem dX5_textTells_58 : decode cX5_textTells 58 = .ok (.iload 4, 2) := by decide +kernel
theorem dX5_textTells_60 : decode cX5_textTells 60 = .ok (.iadd, 1) := by decide +kernel
theorem dX5_textTells_61 : decode cX5_textTells 61 = .ok (.goto 9, 3) := by decide +kernel
theorem dX5_textTells_64 : decode cX5_textTells 64 = .ok (.iload_n 3, 1) := by decide +kernel
theorem dX5_textTells_65 : decode cX5_textTells 65 = .ok (.iload 4, 2) := by decide +kernel
theorem dX5_textTells_67 : decode cX5_textTells 67 = .ok (.iadd, 1) := by decide +kernel
theorem dX5_textTells_68 : decode cX5_textTells 68 = .ok (.iload_n 2, 1) := by decide +kernel
theorem dX5_textTells_69 : decode cX5_textTells 69 = .ok (.isub, 1) := by decide +kernel
theorem dX5_textTells_70 : decode cX5_textTells 70 = .ok (.istore 5, 2) := by decide +kernel
theorem dX5_textTells_72 : decode cX5_textTells 72 = .ok (.aload_n 0, 1) := by decide +kernel
theorem dX5_textTells_73 : decode cX5_textTells 73 = .ok (.getfield 33, 3) := by decide +kernel
theorem dX5_textTells_76 : decode cX5_textTells 76 = .ok (.iload 5, 2) := by decide +kernel
theorem dX5_textTells_78 : decode cX5_textTells 78 = .ok (.invokevirtual 248, 3) := by decide +kernel
theorem dX5_textTells_81 : decode cX5_textTells 81 = .ok (.aload_n 0, 1) := by decide +kernel
theorem dX5_textTells_82 : decode cX5_textTells 82 = .ok (.getfield 19, 3) := by decide +kernel
theorem dX5_textTells_85 : decode cX5_textTells 85 = .ok (.iload_n 1, 1) := by decide +kernel
theorem dX5_textTells_86 : decode cX5_textTells 86 = .ok (.iload 4, 2) := by decide +kernel
theorem dX5_textTells_88 : decode cX5_textTells 88 = .ok (.invokevirtual 140, 3) := by decide +kernel
theorem dX5_textTells_91 : decode cX5_textTells 91 = .ok (.if_icmp .eq 5, 3) := by decide +kernel
theorem dX5_textTells_94 : decode cX5_textTells 94 = .ok (.iconst 0, 1) := by decide +kernel
theorem dX5_textTells_95 : decode cX5_textTells 95 = .ok (.ireturn, 1) := by decide +kernel
theorem dX5_textTells_96 : decode cX5_textTells 96 = .ok (.iinc 4 1, 3) := by decide +kernel
theorem dX5_textTells_99 : decode cX5_textTells 99 = .ok (.goto (-56), 3) := by decide +kernel
theorem dX5_textTells_102 : decode cX5_textTells 102 = .ok (.iconst 1, 1) := by decide +kernel
theorem dX5_textTells_103 : decode cX5_textTells 103 = .ok (.ireturn, 1) := by decide +kernel
theorem dX6_init_0 : decode cX6_init 0 = .ok (.aload_n 0, 1) := by decide +kernel
theorem dX6_init_1 : decode cX6_init 1 = .ok (.invokespecial 1, 3) := by decide +kernel
theorem dX6_init_4 : decode cX6_init 4 = .ok (.aload_n 0, 1) := by decide +kernel
theorem dX6_init_5 : decode cX6_init 5 = .ok (.bipush 68, 2) := by decide +kernel
theorem dX6_init_7 : decode cX6_init 7 = .ok (.newarray .int, 2) := by decide +kernel
theorem dX6_init_9 : decode cX6_init 9 = .ok (.putfield 7, 3) := by decide +kernel
theorem dX6_init_12 : decode cX6_init 12 = .ok (.aload_n 0, 1) := by decide +kernel
theorem dX6_init_13 : decode cX6_init 13 = .ok (.sipush 136, 3) := by decide +kernel
theorem dX6_init_16 : decode cX6_init 16 = .ok (.newarray .int, 2) := by decide +kernel
theorem dX6_init_18 : decode cX6_init 18 = .ok (.putfield 13, 3) := by decide +kernel
theorem dX6_init_21 : decode cX6_init 21 = .ok (.aload_n 0, 1) := by decide +kernel
theorem dX6_init_22 : decode cX6_init 22 = .ok (.iconst 2, 1) := by decide +kernel
theorem dX6_init_23 : decode cX6_init 23 = .ok (.newarray .boolean, 2) := by decide +kernel
theorem dX6_init_25 : decode cX6_init 25 = .ok (.putfield 16, 3) := by decide +kernel
theorem dX6_init_28 : decode cX6_init 28 = .ok (.aload_n 0, 1) := by decide +kernel
theorem dX6_init_29 : decode cX6_init 29 = .ok (.bipush 40, 2) := by decide +kernel
theorem dX6_init_31 : decode cX6_init 31 = .ok (.newarray .int, 2) := by decide +kernel
theorem dX6_init_33 : decode cX6_init 33 = .ok (.putfield 20, 3) := by decide +kernel
theorem dX6_init_36 : decode cX6_init 36 = .ok (.aload_n 0, 1) := by decide +kernel
theorem dX6_init_37 : decode cX6_init 37 = .ok (.bipush 12, 2) := by decide +kernel
theorem dX6_init_39 : decode cX6_init 39 = .ok (.newarray .int, 2) := by decide +kernel
theorem dX6_init_41 : decode cX6_init 41 = .ok (.dup, 1) := by decide +kernel
theorem dX6_init_42 : decode cX6_init 42 = .ok (.iconst 0, 1) := by decide +kernel
theorem dX6_init_43 : decode cX6_init 43 = .ok (.iconst 2, 1) := by decide +kernel
theorem dX6_init_44 : decode cX6_init 44 = .ok (.iastore, 1) := by decide +kernel
theorem dX6_init_45 : decode cX6_init 45 = .ok (.dup, 1) := by decide +kernel
theorem dX6_init_46 : decode cX6_init 46 = .ok (.iconst 1, 1) := by decide +kernel
theorem dX6_init_47 : decode cX6_init 47 = .ok (.iconst 0, 1) := by decide +kernel
theorem dX6_init_48 : decode cX6_init 48 = .ok (.iastore, 1) := by decide +kernel
theorem dX6_init_49 : decode cX6_init 49 = .ok (.dup, 1) := by decide +kernel
theorem dX6_init_50 : decode cX6_init 50 = .ok (.iconst 2, 1) := by decide +kernel
theorem dX6_init_51 : decode cX6_init 51 = .ok (.iconst 1, 1) := by decide +kernel
theorem dX6_init_52 : decode cX6_init 52 = .ok (.iastore, 1) := by decide +kernel
theorem dX6_init_53 : decode cX6_init 53 = .ok (.dup, 1) := by decide +kernel
theorem dX6_init_54 : decode cX6_init 54 = .ok (.iconst 3, 1) := by decide +kernel
theorem dX6_init_55 : decode cX6_init 55 = .ok (.iconst 0, 1) := by decide +kernel
theorem dX6_init_56 : decode cX6_init 56 = .ok (.iastore, 1) := by decide +kernel
theorem dX6_init_57 : decode cX6_init 57 = .ok (.dup, 1) := by decide +kernel
theorem dX6_init_58 : decode cX6_init 58 = .ok (.iconst 4, 1) := by decide +kernel
theorem dX6_init_59 : decode cX6_init 59 = .ok (.iconst (-1), 1) := by decide +kernel
theorem dX6_init_60 : decode cX6_init 60 = .ok (.iastore, 1) := by decide +kernel
theorem dX6_init_61 : decode cX6_init 61 = .ok (.dup, 1) := by decide +kernel
theorem dX6_init_62 : decode cX6_init 62 = .ok (.iconst 5, 1) := by decide +kernel
theorem dX6_init_63 : decode cX6_init 63 = .ok (.iconst 0, 1) := by decide +kernel
theorem dX6_init_64 : decode cX6_init 64 = .ok (.iastore, 1) := by decide +kernel
theorem dX6_init_65 : decode cX6_init 65 = .ok (.dup, 1) := by decide +kernel
theorem dX6_init_66 : decode cX6_init 66 = .ok (.bipush 6, 2) := by decide +kernel
theorem dX6_init_68 : decode cX6_init 68 = .ok (.bipush (-2), 2) := by decide +kernel
theorem dX6_init_70 : decode cX6_init 70 = .ok (.iastore, 1) := by decide +kernel
theorem dX6_init_71 : decode cX6_init 71 = .ok (.dup, 1) := by decide +kernel
theorem dX6_init_72 : decode cX6_init 72 = .ok (.bipush 7, 2) := by decide +kernel
theorem dX6_init_74 : decode cX6_init 74 = .ok (.iconst 0, 1) := by decide +kernel
theorem dX6_init_75 : decode cX6_init 75 = .ok (.iastore, 1) := by decide +kernel
theorem dX6_init_76 : decode cX6_init 76 = .ok (.dup, 1) := by decide +kernel
theorem dX6_init_77 : decode cX6_init 77 = .ok (.bipush 8, 2) := by decide +kernel
theorem dX6_init_79 : decode cX6_init 79 = .ok (.iconst (-1), 1) := by decide +kernel
theorem dX6_init_80 : decode cX6_init 80 = .ok (.iastore, 1) := by decide +kernel
theorem dX6_init_81 : decode cX6_init 81 = .ok (.dup, 1) := by decide +kernel
theorem dX6_init_82 : decode cX6_init 82 = .ok (.bipush 9, 2) := by decide +kernel
theorem dX6_init_84 : decode cX6_init 84 = .ok (.iconst 0, 1) := by decide +kernel
theorem dX6_init_85 : decode cX6_init 85 = .ok (.iastore, 1) := by decide +kernel
theorem dX6_init_86 : decode cX6_init 86 = .ok (.dup, 1) := by decide +kernel
theorem dX6_init_87 : decode cX6_init 87 = .ok (.bipush 10, 2) := by decide +kernel
theorem dX6_init_89 : decode cX6_init 89 = .ok (.iconst 1, 1) := by decide +kernel
theorem dX6_init_90 : decode cX6_init 90 = .ok (.iastore, 1) := by decide +kernel
theorem dX6_init_91 : decode cX6_init 91 = .ok (.dup, 1) := by decide +kernel
theorem dX6_init_92 : decode cX6_init 92 = .ok (.bipush 11, 2) := by decide +kernel
theorem dX6_init_94 : decode cX6_init 94 = .ok (.iconst 0, 1) := by decide +kernel
theorem dX6_init_95 : decode cX6_init 95 = .ok (.iastore, 1) := by decide +kernel
theorem dX6_init_96 : decode cX6_init 96 = .ok (.putfield 23, 3) := by decide +kernel
theorem dX6_init_99 : decode cX6_init 99 = .ok (.aload_n 0, 1) := by decide +kernel
theorem dX6_init_100 : decode cX6_init 100 = .ok (.bipush 12, 2) := by decide +kernel
theorem dX6_init_102 : decode cX6_init 102 = .ok (.newarray .int, 2) := by decide +kernel
theorem dX6_init_104 : decode cX6_init 104 = .ok (.dup, 1) := by decide +kernel
theorem dX6_init_105 : decode cX6_init 105 = .ok (.iconst 0, 1) := by decide +kernel
theorem dX6_init_106 : decode cX6_init 106 = .ok (.iconst 0, 1) := by decide +kernel
theorem dX6_init_107 : decode cX6_init 107 = .ok (.iastore, 1) := by decide +kernel
theorem dX6_init_108 : decode cX6_init 108 = .ok (.dup, 1) := by decide +kernel
theorem dX6_init_109 : decode cX6_init 109 = .ok (.iconst 1, 1) := by decide +kernel
theorem dX6_init_110 : decode cX6_init 110 = .ok (.iconst 1, 1) := by decide +kernel
theorem dX6_init_111 : decode cX6_init 111 = .ok (.iastore, 1) := by decide +kernel
theorem dX6_init_112 : decode cX6_init 112 = .ok (.dup, 1) := by decide +kernel
theorem dX6_init_113 : decode cX6_init 113 = .ok (.iconst 2, 1) := by decide +kernel
theorem dX6_init_114 : decode cX6_init 114 = .ok (.iconst 0, 1) := by decide +kernel
theorem dX6_init_115 : decode cX6_init 115 = .ok (.iastore, 1) := by decide +kernel
theorem dX6_init_116 : decode cX6_init 116 = .ok (.dup, 1) := by decide +kernel
theorem dX6_init_117 : decode cX6_init 117 = .ok (.iconst 3, 1) := by decide +kernel
theorem dX6_init_118 : decode cX6_init 118 = .ok (.iconst 0, 1) := by decide +kernel
theorem dX6_init_119 : decode cX6_init 119 = .ok (.iastore, 1) := by decide +kernel
theorem dX6_init_120 : decode cX6_init 120 = .ok (.dup, 1) := by decide +kernel
theorem dX6_init_121 : decode cX6_init 121 = .ok (.iconst 4, 1) := by decide +kernel
theorem dX6_init_122 : decode cX6_init 122 = .ok (.iconst 0, 1) := by decide +kernel
theorem dX6_init_123 : decode cX6_init 123 = .ok (.iastore, 1) := by decide +kernel
theorem dX6_init_124 : decode cX6_init 124 = .ok (.dup, 1) := by decide +kernel
theorem dX6_init_125 : decode cX6_init 125 = .ok (.iconst 5, 1) := by decide +kernel
theorem dX6_init_126 : decode cX6_init 126 = .ok (.iconst (-1), 1) := by decide +kernel
theorem dX6_init_127 : decode cX6_init 127 = .ok (.iastore, 1) := by decide +kernel
theorem dX6_init_128 : decode cX6_init 128 = .ok (.dup, 1) := by decide +kernel
theorem dX6_init_129 : decode cX6_init 129 = .ok (.bipush 6, 2) := by decide +kernel
theorem dX6_init_131 : decode cX6_init 131 = .ok (.iconst 0, 1) := by decide +kernel
theorem dX6_init_132 : decode cX6_init 132 = .ok (.iastore, 1) := by decide +kernel
theorem dX6_init_133 : decode cX6_init 133 = .ok (.dup, 1) := by decide +kernel
theorem dX6_init_134 : decode cX6_init 134 = .ok (.bipush 7, 2) := by decide +kernel
theorem dX6_init_136 : decode cX6_init 136 = .ok (.iconst (-1), 1) := by decide +kernel
theorem dX6_init_137 : decode cX6_init 137 = .ok (.iastore, 1) := by decide +kernel
theorem dX6_init_138 : decode cX6_init 138 = .ok (.dup, 1) := by decide +kernel
theorem dX6_init_139 : decode cX6_init 139 = .ok (.bipush 8, 2) := by decide +kernel
theorem dX6_init_141 : decode cX6_init 141 = .ok (.iconst 0, 1) := by decide +kernel
theorem dX6_init_142 : decode cX6_init 142 = .ok (.iastore, 1) := by decide +kernel
theorem dX6_init_143 : decode cX6_init 143 = .ok (.dup, 1) := by decide +kernel
theorem dX6_init_144 : decode cX6_init 144 = .ok (.bipush 9, 2) := by decide +kernel
theorem dX6_init_146 : decode cX6_init 146 = .ok (.iconst 0, 1) := by decide +kernel
theorem dX6_init_147 : decode cX6_init 147 = .ok (.iastore, 1) := by decide +kernel
theorem dX6_init_148 : decode cX6_init 148 = .ok (.dup, 1) := by decide +kernel
theorem dX6_init_149 : decode cX6_init 149 = .ok (.bipush 10, 2) := by decide +kernel
theorem dX6_init_151 : decode cX6_init 151 = .ok (.iconst 0, 1) := by decide +kernel
theorem dX6_init_152 : decode cX6_init 152 = .ok (.iastore, 1) := by decide +kernel
theorem dX6_init_153 : decode cX6_init 153 = .ok (.dup, 1) := by decide +kernel
theorem dX6_init_154 : decode cX6_init 154 = .ok (.bipush 11, 2) := by decide +kernel
theorem dX6_init_156 : decode cX6_init 156 = .ok (.iconst 1, 1) := by decide +kernel
theorem dX6_init_157 : decode cX6_init 157 = .ok (.iastore, 1) := by decide +kernel
theorem dX6_init_158 : decode cX6_init 158 = .ok (.putfield 26, 3) := by decide +kernel
theorem dX6_init_161 : decode cX6_init 161 = .ok (.aload_n 0, 1) := by decide +kernel
theorem dX6_init_162 : decode cX6_init 162 = .ok (.iconst 4, 1) := by decide +kernel
theorem dX6_init_163 : decode cX6_init 163 = .ok (.newarray .int, 2) := by decide +kernel
theorem dX6_init_165 : decode cX6_init 165 = .ok (.putfield 29, 3) := by decide +kernel
theorem dX6_init_168 : decode cX6_init 168 = .ok (.aload_n 0, 1) := by decide +kernel
theorem dX6_init_169 : decode cX6_init 169 = .ok (.sipush 128, 3) := by decide +kernel
theorem dX6_init_172 : decode cX6_init 172 = .ok (.newarray .int, 2) := by decide +kernel
theorem dX6_init_174 : decode cX6_init 174 = .ok (.putfield 32, 3) := by decide +kernel
theorem dX6_init_177 : decode cX6_init 177 = .ok (.aload_n 0, 1) := by decide +kernel
theorem dX6_init_178 : decode cX6_init 178 = .ok (.bipush 8, 2) := by decide +kernel
theorem dX6_init_180 : decode cX6_init 180 = .ok (.newarray .int, 2) := by decide +kernel
theorem dX6_init_182 : decode cX6_init 182 = .ok (.putfield 35, 3) := by decide +kernel
theorem dX6_init_185 : decode cX6_init 185 = .ok (.aload_n 0, 1) := by decide +kernel
theorem dX6_init_186 : decode cX6_init 186 = .ok (.getfield 7, 3) := by decide +kernel
theorem dX6_init_189 : decode cX6_init 189 = .ok (.iconst 1, 1) := by decide +kernel
theorem dX6_init_190 : decode cX6_init 190 = .ok (.iconst 4, 1) := by decide +kernel
theorem dX6_init_191 : decode cX6_init 191 = .ok (.iastore, 1) := by decide +kernel
theorem dX6_init_192 : decode cX6_init 192 = .ok (.aload_n 0, 1) := by decide +kernel
theorem dX6_init_193 : decode cX6_init 193 = .ok (.iconst 4, 1) := by decide +kernel
theorem dX6_init_194 : decode cX6_init 194 = .ok (.invokevirtual 38, 3) := by decide +kernel
theorem dX6_init_197 : decode cX6_init 197 = .ok (.return_, 1) := by decide +kernel
theorem dX6_in_0 : decode cX6_in 0 = .ok (.iload_n 0, 1) := by decide +kernel
theorem dX6_in_1 : decode cX6_in 1 = .ok (.iload_n 1, 1) := by decide +kernel
theorem dX6_in_2 : decode cX6_in 2 = .ok (.if_icmp .lt 12, 3) := by decide +kernel
theorem dX6_in_5 : decode cX6_in 5 = .ok (.iload_n 0, 1) := by decide +kernel
theorem dX6_in_6 : decode cX6_in 6 = .ok (.iload_n 2, 1) := by decide +kernel
theorem dX6_in_7 : decode cX6_in 7 = .ok (.if_icmp .gt 7, 3) := by decide +kernel
theorem dX6_in_10 : decode cX6_in 10 = .ok (.iconst 1, 1) := by decide +kernel
theorem dX6_in_11 : decode cX6_in 11 = .ok (.goto 4, 3) := by decide +kernel
theorem dX6_in_14 : decode cX6_in 14 = .ok (.iconst 0, 1) := by decide +kernel
theorem dX6_in_15 : decode cX6_in 15 = .ok (.ireturn, 1) := by decide +kernel
theorem dX6_at_0 : decode cX6_at 0 = .ok (.iconst 4, 1) := by decide +kernel
theorem dX6_at_1 : decode cX6_at 1 = .ok (.iconst 5, 1) := by decide +kernel
theorem dX6_at_2 : decode cX6_at 2 = .ok (.iload_n 0, 1) := by decide +kernel
theorem dX6_at_3 : decode cX6_at 3 = .ok (.imul, 1) := by decide +kernel
theorem dX6_at_4 : decode cX6_at 4 = .ok (.iadd, 1) := by decide +kernel
theorem dX6_at_5 : decode cX6_at 5 = .ok (.iload_n 1, 1) := by decide +kernel
theorem dX6_at_6 : decode cX6_at 6 = .ok (.iadd, 1) := by decide +kernel
theorem dX6_at_7 : decode cX6_at 7 = .ok (.ireturn, 1) := by decide +kernel
theorem dX6_puts_0 : decode cX6_puts 0 = .ok (.aload_n 0, 1) := by decide +kernel
theorem dX6_puts_1 : decode cX6_puts 1 = .ok (.getfield 7, 3) := by decide +kernel
theorem dX6_puts_4 : decode cX6_puts 4 = .ok (.iload_n 1, 1) := by decide +kernel
theorem dX6_puts_5 : decode cX6_puts 5 = .ok (.iaload, 1) := by decide +kernel
theorem dX6_puts_6 : decode cX6_puts 6 = .ok (.istore_n 3, 1) := by decide +kernel
theorem dX6_puts_7 : decode cX6_puts 7 = .ok (.aload_n 0, 1) := by decide +kernel
theorem dX6_puts_8 : decode cX6_puts 8 = .ok (.getfield 7, 3) := by decide +kernel
theorem dX6_puts_11 : decode cX6_puts 11 = .ok (.iload_n 1, 1) := by decide +kernel
theorem dX6_puts_12 : decode cX6_puts 12 = .ok (.iload_n 2, 1) := by decide +kernel
theorem dX6_puts_13 : decode cX6_puts 13 = .ok (.iastore, 1) := by decide +kernel
theorem dX6_puts_14 : decode cX6_puts 14 = .ok (.iload_n 3, 1) := by decide +kernel
theorem dX6_puts_15 : decode cX6_puts 15 = .ok (.ireturn, 1) := by decide +kernel
theorem dX6_lays_0 : decode cX6_lays 0 = .ok (.aload_n 0, 1) := by decide +kernel
theorem dX6_lays_1 : decode cX6_lays 1 = .ok (.getfield 7, 3) := by decide +kernel
theorem dX6_lays_4 : decode cX6_lays 4 = .ok (.iconst 0, 1) := by decide +kernel
theorem dX6_lays_5 : decode cX6_lays 5 = .ok (.iload_n 1, 1) := by decide +kernel
theorem dX6_lays_6 : decode cX6_lays 6 = .ok (.iastore, 1) := by decide +kernel
theorem dX6_lays_7 : decode cX6_lays 7 = .ok (.iconst 0, 1) := by decide +kernel
theorem dX6_lays_8 : decode cX6_lays 8 = .ok (.istore_n 2, 1) := by decide +kernel
theorem dX6_lays_9 : decode cX6_lays 9 = .ok (.iload_n 2, 1) := by decide +kernel
theorem dX6_lays_10 : decode cX6_lays 10 = .ok (.bipush 8, 2) := by decide +kernel
theorem dX6_lays_12 : decode cX6_lays 12 = .ok (.if_icmp .ge 46, 3) := by decide +kernel
theorem dX6_lays_15 : decode cX6_lays 15 = .ok (.aload_n 0, 1) := by decide +kernel
theorem dX6_lays_16 : decode cX6_lays 16 = .ok (.getfield 7, 3) := by decide +kernel
theorem dX6_lays_19 : decode cX6_lays 19 = .ok (.iload_n 2, 1) := by decide +kernel
theorem dX6_lays_20 : decode cX6_lays 20 = .ok (.iconst 0, 1) := by decide +kernel
theorem dX6_lays_21 : decode cX6_lays 21 = .ok (.invokestatic 42, 3) := by decide +kernel
theorem dX6_lays_24 : decode cX6_lays 24 = .ok (.iconst 0, 1) := by decide +kernel
theorem dX6_lays_25 : decode cX6_lays 25 = .ok (.iastore, 1) := by decide +kernel
theorem dX6_lays_26 : decode cX6_lays 26 = .ok (.aload_n 0, 1) := by decide +kernel
theorem dX6_lays_27 : decode cX6_lays 27 = .ok (.getfield 7, 3) := by decide +kernel
theorem dX6_lays_30 : decode cX6_lays 30 = .ok (.iload_n 2, 1) := by decide +kernel
theorem dX6_lays_31 : decode cX6_lays 31 = .ok (.iconst 1, 1) := by decide +kernel
theorem dX6_lays_32 : decode cX6_lays 32 = .ok (.invokestatic 42, 3) := by decide +kernel
theorem dX6_lays_35 : decode cX6_lays 35 = .ok (.bipush 10, 2) := by decide +kernel
theorem dX6_lays_37 : decode cX6_lays 37 = .ok (.iastore, 1) := by decide +kernel
theorem dX6_lays_38 : decode cX6_lays 38 = .ok (.aload_n 0, 1) := by decide +kernel
theorem dX6_lays_39 : decode cX6_lays 39 = .ok (.getfield 7, 3) := by decide +kernel
theorem dX6_lays_42 : decode cX6_lays 42 = .ok (.iload_n 2, 1) := by decide +kernel
theorem dX6_lays_43 : decode cX6_lays 43 = .ok (.iconst 2, 1) := by decide +kernel
theorem dX6_lays_44 : decode cX6_lays 44 = .ok (.invokestatic 42, 3) := by decide +kernel
theorem dX6_lays_47 : decode cX6_lays 47 = .ok (.bipush 10, 2) := by decide +kernel
theorem dX6_lays_49 : decode cX6_lays 49 = .ok (.iload_n 2, 1) := by decide +kernel
theorem dX6_lays_50 : decode cX6_lays 50 = .ok (.imul, 1) := by decide +kernel
theorem dX6_lays_51 : decode cX6_lays 51 = .ok (.iastore, 1) := by decide +kernel
theorem dX6_lays_52 : decode cX6_lays 52 = .ok (.iinc 2 1, 3) := by decide +kernel
theorem dX6_lays_55 : decode cX6_lays 55 = .ok (.goto (-46), 3) := by decide +kernel
theorem dX6_lays_58 : decode cX6_lays 58 = .ok (.aload_n 0, 1) := by decide +kernel
theorem dX6_lays_59 : decode cX6_lays 59 = .ok (.iconst 0, 1) := by decide +kernel
theorem dX6_lays_60 : decode cX6_lays 60 = .ok (.invokevirtual 46, 3) := by decide +kernel
theorem dX6_lays_63 : decode cX6_lays 63 = .ok (.return_, 1) := by decide +kernel
theorem dX6_chooses_0 : decode cX6_chooses 0 = .ok (.aload_n 0, 1) := by decide +kernel
theorem dX6_chooses_1 : decode cX6_chooses 1 = .ok (.getfield 7, 3) := by decide +kernel
theorem dX6_chooses_4 : decode cX6_chooses 4 = .ok (.iconst 2, 1) := by decide +kernel
theorem dX6_chooses_5 : decode cX6_chooses 5 = .ok (.iload_n 1, 1) := by decide +kernel
theorem dX6_chooses_6 : decode cX6_chooses 6 = .ok (.iastore, 1) := by decide +kernel
theorem dX6_chooses_7 : decode cX6_chooses 7 = .ok (.iconst 0, 1) := by decide +kernel
theorem dX6_chooses_8 : decode cX6_chooses 8 = .ok (.istore_n 2, 1) := by decide +kernel
theorem dX6_chooses_9 : decode cX6_chooses 9 = .ok (.iload_n 2, 1) := by decide +kernel
theorem dX6_chooses_10 : decode cX6_chooses 10 = .ok (.bipush 8, 2) := by decide +kernel
theorem dX6_chooses_12 : decode cX6_chooses 12 = .ok (.if_icmp .ge 36, 3) := by decide +kernel
theorem dX6_chooses_15 : decode cX6_chooses 15 = .ok (.iload_n 1, 1) := by decide +kernel
theorem dX6_chooses_16 : decode cX6_chooses 16 = .ok (.ifCond .ne 32, 3) := by decide +kernel
theorem dX6_chooses_19 : decode cX6_chooses 19 = .ok (.aload_n 0, 1) := by decide +kernel
theorem dX6_chooses_20 : decode cX6_chooses 20 = .ok (.getfield 7, 3) := by decide +kernel
theorem dX6_chooses_23 : decode cX6_chooses 23 = .ok (.iload_n 2, 1) := by decide +kernel
theorem dX6_chooses_24 : decode cX6_chooses 24 = .ok (.iconst 3, 1) := by decide +kernel
theorem dX6_chooses_25 : decode cX6_chooses 25 = .ok (.invokestatic 42, 3) := by decide +kernel
theorem dX6_chooses_28 : decode cX6_chooses 28 = .ok (.iconst 1, 1) := by decide +kernel
theorem dX6_chooses_29 : decode cX6_chooses 29 = .ok (.iastore, 1) := by decide +kernel
theorem dX6_chooses_30 : decode cX6_chooses 30 = .ok (.aload_n 0, 1) := by decide +kernel
theorem dX6_chooses_31 : decode cX6_chooses 31 = .ok (.getfield 7, 3) := by decide +kernel
theorem dX6_chooses_34 : decode cX6_chooses 34 = .ok (.iload_n 2, 1) := by decide +kernel
theorem dX6_chooses_35 : decode cX6_chooses 35 = .ok (.iconst 4, 1) := by decide +kernel
theorem dX6_chooses_36 : decode cX6_chooses 36 = .ok (.invokestatic 42, 3) := by decide +kernel
theorem dX6_chooses_39 : decode cX6_chooses 39 = .ok (.ldc 49, 2) := by decide +kernel
theorem dX6_chooses_41 : decode cX6_chooses 41 = .ok (.iastore, 1) := by decide +kernel
theorem dX6_chooses_42 : decode cX6_chooses 42 = .ok (.iinc 2 1, 3) := by decide +kernel
theorem dX6_chooses_45 : decode cX6_chooses 45 = .ok (.goto (-36), 3) := by decide +kernel
theorem dX6_chooses_48 : decode cX6_chooses 48 = .ok (.return_, 1) := by decide +kernel
theorem dX6_isCylinder_0 : decode cX6_isCylinder 0 = .ok (.iload_n 1, 1) := by decide +kernel
theorem dX6_isCylinder_1 : decode cX6_isCylinder 1 = .ok (.iconst 0, 1) := by decide +kernel
theorem dX6_isCylinder_2 : decode cX6_isCylinder 2 = .ok (.aload_n 0, 1) := by decide +kernel
theorem dX6_isCylinder_3 : decode cX6_isCylinder 3 = .ok (.getfield 7, 3) := by decide +kernel
theorem dX6_isCylinder_6 : decode cX6_isCylinder 6 = .ok (.iconst 0, 1) := by decide +kernel
theorem dX6_isCylinder_7 : decode cX6_isCylinder 7 = .ok (.iaload, 1) := by decide +kernel
theorem dX6_isCylinder_8 : decode cX6_isCylinder 8 = .ok (.iconst 1, 1) := by decide +kernel
theorem dX6_isCylinder_9 : decode cX6_isCylinder 9 = .ok (.isub, 1) := by decide +kernel
theorem dX6_isCylinder_10 : decode cX6_isCylinder 10 = .ok (.invokestatic 50, 3) := by decide +kernel
theorem dX6_isCylinder_13 : decode cX6_isCylinder 13 = .ok (.ireturn, 1) := by decide +kernel
theorem dX6_setCylinders_0 : decode cX6_setCylinders 0 = .ok (.iload_n 1, 1) := by decide +kernel
theorem dX6_setCylinders_1 : decode cX6_setCylinders 1 = .ok (.iconst 1, 1) := by decide +kernel
theorem dX6_setCylinders_2 : decode cX6_setCylinders 2 = .ok (.bipush 8, 2) := by decide +kernel
theorem dX6_setCylinders_4 : decode cX6_setCylinders 4 = .ok (.invokestatic 50, 3) := by decide +kernel
theorem dX6_setCylinders_7 : decode cX6_setCylinders 7 = .ok (.ifCond .ne 6, 3) := by decide +kernel
theorem dX6_setCylinders_10 : decode cX6_setCylinders 10 = .ok (.ldc 54, 2) := by decide +kernel
theorem dX6_setCylinders_12 : decode cX6_setCylinders 12 = .ok (.ireturn, 1) := by decide +kernel
theorem dX6_setCylinders_13 : decode cX6_setCylinders 13 = .ok (.aload_n 0, 1) := by decide +kernel
theorem dX6_setCylinders_14 : decode cX6_setCylinders 14 = .ok (.getfield 7, 3) := by decide +kernel
theorem dX6_setCylinders_17 : decode cX6_setCylinders 17 = .ok (.iconst 0, 1) := by decide +kernel
theorem dX6_setCylinders_18 : decode cX6_setCylinders 18 = .ok (.iaload, 1) := by decide +kernel
theorem dX6_setCylinders_19 : decode cX6_setCylinders 19 = .ok (.istore_n 2, 1) := by decide +kernel
theorem dX6_setCylinders_20 : decode cX6_setCylinders 20 = .ok (.aload_n 0, 1) := by decide +kernel
theorem dX6_setCylinders_21 : decode cX6_setCylinders 21 = .ok (.iload_n 1, 1) := by decide +kernel
theorem dX6_setCylinders_22 : decode cX6_setCylinders 22 = .ok (.invokevirtual 38, 3) := by decide +kernel
theorem dX6_setCylinders_25 : decode cX6_setCylinders 25 = .ok (.iload_n 2, 1) := by decide +kernel
theorem dX6_setCylinders_26 : decode cX6_setCylinders 26 = .ok (.ireturn, 1) := by decide +kernel
theorem dX6_setStrokes_0 : decode cX6_setStrokes 0 = .ok (.iload_n 1, 1) := by decide +kernel
theorem dX6_setStrokes_1 : decode cX6_setStrokes 1 = .ok (.iconst 2, 1) := by decide +kernel
theorem dX6_setStrokes_2 : decode cX6_setStrokes 2 = .ok (.if_icmp .eq 11, 3) := by decide +kernel
theorem dX6_setStrokes_5 : decode cX6_setStrokes 5 = .ok (.iload_n 1, 1) := by decide +kernel
theorem dX6_setStrokes_6 : decode cX6_setStrokes 6 = .ok (.iconst 4, 1) := by decide +kernel
theorem dX6_setStrokes_7 : decode cX6_setStrokes 7 = .ok (.if_icmp .eq 6, 3) := by decide +kernel
theorem dX6_setStrokes_10 : decode cX6_setStrokes 10 = .ok (.ldc 54, 2) := by decide +kernel
theorem dX6_setStrokes_12 : decode cX6_setStrokes 12 = .ok (.ireturn, 1) := by decide +kernel
theorem dX6_setStrokes_13 : decode cX6_setStrokes 13 = .ok (.aload_n 0, 1) := by decide +kernel
theorem dX6_setStrokes_14 : decode cX6_setStrokes 14 = .ok (.iconst 0, 1) := by decide +kernel
theorem dX6_setStrokes_15 : decode cX6_setStrokes 15 = .ok (.invokevirtual 46, 3) := by decide +kernel
theorem dX6_setStrokes_18 : decode cX6_setStrokes 18 = .ok (.aload_n 0, 1) := by decide +kernel
theorem dX6_setStrokes_19 : decode cX6_setStrokes 19 = .ok (.iconst 1, 1) := by decide +kernel
theorem dX6_setStrokes_20 : decode cX6_setStrokes 20 = .ok (.iload_n 1, 1) := by decide +kernel
theorem dX6_setStrokes_21 : decode cX6_setStrokes 21 = .ok (.invokevirtual 55, 3) := by decide +kernel
theorem dX6_setStrokes_24 : decode cX6_setStrokes 24 = .ok (.ireturn, 1) := by decide +kernel
theorem dX6_setThrow_0 : decode cX6_setThrow 0 = .ok (.aload_n 0, 1) := by decide +kernel
theorem dX6_setThrow_1 : decode cX6_setThrow 1 = .ok (.iload_n 1, 1) := by decide +kernel
theorem dX6_setThrow_2 : decode cX6_setThrow 2 = .ok (.invokevirtual 58, 3) := by decide +kernel
theorem dX6_setThrow_5 : decode cX6_setThrow 5 = .ok (.ifCond .ne 6, 3) := by decide +kernel
theorem dX6_setThrow_8 : decode cX6_setThrow 8 = .ok (.ldc 62, 2) := by decide +kernel
theorem dX6_setThrow_10 : decode cX6_setThrow 10 = .ok (.ireturn, 1) := by decide +kernel
theorem dX6_setThrow_11 : decode cX6_setThrow 11 = .ok (.iload_n 2, 1) := by decide +kernel
theorem dX6_setThrow_12 : decode cX6_setThrow 12 = .ok (.iconst 0, 1) := by decide +kernel
theorem dX6_setThrow_13 : decode cX6_setThrow 13 = .ok (.bipush 11, 2) := by decide +kernel
theorem dX6_setThrow_15 : decode cX6_setThrow 15 = .ok (.invokestatic 50, 3) := by decide +kernel
theorem dX6_setThrow_18 : decode cX6_setThrow 18 = .ok (.ifCond .ne 6, 3) := by decide +kernel
theorem dX6_setThrow_21 : decode cX6_setThrow 21 = .ok (.ldc 54, 2) := by decide +kernel
theorem dX6_setThrow_23 : decode cX6_setThrow 23 = .ok (.ireturn, 1) := by decide +kernel
theorem dX6_setThrow_24 : decode cX6_setThrow 24 = .ok (.aload_n 0, 1) := by decide +kernel
theorem dX6_setThrow_25 : decode cX6_setThrow 25 = .ok (.iconst 0, 1) := by decide +kernel
theorem dX6_setThrow_26 : decode cX6_setThrow 26 = .ok (.invokevirtual 46, 3) := by decide +kernel
theorem dX6_setThrow_29 : decode cX6_setThrow 29 = .ok (.aload_n 0, 1) := by decide +kernel
theorem dX6_setThrow_30 : decode cX6_setThrow 30 = .ok (.iload_n 1, 1) := by decide +kernel
theorem dX6_setThrow_31 : decode cX6_setThrow 31 = .ok (.iconst 0, 1) := by decide +kernel
theorem dX6_setThrow_32 : decode cX6_setThrow 32 = .ok (.invokestatic 42, 3) := by decide +kernel
theorem dX6_setThrow_35 : decode cX6_setThrow 35 = .ok (.iload_n 2, 1) := by decide +kernel
theorem dX6_setThrow_36 : decode cX6_setThrow 36 = .ok (.invokevirtual 55, 3) := by decide +kernel
theorem dX6_setThrow_39 : decode cX6_setThrow 39 = .ok (.ireturn, 1) := by decide +kernel
theorem dX6_setMass_0 : decode cX6_setMass 0 = .ok (.aload_n 0, 1) := by decide +kernel
theorem dX6_setMass_1 : decode cX6_setMass 1 = .ok (.iload_n 1, 1) := by decide +kernel
theorem dX6_setMass_2 : decode cX6_setMass 2 = .ok (.invokevirtual 58, 3) := by decide +kernel
theorem dX6_setMass_5 : decode cX6_setMass 5 = .ok (.ifCond .ne 6, 3) := by decide +kernel
theorem dX6_setMass_8 : decode cX6_setMass 8 = .ok (.ldc 62, 2) := by decide +kernel
theorem dX6_setMass_10 : decode cX6_setMass 10 = .ok (.ireturn, 1) := by decide +kernel
theorem dX6_setMass_11 : decode cX6_setMass 11 = .ok (.iload_n 2, 1) := by decide +kernel
theorem dX6_setMass_12 : decode cX6_setMass 12 = .ok (.iconst 0, 1) := by decide +kernel
theorem dX6_setMass_13 : decode cX6_setMass 13 = .ok (.bipush 99, 2) := by decide +kernel
theorem dX6_setMass_15 : decode cX6_setMass 15 = .ok (.invokestatic 50, 3) := by decide +kernel
theorem dX6_setMass_18 : decode cX6_setMass 18 = .ok (.ifCond .eq 16, 3) := by decide +kernel
theorem dX6_setMass_21 : decode cX6_setMass 21 = .ok (.aload_n 0, 1) := by decide +kernel
theorem dX6_setMass_22 : decode cX6_setMass 22 = .ok (.iload_n 1, 1) := by decide +kernel
theorem dX6_setMass_23 : decode cX6_setMass 23 = .ok (.iconst 1, 1) := by decide +kernel
theorem dX6_setMass_24 : decode cX6_setMass 24 = .ok (.invokestatic 42, 3) := by decide +kernel
theorem dX6_setMass_27 : decode cX6_setMass 27 = .ok (.iload_n 2, 1) := by decide +kernel
theorem dX6_setMass_28 : decode cX6_setMass 28 = .ok (.invokevirtual 55, 3) := by decide +kernel
theorem dX6_setMass_31 : decode cX6_setMass 31 = .ok (.goto 5, 3) := by decide +kernel
theorem dX6_setMass_34 : decode cX6_setMass 34 = .ok (.ldc 54, 2) := by decide +kernel
theorem dX6_setMass_36 : decode cX6_setMass 36 = .ok (.ireturn, 1) := by decide +kernel
theorem dX6_setPlace_0 : decode cX6_setPlace 0 = .ok (.aload_n 0, 1) := by decide +kernel
theorem dX6_setPlace_1 : decode cX6_setPlace 1 = .ok (.iload_n 1, 1) := by decide +kernel
theorem dX6_setPlace_2 : decode cX6_setPlace 2 = .ok (.invokevirtual 58, 3) := by decide +kernel
theorem dX6_setPlace_5 : decode cX6_setPlace 5 = .ok (.ifCond .ne 6, 3) := by decide +kernel
theorem dX6_setPlace_8 : decode cX6_setPlace 8 = .ok (.ldc 62, 2) := by decide +kernel
theorem dX6_setPlace_10 : decode cX6_setPlace 10 = .ok (.ireturn, 1) := by decide +kernel
theorem dX6_setPlace_11 : decode cX6_setPlace 11 = .ok (.iload_n 2, 1) := by decide +kernel
theorem dX6_setPlace_12 : decode cX6_setPlace 12 = .ok (.bipush (-100), 2) := by decide +kernel
theorem dX6_setPlace_14 : decode cX6_setPlace 14 = .ok (.bipush 100, 2) := by decide +kernel
theorem dX6_setPlace_16 : decode cX6_setPlace 16 = .ok (.invokestatic 50, 3) := by decide +kernel
theorem dX6_setPlace_19 : decode cX6_setPlace 19 = .ok (.ifCond .eq 16, 3) := by decide +kernel
theorem dX6_setPlace_22 : decode cX6_setPlace 22 = .ok (.aload_n 0, 1) := by decide +kernel
theorem dX6_setPlace_23 : decode cX6_setPlace 23 = .ok (.iload_n 1, 1) := by decide +kernel
theorem dX6_setPlace_24 : decode cX6_setPlace 24 = .ok (.iconst 2, 1) := by decide +kernel
theorem dX6_setPlace_25 : decode cX6_setPlace 25 = .ok (.invokestatic 42, 3) := by decide +kernel
theorem dX6_setPlace_28 : decode cX6_setPlace 28 = .ok (.iload_n 2, 1) := by decide +kernel
theorem dX6_setPlace_29 : decode cX6_setPlace 29 = .ok (.invokevirtual 55, 3) := by decide +kernel
theorem dX6_setPlace_32 : decode cX6_setPlace 32 = .ok (.goto 5, 3) := by decide +kernel
theorem dX6_setPlace_35 : decode cX6_setPlace 35 = .ok (.ldc 54, 2) := by decide +kernel
theorem dX6_setPlace_37 : decode cX6_setPlace 37 = .ok (.ireturn, 1) := by decide +kernel
theorem dX6_weightAt_0 : decode cX6_weightAt 0 = .ok (.iconst 0, 1) := by decide +kernel
theorem dX6_weightAt_1 : decode cX6_weightAt 1 = .ok (.istore_n 3, 1) := by decide +kernel
theorem dX6_weightAt_2 : decode cX6_weightAt 2 = .ok (.iload_n 3, 1) := by decide +kernel
theorem dX6_weightAt_3 : decode cX6_weightAt 3 = .ok (.aload_n 0, 1) := by decide +kernel
theorem dX6_weightAt_4 : decode cX6_weightAt 4 = .ok (.getfield 7, 3) := by decide +kernel
theorem dX6_weightAt_7 : decode cX6_weightAt 7 = .ok (.iconst 3, 1) := by decide +kernel
theorem dX6_weightAt_8 : decode cX6_weightAt 8 = .ok (.iaload, 1) := by decide +kernel
theorem dX6_weightAt_9 : decode cX6_weightAt 9 = .ok (.if_icmp .ge 46, 3) := by decide +kernel
theorem dX6_weightAt_12 : decode cX6_weightAt 12 = .ok (.bipush 12, 2) := by decide +kernel
theorem dX6_weightAt_14 : decode cX6_weightAt 14 = .ok (.aload_n 0, 1) := by decide +kernel
theorem dX6_weightAt_15 : decode cX6_weightAt 15 = .ok (.getfield 7, 3) := by decide +kernel
theorem dX6_weightAt_18 : decode cX6_weightAt 18 = .ok (.bipush 44, 2) := by decide +kernel
theorem dX6_weightAt_20 : decode cX6_weightAt 20 = .ok (.iconst 3, 1) := by decide +kernel
theorem dX6_weightAt_21 : decode cX6_weightAt 21 = .ok (.iload_n 3, 1) := by decide +kernel
theorem dX6_weightAt_22 : decode cX6_weightAt 22 = .ok (.imul, 1) := by decide +kernel
theorem dX6_weightAt_23 : decode cX6_weightAt 23 = .ok (.iadd, 1) := by decide +kernel
theorem dX6_weightAt_24 : decode cX6_weightAt 24 = .ok (.iaload, 1) := by decide +kernel
theorem dX6_weightAt_25 : decode cX6_weightAt 25 = .ok (.imul, 1) := by decide +kernel
theorem dX6_weightAt_26 : decode cX6_weightAt 26 = .ok (.aload_n 0, 1) := by decide +kernel
theorem dX6_weightAt_27 : decode cX6_weightAt 27 = .ok (.getfield 7, 3) := by decide +kernel
theorem dX6_weightAt_30 : decode cX6_weightAt 30 = .ok (.bipush 44, 2) := by decide +kernel
theorem dX6_weightAt_32 : decode cX6_weightAt 32 = .ok (.iconst 3, 1) := by decide +kernel
theorem dX6_weightAt_33 : decode cX6_weightAt 33 = .ok (.iload_n 3, 1) := by decide +kernel
theorem dX6_weightAt_34 : decode cX6_weightAt 34 = .ok (.imul, 1) := by decide +kernel
theorem dX6_weightAt_35 : decode cX6_weightAt 35 = .ok (.iadd, 1) := by decide +kernel
theorem dX6_weightAt_36 : decode cX6_weightAt 36 = .ok (.iconst 1, 1) := by decide +kernel
theorem dX6_weightAt_37 : decode cX6_weightAt 37 = .ok (.iadd, 1) := by decide +kernel
theorem dX6_weightAt_38 : decode cX6_weightAt 38 = .ok (.iaload, 1) := by decide +kernel
theorem dX6_weightAt_39 : decode cX6_weightAt 39 = .ok (.iadd, 1) := by decide +kernel
theorem dX6_weightAt_40 : decode cX6_weightAt 40 = .ok (.bipush 12, 2) := by decide +kernel
theorem dX6_weightAt_42 : decode cX6_weightAt 42 = .ok (.iload_n 1, 1) := by decide +kernel
theorem dX6_weightAt_43 : decode cX6_weightAt 43 = .ok (.imul, 1) := by decide +kernel
theorem dX6_weightAt_44 : decode cX6_weightAt 44 = .ok (.iload_n 2, 1) := by decide +kernel
theorem dX6_weightAt_45 : decode cX6_weightAt 45 = .ok (.iadd, 1) := by decide +kernel
theorem dX6_weightAt_46 : decode cX6_weightAt 46 = .ok (.if_icmp .ge 9, 3) := by decide +kernel
theorem dX6_weightAt_49 : decode cX6_weightAt 49 = .ok (.iinc 3 1, 3) := by decide +kernel
theorem dX6_weightAt_52 : decode cX6_weightAt 52 = .ok (.goto (-50), 3) := by decide +kernel
theorem dX6_weightAt_55 : decode cX6_weightAt 55 = .ok (.iload_n 3, 1) := by decide +kernel
theorem dX6_weightAt_56 : decode cX6_weightAt 56 = .ok (.ireturn, 1) := by decide +kernel
theorem dX6_setWeight_0 : decode cX6_setWeight 0 = .ok (.iload_n 1, 1) := by decide +kernel
theorem dX6_setWeight_1 : decode cX6_setWeight 1 = .ok (.bipush (-100), 2) := by decide +kernel
theorem dX6_setWeight_3 : decode cX6_setWeight 3 = .ok (.bipush 100, 2) := by decide +kernel
theorem dX6_setWeight_5 : decode cX6_setWeight 5 = .ok (.invokestatic 50, 3) := by decide +kernel
theorem dX6_setWeight_8 : decode cX6_setWeight 8 = .ok (.ifCond .eq 24, 3) := by decide +kernel
theorem dX6_setWeight_11 : decode cX6_setWeight 11 = .ok (.iload_n 2, 1) := by decide +kernel
theorem dX6_setWeight_12 : decode cX6_setWeight 12 = .ok (.iconst 0, 1) := by decide +kernel
theorem dX6_setWeight_13 : decode cX6_setWeight 13 = .ok (.bipush 11, 2) := by decide +kernel
theorem dX6_setWeight_15 : decode cX6_setWeight 15 = .ok (.invokestatic 50, 3) := by decide +kernel
theorem dX6_setWeight_18 : decode cX6_setWeight 18 = .ok (.ifCond .eq 14, 3) := by decide +kernel
theorem dX6_setWeight_21 : decode cX6_setWeight 21 = .ok (.iload_n 3, 1) := by decide +kernel
theorem dX6_setWeight_22 : decode cX6_setWeight 22 = .ok (.iconst 0, 1) := by decide +kernel
theorem dX6_setWeight_23 : decode cX6_setWeight 23 = .ok (.sipush 999, 3) := by decide +kernel
theorem dX6_setWeight_26 : decode cX6_setWeight 26 = .ok (.invokestatic 50, 3) := by decide +kernel
theorem dX6_setWeight_29 : decode cX6_setWeight 29 = .ok (.ifCond .ne 6, 3) := by decide +kernel
theorem dX6_setWeight_32 : decode cX6_setWeight 32 = .ok (.ldc 54, 2) := by decide +kernel
theorem dX6_setWeight_34 : decode cX6_setWeight 34 = .ok (.ireturn, 1) := by decide +kernel
theorem dX6_setWeight_35 : decode cX6_setWeight 35 = .ok (.aload_n 0, 1) := by decide +kernel
theorem dX6_setWeight_36 : decode cX6_setWeight 36 = .ok (.iload_n 1, 1) := by decide +kernel
theorem dX6_setWeight_37 : decode cX6_setWeight 37 = .ok (.iload_n 2, 1) := by decide +kernel
theorem dX6_setWeight_38 : decode cX6_setWeight 38 = .ok (.invokevirtual 63, 3) := by decide +kernel
theorem dX6_setWeight_41 : decode cX6_setWeight 41 = .ok (.istore 4, 2) := by decide +kernel
theorem dX6_setWeight_43 : decode cX6_setWeight 43 = .ok (.iload 4, 2) := by decide +kernel
theorem dX6_setWeight_45 : decode cX6_setWeight 45 = .ok (.aload_n 0, 1) := by decide +kernel
theorem dX6_setWeight_46 : decode cX6_setWeight 46 = .ok (.getfield 7, 3) := by decide +kernel
theorem dX6_setWeight_49 : decode cX6_setWeight 49 = .ok (.iconst 3, 1) := by decide +kernel
theorem dX6_setWeight_50 : decode cX6_setWeight 50 = .ok (.iaload, 1) := by decide +kernel
theorem dX6_setWeight_51 : decode cX6_setWeight 51 = .ok (.if_icmp .ge 41, 3) := by decide +kernel
theorem dX6_setWeight_54 : decode cX6_setWeight 54 = .ok (.aload_n 0, 1) := by decide +kernel
theorem dX6_setWeight_55 : decode cX6_setWeight 55 = .ok (.getfield 7, 3) := by decide +kernel
theorem dX6_setWeight_58 : decode cX6_setWeight 58 = .ok (.bipush 44, 2) := by decide +kernel
theorem dX6_setWeight_60 : decode cX6_setWeight 60 = .ok (.iconst 3, 1) := by decide +kernel
theorem dX6_setWeight_61 : decode cX6_setWeight 61 = .ok (.iload 4, 2) := by decide +kernel
theorem dX6_setWeight_63 : decode cX6_setWeight 63 = .ok (.imul, 1) := by decide +kernel
theorem dX6_setWeight_64 : decode cX6_setWeight 64 = .ok (.iadd, 1) := by decide +kernel
theorem dX6_setWeight_65 : decode cX6_setWeight 65 = .ok (.iaload, 1) := by decide +kernel
theorem dX6_setWeight_66 : decode cX6_setWeight 66 = .ok (.iload_n 1, 1) := by decide +kernel
theorem dX6_setWeight_67 : decode cX6_setWeight 67 = .ok (.if_icmp .ne 25, 3) := by decide +kernel
theorem dX6_setWeight_70 : decode cX6_setWeight 70 = .ok (.aload_n 0, 1) := by decide +kernel
theorem dX6_setWeight_71 : decode cX6_setWeight 71 = .ok (.getfield 7, 3) := by decide +kernel
theorem dX6_setWeight_74 : decode cX6_setWeight 74 = .ok (.bipush 44, 2) := by decide +kernel
theorem dX6_setWeight_76 : decode cX6_setWeight 76 = .ok (.iconst 3, 1) := by decide +kernel
theorem dX6_setWeight_77 : decode cX6_setWeight 77 = .ok (.iload 4, 2) := by decide +kernel
theorem dX6_setWeight_79 : decode cX6_setWeight 79 = .ok (.imul, 1) := by decide +kernel
theorem dX6_setWeight_80 : decode cX6_setWeight 80 = .ok (.iadd, 1) := by decide +kernel
theorem dX6_setWeight_81 : decode cX6_setWeight 81 = .ok (.iconst 1, 1) := by decide +kernel
theorem dX6_setWeight_82 : decode cX6_setWeight 82 = .ok (.iadd, 1) := by decide +kernel
theorem dX6_setWeight_83 : decode cX6_setWeight 83 = .ok (.iaload, 1) := by decide +kernel
theorem dX6_setWeight_84 : decode cX6_setWeight 84 = .ok (.iload_n 2, 1) := by decide +kernel
theorem dX6_setWeight_85 : decode cX6_setWeight 85 = .ok (.if_icmp .ne 7, 3) := by decide +kernel
theorem dX6_setWeight_88 : decode cX6_setWeight 88 = .ok (.iconst 1, 1) := by decide +kernel
theorem dX6_setWeight_89 : decode cX6_setWeight 89 = .ok (.goto 4, 3) := by decide +kernel
theorem dX6_setWeight_92 : decode cX6_setWeight 92 = .ok (.iconst 0, 1) := by decide +kernel
theorem dX6_setWeight_93 : decode cX6_setWeight 93 = .ok (.istore 5, 2) := by decide +kernel
theorem dX6_setWeight_95 : decode cX6_setWeight 95 = .ok (.iload 5, 2) := by decide +kernel
theorem dX6_setWeight_97 : decode cX6_setWeight 97 = .ok (.ifCond .ne 21, 3) := by decide +kernel
theorem dX6_setWeight_100 : decode cX6_setWeight 100 = .ok (.iload_n 3, 1) := by decide +kernel
theorem dX6_setWeight_101 : decode cX6_setWeight 101 = .ok (.ifCond .le 17, 3) := by decide +kernel
theorem dX6_setWeight_104 : decode cX6_setWeight 104 = .ok (.aload_n 0, 1) := by decide +kernel
theorem dX6_setWeight_105 : decode cX6_setWeight 105 = .ok (.getfield 7, 3) := by decide +kernel
theorem dX6_setWeight_108 : decode cX6_setWeight 108 = .ok (.iconst 3, 1) := by decide +kernel
theorem dX6_setWeight_109 : decode cX6_setWeight 109 = .ok (.iaload, 1) := by decide +kernel
theorem dX6_setWeight_110 : decode cX6_setWeight 110 = .ok (.bipush 8, 2) := by decide +kernel
theorem dX6_setWeight_112 : decode cX6_setWeight 112 = .ok (.if_icmp .ne 6, 3) := by decide +kernel
theorem dX6_setWeight_115 : decode cX6_setWeight 115 = .ok (.ldc 66, 2) := by decide +kernel
theorem dX6_setWeight_117 : decode cX6_setWeight 117 = .ok (.ireturn, 1) := by decide +kernel
theorem dX6_setWeight_118 : decode cX6_setWeight 118 = .ok (.iload 5, 2) := by decide +kernel
theorem dX6_setWeight_120 : decode cX6_setWeight 120 = .ok (.ifCond .ne 66, 3) := by decide +kernel
theorem dX6_setWeight_123 : decode cX6_setWeight 123 = .ok (.iload_n 3, 1) := by decide +kernel
theorem dX6_setWeight_124 : decode cX6_setWeight 124 = .ok (.ifCond .le 62, 3) := by decide +kernel
theorem dX6_setWeight_127 : decode cX6_setWeight 127 = .ok (.bipush 44, 2) := by decide +kernel
theorem dX6_setWeight_129 : decode cX6_setWeight 129 = .ok (.iconst 3, 1) := by decide +kernel
theorem dX6_setWeight_130 : decode cX6_setWeight 130 = .ok (.aload_n 0, 1) := by decide +kernel
theorem dX6_setWeight_131 : decode cX6_setWeight 131 = .ok (.getfield 7, 3) := by decide +kernel
theorem dX6_setWeight_134 : decode cX6_setWeight 134 = .ok (.iconst 3, 1) := by decide +kernel
theorem dX6_setWeight_135 : decode cX6_setWeight 135 = .ok (.iaload, 1) := by decide +kernel
theorem dX6_setWeight_136 : decode cX6_setWeight 136 = .ok (.imul, 1) := by decide +kernel
theorem dX6_setWeight_137 : decode cX6_setWeight 137 = .ok (.iadd, 1) := by decide +kernel
theorem dX6_setWeight_138 : decode cX6_setWeight 138 = .ok (.iconst 1, 1) := by decide +kernel
theorem dX6_setWeight_139 : decode cX6_setWeight 139 = .ok (.isub, 1) := by decide +kernel
theorem dX6_setWeight_140 : decode cX6_setWeight 140 = .ok (.istore 6, 2) := by decide +kernel
theorem dX6_setWeight_142 : decode cX6_setWeight 142 = .ok (.iload 6, 2) := by decide +kernel
theorem dX6_setWeight_144 : decode cX6_setWeight 144 = .ok (.bipush 44, 2) := by decide +kernel
theorem dX6_setWeight_146 : decode cX6_setWeight 146 = .ok (.iconst 3, 1) := by decide +kernel
theorem dX6_setWeight_147 : decode cX6_setWeight 147 = .ok (.iload 4, 2) := by decide +kernel
theorem dX6_setWeight_149 : decode cX6_setWeight 149 = .ok (.imul, 1) := by decide +kernel
theorem dX6_setWeight_150 : decode cX6_setWeight 150 = .ok (.iadd, 1) := by decide +kernel
theorem dX6_setWeight_151 : decode cX6_setWeight 151 = .ok (.if_icmp .lt 25, 3) := by decide +kernel
theorem dX6_setWeight_154 : decode cX6_setWeight 154 = .ok (.aload_n 0, 1) := by decide +kernel
theorem dX6_setWeight_155 : decode cX6_setWeight 155 = .ok (.getfield 7, 3) := by decide +kernel
theorem dX6_setWeight_158 : decode cX6_setWeight 158 = .ok (.iload 6, 2) := by decide +kernel
theorem dX6_setWeight_160 : decode cX6_setWeight 160 = .ok (.iconst 3, 1) := by decide +kernel
theorem dX6_setWeight_161 : decode cX6_setWeight 161 = .ok (.iadd, 1) := by decide +kernel
theorem dX6_setWeight_162 : decode cX6_setWeight 162 = .ok (.aload_n 0, 1) := by decide +kernel
theorem dX6_setWeight_163 : decode cX6_setWeight 163 = .ok (.getfield 7, 3) := by decide +kernel
theorem dX6_setWeight_166 : decode cX6_setWeight 166 = .ok (.iload 6, 2) := by decide +kernel
theorem dX6_setWeight_168 : decode cX6_setWeight 168 = .ok (.iaload, 1) := by decide +kernel
theorem dX6_setWeight_169 : decode cX6_setWeight 169 = .ok (.iastore, 1) := by decide +kernel
theorem dX6_setWeight_170 : decode cX6_setWeight 170 = .ok (.iinc 6 (-1), 3) := by decide +kernel
theorem dX6_setWeight_173 : decode cX6_setWeight 173 = .ok (.goto (-31), 3) := by decide +kernel
theorem dX6_setWeight_176 : decode cX6_setWeight 176 = .ok (.aload_n 0, 1) := by decide +kernel
theorem dX6_setWeight_177 : decode cX6_setWeight 177 = .ok (.getfield 7, 3) := by decide +kernel
theorem dX6_setWeight_180 : decode cX6_setWeight 180 = .ok (.iconst 3, 1) := by decide +kernel
theorem dX6_setWeight_181 : decode cX6_setWeight 181 = .ok (.dup2, 1) := by decide +kernel
theorem dX6_setWeight_182 : decode cX6_setWeight 182 = .ok (.iaload, 1) := by decide +kernel
theorem dX6_setWeight_183 : decode cX6_setWeight 183 = .ok (.iconst 1, 1) := by decide +kernel
theorem dX6_setWeight_184 : decode cX6_setWeight 184 = .ok (.iadd, 1) := by decide +kernel
theorem dX6_setWeight_185 : decode cX6_setWeight 185 = .ok (.iastore, 1) := by decide +kernel
theorem dX6_setWeight_186 : decode cX6_setWeight 186 = .ok (.iload 5, 2) := by decide +kernel
theorem dX6_setWeight_188 : decode cX6_setWeight 188 = .ok (.ifCond .eq 64, 3) := by decide +kernel
theorem dX6_setWeight_191 : decode cX6_setWeight 191 = .ok (.iload_n 3, 1) := by decide +kernel
theorem dX6_setWeight_192 : decode cX6_setWeight 192 = .ok (.ifCond .ne 60, 3) := by decide +kernel
theorem dX6_setWeight_195 : decode cX6_setWeight 195 = .ok (.aload_n 0, 1) := by decide +kernel
theorem dX6_setWeight_196 : decode cX6_setWeight 196 = .ok (.getfield 7, 3) := by decide +kernel
theorem dX6_setWeight_199 : decode cX6_setWeight 199 = .ok (.iconst 3, 1) := by decide +kernel
theorem dX6_setWeight_200 : decode cX6_setWeight 200 = .ok (.dup2, 1) := by decide +kernel
theorem dX6_setWeight_201 : decode cX6_setWeight 201 = .ok (.iaload, 1) := by decide +kernel
theorem dX6_setWeight_202 : decode cX6_setWeight 202 = .ok (.iconst 1, 1) := by decide +kernel
theorem dX6_setWeight_203 : decode cX6_setWeight 203 = .ok (.isub, 1) := by decide +kernel
theorem dX6_setWeight_204 : decode cX6_setWeight 204 = .ok (.iastore, 1) := by decide +kernel
theorem dX6_setWeight_205 : decode cX6_setWeight 205 = .ok (.bipush 44, 2) := by decide +kernel
theorem dX6_setWeight_207 : decode cX6_setWeight 207 = .ok (.iconst 3, 1) := by decide +kernel
theorem dX6_setWeight_208 : decode cX6_setWeight 208 = .ok (.iload 4, 2) := by decide +kernel
theorem dX6_setWeight_210 : decode cX6_setWeight 210 = .ok (.imul, 1) := by decide +kernel
theorem dX6_setWeight_211 : decode cX6_setWeight 211 = .ok (.iadd, 1) := by decide +kernel
theorem dX6_setWeight_212 : decode cX6_setWeight 212 = .ok (.istore 6, 2) := by decide +kernel
theorem dX6_setWeight_214 : decode cX6_setWeight 214 = .ok (.iload 6, 2) := by decide +kernel
theorem dX6_setWeight_216 : decode cX6_setWeight 216 = .ok (.bipush 44, 2) := by decide +kernel
theorem dX6_setWeight_218 : decode cX6_setWeight 218 = .ok (.iconst 3, 1) := by decide +kernel
theorem dX6_setWeight_219 : decode cX6_setWeight 219 = .ok (.aload_n 0, 1) := by decide +kernel
theorem dX6_setWeight_220 : decode cX6_setWeight 220 = .ok (.getfield 7, 3) := by decide +kernel
theorem dX6_setWeight_223 : decode cX6_setWeight 223 = .ok (.iconst 3, 1) := by decide +kernel
theorem dX6_setWeight_224 : decode cX6_setWeight 224 = .ok (.iaload, 1) := by decide +kernel
theorem dX6_setWeight_225 : decode cX6_setWeight 225 = .ok (.imul, 1) := by decide +kernel
theorem dX6_setWeight_226 : decode cX6_setWeight 226 = .ok (.iadd, 1) := by decide +kernel
theorem dX6_setWeight_227 : decode cX6_setWeight 227 = .ok (.if_icmp .ge 25, 3) := by decide +kernel
theorem dX6_setWeight_230 : decode cX6_setWeight 230 = .ok (.aload_n 0, 1) := by decide +kernel
theorem dX6_setWeight_231 : decode cX6_setWeight 231 = .ok (.getfield 7, 3) := by decide +kernel
theorem dX6_setWeight_234 : decode cX6_setWeight 234 = .ok (.iload 6, 2) := by decide +kernel
theorem dX6_setWeight_236 : decode cX6_setWeight 236 = .ok (.aload_n 0, 1) := by decide +kernel
theorem dX6_setWeight_237 : decode cX6_setWeight 237 = .ok (.getfield 7, 3) := by decide +kernel
theorem dX6_setWeight_240 : decode cX6_setWeight 240 = .ok (.iload 6, 2) := by decide +kernel
theorem dX6_setWeight_242 : decode cX6_setWeight 242 = .ok (.iconst 3, 1) := by decide +kernel
theorem dX6_setWeight_243 : decode cX6_setWeight 243 = .ok (.iadd, 1) := by decide +kernel
theorem dX6_setWeight_244 : decode cX6_setWeight 244 = .ok (.iaload, 1) := by decide +kernel
theorem dX6_setWeight_245 : decode cX6_setWeight 245 = .ok (.iastore, 1) := by decide +kernel
theorem dX6_setWeight_246 : decode cX6_setWeight 246 = .ok (.iinc 6 1, 3) := by decide +kernel
theorem dX6_setWeight_249 : decode cX6_setWeight 249 = .ok (.goto (-35), 3) := by decide +kernel
theorem dX6_setWeight_252 : decode cX6_setWeight 252 = .ok (.iload_n 3, 1) := by decide +kernel
theorem dX6_setWeight_253 : decode cX6_setWeight 253 = .ok (.ifCond .le 46, 3) := by decide +kernel
theorem dX6_setWeight_256 : decode cX6_setWeight 256 = .ok (.aload_n 0, 1) := by decide +kernel
theorem dX6_setWeight_257 : decode cX6_setWeight 257 = .ok (.getfield 7, 3) := by decide +kernel
theorem dX6_setWeight_260 : decode cX6_setWeight 260 = .ok (.bipush 44, 2) := by decide +kernel
theorem dX6_setWeight_262 : decode cX6_setWeight 262 = .ok (.iconst 3, 1) := by decide +kernel
theorem dX6_setWeight_263 : decode cX6_setWeight 263 = .ok (.iload 4, 2) := by decide +kernel
theorem dX6_setWeight_265 : decode cX6_setWeight 265 = .ok (.imul, 1) := by decide +kernel
theorem dX6_setWeight_266 : decode cX6_setWeight 266 = .ok (.iadd, 1) := by decide +kernel
theorem dX6_setWeight_267 : decode cX6_setWeight 267 = .ok (.iload_n 1, 1) := by decide +kernel
theorem dX6_setWeight_268 : decode cX6_setWeight 268 = .ok (.iastore, 1) := by decide +kernel
theorem dX6_setWeight_269 : decode cX6_setWeight 269 = .ok (.aload_n 0, 1) := by decide +kernel
theorem dX6_setWeight_270 : decode cX6_setWeight 270 = .ok (.getfield 7, 3) := by decide +kernel
theorem dX6_setWeight_273 : decode cX6_setWeight 273 = .ok (.bipush 44, 2) := by decide +kernel
theorem dX6_setWeight_275 : decode cX6_setWeight 275 = .ok (.iconst 3, 1) := by decide +kernel
theorem dX6_setWeight_276 : decode cX6_setWeight 276 = .ok (.iload 4, 2) := by decide +kernel
theorem dX6_setWeight_278 : decode cX6_setWeight 278 = .ok (.imul, 1) := by decide +kernel
theorem dX6_setWeight_279 : decode cX6_setWeight 279 = .ok (.iadd, 1) := by decide +kernel
theorem dX6_setWeight_280 : decode cX6_setWeight 280 = .ok (.iconst 1, 1) := by decide +kernel
theorem dX6_setWeight_281 : decode cX6_setWeight 281 = .ok (.iadd, 1) := by decide +kernel
theorem dX6_setWeight_282 : decode cX6_setWeight 282 = .ok (.iload_n 2, 1) := by decide +kernel
theorem dX6_setWeight_283 : decode cX6_setWeight 283 = .ok (.iastore, 1) := by decide +kernel
theorem dX6_setWeight_284 : decode cX6_setWeight 284 = .ok (.aload_n 0, 1) := by decide +kernel
theorem dX6_setWeight_285 : decode cX6_setWeight 285 = .ok (.getfield 7, 3) := by decide +kernel
theorem dX6_setWeight_288 : decode cX6_setWeight 288 = .ok (.bipush 44, 2) := by decide +kernel
theorem dX6_setWeight_290 : decode cX6_setWeight 290 = .ok (.iconst 3, 1) := by decide +kernel
theorem dX6_setWeight_291 : decode cX6_setWeight 291 = .ok (.iload 4, 2) := by decide +kernel
theorem dX6_setWeight_293 : decode cX6_setWeight 293 = .ok (.imul, 1) := by decide +kernel
theorem dX6_setWeight_294 : decode cX6_setWeight 294 = .ok (.iadd, 1) := by decide +kernel
theorem dX6_setWeight_295 : decode cX6_setWeight 295 = .ok (.iconst 2, 1) := by decide +kernel
theorem dX6_setWeight_296 : decode cX6_setWeight 296 = .ok (.iadd, 1) := by decide +kernel
theorem dX6_setWeight_297 : decode cX6_setWeight 297 = .ok (.iload_n 3, 1) := by decide +kernel
theorem dX6_setWeight_298 : decode cX6_setWeight 298 = .ok (.iastore, 1) := by decide +kernel
theorem dX6_setWeight_299 : decode cX6_setWeight 299 = .ok (.aload_n 0, 1) := by decide +kernel
theorem dX6_setWeight_300 : decode cX6_setWeight 300 = .ok (.getfield 7, 3) := by decide +kernel
theorem dX6_setWeight_303 : decode cX6_setWeight 303 = .ok (.iconst 3, 1) := by decide +kernel
theorem dX6_setWeight_304 : decode cX6_setWeight 304 = .ok (.iaload, 1) := by decide +kernel
theorem dX6_setWeight_305 : decode cX6_setWeight 305 = .ok (.ireturn, 1) := by decide +kernel
theorem dX6_weight_0 : decode cX6_weight 0 = .ok (.iload_n 1, 1) := by decide +kernel
theorem dX6_weight_1 : decode cX6_weight 1 = .ok (.iconst 0, 1) := by decide +kernel
theorem dX6_weight_2 : decode cX6_weight 2 = .ok (.aload_n 0, 1) := by decide +kernel
theorem dX6_weight_3 : decode cX6_weight 3 = .ok (.getfield 7, 3) := by decide +kernel
theorem dX6_weight_6 : decode cX6_weight 6 = .ok (.iconst 3, 1) := by decide +kernel
theorem dX6_weight_7 : decode cX6_weight 7 = .ok (.iaload, 1) := by decide +kernel
theorem dX6_weight_8 : decode cX6_weight 8 = .ok (.iconst 1, 1) := by decide +kernel
theorem dX6_weight_9 : decode cX6_weight 9 = .ok (.isub, 1) := by decide +kernel
theorem dX6_weight_10 : decode cX6_weight 10 = .ok (.invokestatic 50, 3) := by decide +kernel
theorem dX6_weight_13 : decode cX6_weight 13 = .ok (.ifCond .ne 6, 3) := by decide +kernel
theorem dX6_weight_16 : decode cX6_weight 16 = .ok (.ldc 62, 2) := by decide +kernel
theorem dX6_weight_18 : decode cX6_weight 18 = .ok (.ireturn, 1) := by decide +kernel
theorem dX6_weight_19 : decode cX6_weight 19 = .ok (.iload_n 2, 1) := by decide +kernel
theorem dX6_weight_20 : decode cX6_weight 20 = .ok (.iconst 0, 1) := by decide +kernel
theorem dX6_weight_21 : decode cX6_weight 21 = .ok (.iconst 2, 1) := by decide +kernel
theorem dX6_weight_22 : decode cX6_weight 22 = .ok (.invokestatic 50, 3) := by decide +kernel
theorem dX6_weight_25 : decode cX6_weight 25 = .ok (.ifCond .eq 19, 3) := by decide +kernel
theorem dX6_weight_28 : decode cX6_weight 28 = .ok (.aload_n 0, 1) := by decide +kernel
theorem dX6_weight_29 : decode cX6_weight 29 = .ok (.getfield 7, 3) := by decide +kernel
theorem dX6_weight_32 : decode cX6_weight 32 = .ok (.bipush 44, 2) := by decide +kernel
theorem dX6_weight_34 : decode cX6_weight 34 = .ok (.iconst 3, 1) := by decide +kernel
theorem dX6_weight_35 : decode cX6_weight 35 = .ok (.iload_n 1, 1) := by decide +kernel
theorem dX6_weight_36 : decode cX6_weight 36 = .ok (.imul, 1) := by decide +kernel
theorem dX6_weight_37 : decode cX6_weight 37 = .ok (.iadd, 1) := by decide +kernel
theorem dX6_weight_38 : decode cX6_weight 38 = .ok (.iload_n 2, 1) := by decide +kernel
theorem dX6_weight_39 : decode cX6_weight 39 = .ok (.iadd, 1) := by decide +kernel
theorem dX6_weight_40 : decode cX6_weight 40 = .ok (.iaload, 1) := by decide +kernel
theorem dX6_weight_41 : decode cX6_weight 41 = .ok (.goto 5, 3) := by decide +kernel
theorem dX6_weight_44 : decode cX6_weight 44 = .ok (.ldc 54, 2) := by decide +kernel
theorem dX6_weight_46 : decode cX6_weight 46 = .ok (.ireturn, 1) := by decide +kernel
theorem dX6_cylinder_0 : decode cX6_cylinder 0 = .ok (.aload_n 0, 1) := by decide +kernel
theorem dX6_cylinder_1 : decode cX6_cylinder 1 = .ok (.iload_n 1, 1) := by decide +kernel
theorem dX6_cylinder_2 : decode cX6_cylinder 2 = .ok (.invokevirtual 58, 3) := by decide +kernel
theorem dX6_cylinder_5 : decode cX6_cylinder 5 = .ok (.ifCond .ne 6, 3) := by decide +kernel
theorem dX6_cylinder_8 : decode cX6_cylinder 8 = .ok (.ldc 62, 2) := by decide +kernel
theorem dX6_cylinder_10 : decode cX6_cylinder 10 = .ok (.ireturn, 1) := by decide +kernel
theorem dX6_cylinder_11 : decode cX6_cylinder 11 = .ok (.iload_n 2, 1) := by decide +kernel
theorem dX6_cylinder_12 : decode cX6_cylinder 12 = .ok (.iconst 0, 1) := by decide +kernel
theorem dX6_cylinder_13 : decode cX6_cylinder 13 = .ok (.iconst 4, 1) := by decide +kernel
theorem dX6_cylinder_14 : decode cX6_cylinder 14 = .ok (.invokestatic 50, 3) := by decide +kernel
theorem dX6_cylinder_17 : decode cX6_cylinder 17 = .ok (.ifCond .eq 16, 3) := by decide +kernel
theorem dX6_cylinder_20 : decode cX6_cylinder 20 = .ok (.aload_n 0, 1) := by decide +kernel
theorem dX6_cylinder_21 : decode cX6_cylinder 21 = .ok (.getfield 7, 3) := by decide +kernel
theorem dX6_cylinder_24 : decode cX6_cylinder 24 = .ok (.iload_n 1, 1) := by decide +kernel
theorem dX6_cylinder_25 : decode cX6_cylinder 25 = .ok (.iload_n 2, 1) := by decide +kernel
theorem dX6_cylinder_26 : decode cX6_cylinder 26 = .ok (.invokestatic 42, 3) := by decide +kernel
theorem dX6_cylinder_29 : decode cX6_cylinder 29 = .ok (.iaload, 1) := by decide +kernel
theorem dX6_cylinder_30 : decode cX6_cylinder 30 = .ok (.goto 5, 3) := by decide +kernel
theorem dX6_cylinder_33 : decode cX6_cylinder 33 = .ok (.ldc 54, 2) := by decide +kernel
theorem dX6_cylinder_35 : decode cX6_cylinder 35 = .ok (.ireturn, 1) := by decide +kernel
theorem dX6_adds_0 : decode cX6_adds 0 = .ok (.iload_n 2, 1) := by decide +kernel
theorem dX6_adds_1 : decode cX6_adds 1 = .ok (.bipush 12, 2) := by decide +kernel
theorem dX6_adds_3 : decode cX6_adds 3 = .ok (.irem, 1) := by decide +kernel
theorem dX6_adds_4 : decode cX6_adds 4 = .ok (.istore_n 3, 1) := by decide +kernel
theorem dX6_adds_5 : decode cX6_adds 5 = .ok (.aload_n 0, 1) := by decide +kernel
theorem dX6_adds_6 : decode cX6_adds 6 = .ok (.getfield 29, 3) := by decide +kernel
theorem dX6_adds_9 : decode cX6_adds 9 = .ok (.iconst 0, 1) := by decide +kernel
theorem dX6_adds_10 : decode cX6_adds 10 = .ok (.dup2, 1) := by decide +kernel
theorem dX6_adds_11 : decode cX6_adds 11 = .ok (.iaload, 1) := by decide +kernel
theorem dX6_adds_12 : decode cX6_adds 12 = .ok (.iload_n 1, 1) := by decide +kernel
theorem dX6_adds_13 : decode cX6_adds 13 = .ok (.aload_n 0, 1) := by decide +kernel
theorem dX6_adds_14 : decode cX6_adds 14 = .ok (.getfield 23, 3) := by decide +kernel
theorem dX6_adds_17 : decode cX6_adds 17 = .ok (.iload_n 3, 1) := by decide +kernel
theorem dX6_adds_18 : decode cX6_adds 18 = .ok (.iaload, 1) := by decide +kernel
theorem dX6_adds_19 : decode cX6_adds 19 = .ok (.imul, 1) := by decide +kernel
theorem dX6_adds_20 : decode cX6_adds 20 = .ok (.iadd, 1) := by decide +kernel
theorem dX6_adds_21 : decode cX6_adds 21 = .ok (.iastore, 1) := by decide +kernel
theorem dX6_adds_22 : decode cX6_adds 22 = .ok (.aload_n 0, 1) := by decide +kernel
theorem dX6_adds_23 : decode cX6_adds 23 = .ok (.getfield 29, 3) := by decide +kernel
theorem dX6_adds_26 : decode cX6_adds 26 = .ok (.iconst 1, 1) := by decide +kernel
theorem dX6_adds_27 : decode cX6_adds 27 = .ok (.dup2, 1) := by decide +kernel
theorem dX6_adds_28 : decode cX6_adds 28 = .ok (.iaload, 1) := by decide +kernel
theorem dX6_adds_29 : decode cX6_adds 29 = .ok (.iload_n 1, 1) := by decide +kernel
theorem dX6_adds_30 : decode cX6_adds 30 = .ok (.aload_n 0, 1) := by decide +kernel
theorem dX6_adds_31 : decode cX6_adds 31 = .ok (.getfield 26, 3) := by decide +kernel
theorem dX6_adds_34 : decode cX6_adds 34 = .ok (.iload_n 3, 1) := by decide +kernel
theorem dX6_adds_35 : decode cX6_adds 35 = .ok (.iaload, 1) := by decide +kernel
theorem dX6_adds_36 : decode cX6_adds 36 = .ok (.imul, 1) := by decide +kernel
theorem dX6_adds_37 : decode cX6_adds 37 = .ok (.iadd, 1) := by decide +kernel
theorem dX6_adds_38 : decode cX6_adds 38 = .ok (.iastore, 1) := by decide +kernel
theorem dX6_adds_39 : decode cX6_adds 39 = .ok (.aload_n 0, 1) := by decide +kernel
theorem dX6_adds_40 : decode cX6_adds 40 = .ok (.getfield 29, 3) := by decide +kernel
theorem dX6_adds_43 : decode cX6_adds 43 = .ok (.iconst 2, 1) := by decide +kernel
theorem dX6_adds_44 : decode cX6_adds 44 = .ok (.dup2, 1) := by decide +kernel
theorem dX6_adds_45 : decode cX6_adds 45 = .ok (.iaload, 1) := by decide +kernel
theorem dX6_adds_46 : decode cX6_adds 46 = .ok (.iload_n 1, 1) := by decide +kernel
theorem dX6_adds_47 : decode cX6_adds 47 = .ok (.aload_n 0, 1) := by decide +kernel
theorem dX6_adds_48 : decode cX6_adds 48 = .ok (.getfield 23, 3) := by decide +kernel
theorem dX6_adds_51 : decode cX6_adds 51 = .ok (.iload_n 3, 1) := by decide +kernel
theorem dX6_adds_52 : decode cX6_adds 52 = .ok (.bipush 9, 2) := by decide +kernel
theorem dX6_adds_54 : decode cX6_adds 54 = .ok (.iadd, 1) := by decide +kernel
theorem dX6_adds_55 : decode cX6_adds 55 = .ok (.bipush 12, 2) := by decide +kernel
theorem dX6_adds_57 : decode cX6_adds 57 = .ok (.irem, 1) := by decide +kernel
theorem dX6_adds_58 : decode cX6_adds 58 = .ok (.iaload, 1) := by decide +kernel
theorem dX6_adds_59 : decode cX6_adds 59 = .ok (.imul, 1) := by decide +kernel
theorem dX6_adds_60 : decode cX6_adds 60 = .ok (.iadd, 1) := by decide +kernel
theorem dX6_adds_61 : decode cX6_adds 61 = .ok (.iastore, 1) := by decide +kernel
theorem dX6_adds_62 : decode cX6_adds 62 = .ok (.aload_n 0, 1) := by decide +kernel
theorem dX6_adds_63 : decode cX6_adds 63 = .ok (.getfield 29, 3) := by decide +kernel
theorem dX6_adds_66 : decode cX6_adds 66 = .ok (.iconst 3, 1) := by decide +kernel
theorem dX6_adds_67 : decode cX6_adds 67 = .ok (.dup2, 1) := by decide +kernel
theorem dX6_adds_68 : decode cX6_adds 68 = .ok (.iaload, 1) := by decide +kernel
theorem dX6_adds_69 : decode cX6_adds 69 = .ok (.iload_n 1, 1) := by decide +kernel
theorem dX6_adds_70 : decode cX6_adds 70 = .ok (.aload_n 0, 1) := by decide +kernel
theorem dX6_adds_71 : decode cX6_adds 71 = .ok (.getfield 26, 3) := by decide +kernel
theorem dX6_adds_74 : decode cX6_adds 74 = .ok (.iload_n 3, 1) := by decide +kernel
theorem dX6_adds_75 : decode cX6_adds 75 = .ok (.bipush 9, 2) := by decide +kernel
theorem dX6_adds_77 : decode cX6_adds 77 = .ok (.iadd, 1) := by decide +kernel
theorem dX6_adds_78 : decode cX6_adds 78 = .ok (.bipush 12, 2) := by decide +kernel
theorem dX6_adds_80 : decode cX6_adds 80 = .ok (.irem, 1) := by decide +kernel
theorem dX6_adds_81 : decode cX6_adds 81 = .ok (.iaload, 1) := by decide +kernel
theorem dX6_adds_82 : decode cX6_adds 82 = .ok (.imul, 1) := by decide +kernel
theorem dX6_adds_83 : decode cX6_adds 83 = .ok (.iadd, 1) := by decide +kernel
theorem dX6_adds_84 : decode cX6_adds 84 = .ok (.iastore, 1) := by decide +kernel
theorem dX6_adds_85 : decode cX6_adds 85 = .ok (.return_, 1) := by decide +kernel
theorem dX6_sums_0 : decode cX6_sums 0 = .ok (.iconst 0, 1) := by decide +kernel
theorem dX6_sums_1 : decode cX6_sums 1 = .ok (.istore_n 2, 1) := by decide +kernel
theorem dX6_sums_2 : decode cX6_sums 2 = .ok (.iload_n 2, 1) := by decide +kernel
theorem dX6_sums_3 : decode cX6_sums 3 = .ok (.iconst 4, 1) := by decide +kernel
theorem dX6_sums_4 : decode cX6_sums 4 = .ok (.if_icmp .ge 16, 3) := by decide +kernel
theorem dX6_sums_7 : decode cX6_sums 7 = .ok (.aload_n 0, 1) := by decide +kernel
theorem dX6_sums_8 : decode cX6_sums 8 = .ok (.getfield 29, 3) := by decide +kernel
theorem dX6_sums_11 : decode cX6_sums 11 = .ok (.iload_n 2, 1) := by decide +kernel
theorem dX6_sums_12 : decode cX6_sums 12 = .ok (.iconst 0, 1) := by decide +kernel
theorem dX6_sums_13 : decode cX6_sums 13 = .ok (.iastore, 1) := by decide +kernel
theorem dX6_sums_14 : decode cX6_sums 14 = .ok (.iinc 2 1, 3) := by decide +kernel
theorem dX6_sums_17 : decode cX6_sums 17 = .ok (.goto (-15), 3) := by decide +kernel
theorem dX6_sums_20 : decode cX6_sums 20 = .ok (.iload_n 1, 1) := by decide +kernel
theorem dX6_sums_21 : decode cX6_sums 21 = .ok (.iconst 2, 1) := by decide +kernel
theorem dX6_sums_22 : decode cX6_sums 22 = .ok (.irem, 1) := by decide +kernel
theorem dX6_sums_23 : decode cX6_sums 23 = .ok (.iconst 1, 1) := by decide +kernel
theorem dX6_sums_24 : decode cX6_sums 24 = .ok (.if_icmp .ne 7, 3) := by decide +kernel
theorem dX6_sums_27 : decode cX6_sums 27 = .ok (.iconst 1, 1) := by decide +kernel
theorem dX6_sums_28 : decode cX6_sums 28 = .ok (.goto 4, 3) := by decide +kernel
theorem dX6_sums_31 : decode cX6_sums 31 = .ok (.iconst 0, 1) := by decide +kernel
theorem dX6_sums_32 : decode cX6_sums 32 = .ok (.istore_n 2, 1) := by decide +kernel
theorem dX6_sums_33 : decode cX6_sums 33 = .ok (.iconst 0, 1) := by decide +kernel
theorem dX6_sums_34 : decode cX6_sums 34 = .ok (.istore_n 3, 1) := by decide +kernel
theorem dX6_sums_35 : decode cX6_sums 35 = .ok (.iload_n 3, 1) := by decide +kernel
theorem dX6_sums_36 : decode cX6_sums 36 = .ok (.aload_n 0, 1) := by decide +kernel
theorem dX6_sums_37 : decode cX6_sums 37 = .ok (.getfield 7, 3) := by decide +kernel
theorem dX6_sums_40 : decode cX6_sums 40 = .ok (.iconst 0, 1) := by decide +kernel
theorem dX6_sums_41 : decode cX6_sums 41 = .ok (.iaload, 1) := by decide +kernel
theorem dX6_sums_42 : decode cX6_sums 42 = .ok (.if_icmp .ge 72, 3) := by decide +kernel
theorem dX6_sums_45 : decode cX6_sums 45 = .ok (.aload_n 0, 1) := by decide +kernel
theorem dX6_sums_46 : decode cX6_sums 46 = .ok (.aload_n 0, 1) := by decide +kernel
theorem dX6_sums_47 : decode cX6_sums 47 = .ok (.getfield 7, 3) := by decide +kernel
theorem dX6_sums_50 : decode cX6_sums 50 = .ok (.iload_n 3, 1) := by decide +kernel
theorem dX6_sums_51 : decode cX6_sums 51 = .ok (.iconst 1, 1) := by decide +kernel
theorem dX6_sums_52 : decode cX6_sums 52 = .ok (.invokestatic 42, 3) := by decide +kernel
theorem dX6_sums_55 : decode cX6_sums 55 = .ok (.iaload, 1) := by decide +kernel
theorem dX6_sums_56 : decode cX6_sums 56 = .ok (.iload_n 2, 1) := by decide +kernel
theorem dX6_sums_57 : decode cX6_sums 57 = .ok (.ifCond .eq 16, 3) := by decide +kernel
theorem dX6_sums_60 : decode cX6_sums 60 = .ok (.aload_n 0, 1) := by decide +kernel
theorem dX6_sums_61 : decode cX6_sums 61 = .ok (.getfield 7, 3) := by decide +kernel
theorem dX6_sums_64 : decode cX6_sums 64 = .ok (.iload_n 3, 1) := by decide +kernel
theorem dX6_sums_65 : decode cX6_sums 65 = .ok (.iconst 2, 1) := by decide +kernel
theorem dX6_sums_66 : decode cX6_sums 66 = .ok (.invokestatic 42, 3) := by decide +kernel
theorem dX6_sums_69 : decode cX6_sums 69 = .ok (.iaload, 1) := by decide +kernel
theorem dX6_sums_70 : decode cX6_sums 70 = .ok (.goto 4, 3) := by decide +kernel
theorem dX6_sums_73 : decode cX6_sums 73 = .ok (.iconst 1, 1) := by decide +kernel
theorem dX6_sums_74 : decode cX6_sums 74 = .ok (.imul, 1) := by decide +kernel
theorem dX6_sums_75 : decode cX6_sums 75 = .ok (.iload_n 1, 1) := by decide +kernel
theorem dX6_sums_76 : decode cX6_sums 76 = .ok (.iconst 2, 1) := by decide +kernel
theorem dX6_sums_77 : decode cX6_sums 77 = .ok (.if_icmp .ge 16, 3) := by decide +kernel
theorem dX6_sums_80 : decode cX6_sums 80 = .ok (.aload_n 0, 1) := by decide +kernel
theorem dX6_sums_81 : decode cX6_sums 81 = .ok (.getfield 7, 3) := by decide +kernel
theorem dX6_sums_84 : decode cX6_sums 84 = .ok (.iload_n 3, 1) := by decide +kernel
theorem dX6_sums_85 : decode cX6_sums 85 = .ok (.iconst 0, 1) := by decide +kernel
theorem dX6_sums_86 : decode cX6_sums 86 = .ok (.invokestatic 42, 3) := by decide +kernel
theorem dX6_sums_89 : decode cX6_sums 89 = .ok (.iaload, 1) := by decide +kernel
theorem dX6_sums_90 : decode cX6_sums 90 = .ok (.goto 15, 3) := by decide +kernel
theorem dX6_sums_93 : decode cX6_sums 93 = .ok (.iconst 2, 1) := by decide +kernel
theorem dX6_sums_94 : decode cX6_sums 94 = .ok (.aload_n 0, 1) := by decide +kernel
theorem dX6_sums_95 : decode cX6_sums 95 = .ok (.getfield 7, 3) := by decide +kernel
theorem dX6_sums_98 : decode cX6_sums 98 = .ok (.iload_n 3, 1) := by decide +kernel
theorem dX6_sums_99 : decode cX6_sums 99 = .ok (.iconst 0, 1) := by decide +kernel
theorem dX6_sums_100 : decode cX6_sums 100 = .ok (.invokestatic 42, 3) := by decide +kernel
theorem dX6_sums_103 : decode cX6_sums 103 = .ok (.iaload, 1) := by decide +kernel
theorem dX6_sums_104 : decode cX6_sums 104 = .ok (.imul, 1) := by decide +kernel
theorem dX6_sums_105 : decode cX6_sums 105 = .ok (.invokevirtual 67, 3) := by decide +kernel
theorem dX6_sums_108 : decode cX6_sums 108 = .ok (.iinc 3 1, 3) := by decide +kernel
theorem dX6_sums_111 : decode cX6_sums 111 = .ok (.goto (-76), 3) := by decide +kernel
theorem dX6_sums_114 : decode cX6_sums 114 = .ok (.iconst 0, 1) := by decide +kernel
theorem dX6_sums_115 : decode cX6_sums 115 = .ok (.istore_n 3, 1) := by decide +kernel
theorem dX6_sums_116 : decode cX6_sums 116 = .ok (.iload_n 3, 1) := by decide +kernel
theorem dX6_sums_117 : decode cX6_sums 117 = .ok (.aload_n 0, 1) := by decide +kernel
theorem dX6_sums_118 : decode cX6_sums 118 = .ok (.getfield 7, 3) := by decide +kernel
theorem dX6_sums_121 : decode cX6_sums 121 = .ok (.iconst 3, 1) := by decide +kernel
theorem dX6_sums_122 : decode cX6_sums 122 = .ok (.iaload, 1) := by decide +kernel
theorem dX6_sums_123 : decode cX6_sums 123 = .ok (.if_icmp .ge 64, 3) := by decide +kernel
theorem dX6_sums_126 : decode cX6_sums 126 = .ok (.iload_n 1, 1) := by decide +kernel
theorem dX6_sums_127 : decode cX6_sums 127 = .ok (.iconst 2, 1) := by decide +kernel
theorem dX6_sums_128 : decode cX6_sums 128 = .ok (.if_icmp .ge 59, 3) := by decide +kernel
theorem dX6_sums_131 : decode cX6_sums 131 = .ok (.aload_n 0, 1) := by decide +kernel
theorem dX6_sums_132 : decode cX6_sums 132 = .ok (.aload_n 0, 1) := by decide +kernel
theorem dX6_sums_133 : decode cX6_sums 133 = .ok (.getfield 7, 3) := by decide +kernel
theorem dX6_sums_136 : decode cX6_sums 136 = .ok (.bipush 44, 2) := by decide +kernel
theorem dX6_sums_138 : decode cX6_sums 138 = .ok (.iconst 3, 1) := by decide +kernel
theorem dX6_sums_139 : decode cX6_sums 139 = .ok (.iload_n 3, 1) := by decide +kernel
theorem dX6_sums_140 : decode cX6_sums 140 = .ok (.imul, 1) := by decide +kernel
theorem dX6_sums_141 : decode cX6_sums 141 = .ok (.iadd, 1) := by decide +kernel
theorem dX6_sums_142 : decode cX6_sums 142 = .ok (.iconst 2, 1) := by decide +kernel
theorem dX6_sums_143 : decode cX6_sums 143 = .ok (.iadd, 1) := by decide +kernel
theorem dX6_sums_144 : decode cX6_sums 144 = .ok (.iaload, 1) := by decide +kernel
theorem dX6_sums_145 : decode cX6_sums 145 = .ok (.iload_n 2, 1) := by decide +kernel
theorem dX6_sums_146 : decode cX6_sums 146 = .ok (.ifCond .eq 17, 3) := by decide +kernel
theorem dX6_sums_149 : decode cX6_sums 149 = .ok (.aload_n 0, 1) := by decide +kernel
theorem dX6_sums_150 : decode cX6_sums 150 = .ok (.getfield 7, 3) := by decide +kernel
theorem dX6_sums_153 : decode cX6_sums 153 = .ok (.bipush 44, 2) := by decide +kernel
theorem dX6_sums_155 : decode cX6_sums 155 = .ok (.iconst 3, 1) := by decide +kernel
theorem dX6_sums_156 : decode cX6_sums 156 = .ok (.iload_n 3, 1) := by decide +kernel
theorem dX6_sums_157 : decode cX6_sums 157 = .ok (.imul, 1) := by decide +kernel
theorem dX6_sums_158 : decode cX6_sums 158 = .ok (.iadd, 1) := by decide +kernel
theorem dX6_sums_159 : decode cX6_sums 159 = .ok (.iaload, 1) := by decide +kernel
theorem dX6_sums_160 : decode cX6_sums 160 = .ok (.goto 4, 3) := by decide +kernel
theorem dX6_sums_163 : decode cX6_sums 163 = .ok (.iconst 1, 1) := by decide +kernel
theorem dX6_sums_164 : decode cX6_sums 164 = .ok (.imul, 1) := by decide +kernel
theorem dX6_sums_165 : decode cX6_sums 165 = .ok (.aload_n 0, 1) := by decide +kernel
theorem dX6_sums_166 : decode cX6_sums 166 = .ok (.getfield 7, 3) := by decide +kernel
theorem dX6_sums_169 : decode cX6_sums 169 = .ok (.bipush 44, 2) := by decide +kernel
theorem dX6_sums_171 : decode cX6_sums 171 = .ok (.iconst 3, 1) := by decide +kernel
theorem dX6_sums_172 : decode cX6_sums 172 = .ok (.iload_n 3, 1) := by decide +kernel
theorem dX6_sums_173 : decode cX6_sums 173 = .ok (.imul, 1) := by decide +kernel
theorem dX6_sums_174 : decode cX6_sums 174 = .ok (.iadd, 1) := by decide +kernel
theorem dX6_sums_175 : decode cX6_sums 175 = .ok (.iconst 1, 1) := by decide +kernel
theorem dX6_sums_176 : decode cX6_sums 176 = .ok (.iadd, 1) := by decide +kernel
theorem dX6_sums_177 : decode cX6_sums 177 = .ok (.iaload, 1) := by decide +kernel
theorem dX6_sums_178 : decode cX6_sums 178 = .ok (.invokevirtual 67, 3) := by decide +kernel
theorem dX6_sums_181 : decode cX6_sums 181 = .ok (.iinc 3 1, 3) := by decide +kernel
theorem dX6_sums_184 : decode cX6_sums 184 = .ok (.goto (-68), 3) := by decide +kernel
theorem dX6_sums_187 : decode cX6_sums 187 = .ok (.return_, 1) := by decide +kernel
theorem dX6_vector_0 : decode cX6_vector 0 = .ok (.iload_n 1, 1) := by decide +kernel
theorem dX6_vector_1 : decode cX6_vector 1 = .ok (.iconst 0, 1) := by decide +kernel
theorem dX6_vector_2 : decode cX6_vector 2 = .ok (.iconst 3, 1) := by decide +kernel
theorem dX6_vector_3 : decode cX6_vector 3 = .ok (.invokestatic 50, 3) := by decide +kernel
theorem dX6_vector_6 : decode cX6_vector 6 = .ok (.ifCond .ne 6, 3) := by decide +kernel
theorem dX6_vector_9 : decode cX6_vector 9 = .ok (.ldc 62, 2) := by decide +kernel
theorem dX6_vector_11 : decode cX6_vector 11 = .ok (.ireturn, 1) := by decide +kernel
theorem dX6_vector_12 : decode cX6_vector 12 = .ok (.aload_n 0, 1) := by decide +kernel
theorem dX6_vector_13 : decode cX6_vector 13 = .ok (.iload_n 1, 1) := by decide +kernel
theorem dX6_vector_14 : decode cX6_vector 14 = .ok (.invokevirtual 71, 3) := by decide +kernel
theorem dX6_vector_17 : decode cX6_vector 17 = .ok (.aload_n 0, 1) := by decide +kernel
theorem dX6_vector_18 : decode cX6_vector 18 = .ok (.getfield 29, 3) := by decide +kernel
theorem dX6_vector_21 : decode cX6_vector 21 = .ok (.iload_n 2, 1) := by decide +kernel
theorem dX6_vector_22 : decode cX6_vector 22 = .ok (.ifCond .eq 7, 3) := by decide +kernel
theorem dX6_vector_25 : decode cX6_vector 25 = .ok (.iconst 2, 1) := by decide +kernel
theorem dX6_vector_26 : decode cX6_vector 26 = .ok (.goto 4, 3) := by decide +kernel
theorem dX6_vector_29 : decode cX6_vector 29 = .ok (.iconst 0, 1) := by decide +kernel
theorem dX6_vector_30 : decode cX6_vector 30 = .ok (.iload_n 3, 1) := by decide +kernel
theorem dX6_vector_31 : decode cX6_vector 31 = .ok (.ifCond .eq 7, 3) := by decide +kernel
theorem dX6_vector_34 : decode cX6_vector 34 = .ok (.iconst 1, 1) := by decide +kernel
theorem dX6_vector_35 : decode cX6_vector 35 = .ok (.goto 4, 3) := by decide +kernel
theorem dX6_vector_38 : decode cX6_vector 38 = .ok (.iconst 0, 1) := by decide +kernel
theorem dX6_vector_39 : decode cX6_vector 39 = .ok (.iadd, 1) := by decide +kernel
theorem dX6_vector_40 : decode cX6_vector 40 = .ok (.iaload, 1) := by decide +kernel
theorem dX6_vector_41 : decode cX6_vector 41 = .ok (.ireturn, 1) := by decide +kernel
theorem dX6_isNothing_0 : decode cX6_isNothing 0 = .ok (.aload_n 0, 1) := by decide +kernel
theorem dX6_isNothing_1 : decode cX6_isNothing 1 = .ok (.getfield 29, 3) := by decide +kernel
theorem dX6_isNothing_4 : decode cX6_isNothing 4 = .ok (.iconst 0, 1) := by decide +kernel
theorem dX6_isNothing_5 : decode cX6_isNothing 5 = .ok (.iaload, 1) := by decide +kernel
theorem dX6_isNothing_6 : decode cX6_isNothing 6 = .ok (.ifCond .ne 34, 3) := by decide +kernel
theorem dX6_isNothing_9 : decode cX6_isNothing 9 = .ok (.aload_n 0, 1) := by decide +kernel
theorem dX6_isNothing_10 : decode cX6_isNothing 10 = .ok (.getfield 29, 3) := by decide +kernel
theorem dX6_isNothing_13 : decode cX6_isNothing 13 = .ok (.iconst 1, 1) := by decide +kernel
theorem dX6_isNothing_14 : decode cX6_isNothing 14 = .ok (.iaload, 1) := by decide +kernel
theorem dX6_isNothing_15 : decode cX6_isNothing 15 = .ok (.ifCond .ne 25, 3) := by decide +kernel
theorem dX6_isNothing_18 : decode cX6_isNothing 18 = .ok (.aload_n 0, 1) := by decide +kernel
theorem dX6_isNothing_19 : decode cX6_isNothing 19 = .ok (.getfield 29, 3) := by decide +kernel
theorem dX6_isNothing_22 : decode cX6_isNothing 22 = .ok (.iconst 2, 1) := by decide +kernel
theorem dX6_isNothing_23 : decode cX6_isNothing 23 = .ok (.iaload, 1) := by decide +kernel
theorem dX6_isNothing_24 : decode cX6_isNothing 24 = .ok (.ifCond .ne 16, 3) := by decide +kernel
theorem dX6_isNothing_27 : decode cX6_isNothing 27 = .ok (.aload_n 0, 1) := by decide +kernel
theorem dX6_isNothing_28 : decode cX6_isNothing 28 = .ok (.getfield 29, 3) := by decide +kernel
theorem dX6_isNothing_31 : decode cX6_isNothing 31 = .ok (.iconst 3, 1) := by decide +kernel
theorem dX6_isNothing_32 : decode cX6_isNothing 32 = .ok (.iaload, 1) := by decide +kernel
theorem dX6_isNothing_33 : decode cX6_isNothing 33 = .ok (.ifCond .ne 7, 3) := by decide +kernel
theorem dX6_isNothing_36 : decode cX6_isNothing 36 = .ok (.iconst 1, 1) := by decide +kernel
theorem dX6_isNothing_37 : decode cX6_isNothing 37 = .ok (.goto 4, 3) := by decide +kernel
theorem dX6_isNothing_40 : decode cX6_isNothing 40 = .ok (.iconst 0, 1) := by decide +kernel
theorem dX6_isNothing_41 : decode cX6_isNothing 41 = .ok (.ireturn, 1) := by decide +kernel
theorem dX6_balancedNow_0 : decode cX6_balancedNow 0 = .ok (.iconst 0, 1) := by decide +kernel
theorem dX6_balancedNow_1 : decode cX6_balancedNow 1 = .ok (.istore_n 1, 1) := by decide +kernel
theorem dX6_balancedNow_2 : decode cX6_balancedNow 2 = .ok (.iconst 0, 1) := by decide +kernel
theorem dX6_balancedNow_3 : decode cX6_balancedNow 3 = .ok (.istore_n 2, 1) := by decide +kernel
theorem dX6_balancedNow_4 : decode cX6_balancedNow 4 = .ok (.iload_n 2, 1) := by decide +kernel
