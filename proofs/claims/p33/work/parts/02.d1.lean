/-! decode rows, 1 of 5 -/
theorem dX0_init_0 : decode cX0_init 0 = .ok (.aload_n 0, 1) := by decide +kernel
theorem dX0_init_1 : decode cX0_init 1 = .ok (.invokespecial 3, 3) := by decide +kernel
theorem dX0_init_4 : decode cX0_init 4 = .ok (.aload_n 0, 1) := by decide +kernel
theorem dX0_init_5 : decode cX0_init 5 = .ok (.bipush 8, 2) := by decide +kernel
theorem dX0_init_7 : decode cX0_init 7 = .ok (.newarray .int, 2) := by decide +kernel
theorem dX0_init_9 : decode cX0_init 9 = .ok (.putfield 9, 3) := by decide +kernel
theorem dX0_init_12 : decode cX0_init 12 = .ok (.aload_n 0, 1) := by decide +kernel
theorem dX0_init_13 : decode cX0_init 13 = .ok (.bipush 64, 2) := by decide +kernel
theorem dX0_init_15 : decode cX0_init 15 = .ok (.newarray .int, 2) := by decide +kernel
theorem dX0_init_17 : decode cX0_init 17 = .ok (.putfield 15, 3) := by decide +kernel
theorem dX0_init_20 : decode cX0_init 20 = .ok (.aload_n 0, 1) := by decide +kernel
theorem dX0_init_21 : decode cX0_init 21 = .ok (.bipush 64, 2) := by decide +kernel
theorem dX0_init_23 : decode cX0_init 23 = .ok (.newarray .int, 2) := by decide +kernel
theorem dX0_init_25 : decode cX0_init 25 = .ok (.putfield 18, 3) := by decide +kernel
theorem dX0_init_28 : decode cX0_init 28 = .ok (.return_, 1) := by decide +kernel
theorem dX0_layOut_0 : decode cX0_layOut 0 = .ok (.aload_n 0, 1) := by decide +kernel
theorem dX0_layOut_1 : decode cX0_layOut 1 = .ok (.iconst 0, 1) := by decide +kernel
theorem dX0_layOut_2 : decode cX0_layOut 2 = .ok (.putfield 21, 3) := by decide +kernel
theorem dX0_layOut_5 : decode cX0_layOut 5 = .ok (.aload_n 0, 1) := by decide +kernel
theorem dX0_layOut_6 : decode cX0_layOut 6 = .ok (.aload_n 1, 1) := by decide +kernel
theorem dX0_layOut_7 : decode cX0_layOut 7 = .ok (.getfield 25, 3) := by decide +kernel
theorem dX0_layOut_10 : decode cX0_layOut 10 = .ok (.putfield 30, 3) := by decide +kernel
theorem dX0_layOut_13 : decode cX0_layOut 13 = .ok (.aload_n 0, 1) := by decide +kernel
theorem dX0_layOut_14 : decode cX0_layOut 14 = .ok (.aload_n 1, 1) := by decide +kernel
theorem dX0_layOut_15 : decode cX0_layOut 15 = .ok (.invokevirtual 31, 3) := by decide +kernel
theorem dX0_layOut_18 : decode cX0_layOut 18 = .ok (.putfield 35, 3) := by decide +kernel
theorem dX0_layOut_21 : decode cX0_layOut 21 = .ok (.aload_n 0, 1) := by decide +kernel
theorem dX0_layOut_22 : decode cX0_layOut 22 = .ok (.getfield 30, 3) := by decide +kernel
theorem dX0_layOut_25 : decode cX0_layOut 25 = .ok (.iconst 1, 1) := by decide +kernel
theorem dX0_layOut_26 : decode cX0_layOut 26 = .ok (.if_icmp .lt 42, 3) := by decide +kernel
theorem dX0_layOut_29 : decode cX0_layOut 29 = .ok (.aload_n 0, 1) := by decide +kernel
theorem dX0_layOut_30 : decode cX0_layOut 30 = .ok (.getfield 35, 3) := by decide +kernel
theorem dX0_layOut_33 : decode cX0_layOut 33 = .ok (.aload_n 0, 1) := by decide +kernel
theorem dX0_layOut_34 : decode cX0_layOut 34 = .ok (.getfield 30, 3) := by decide +kernel
theorem dX0_layOut_37 : decode cX0_layOut 37 = .ok (.irem, 1) := by decide +kernel
theorem dX0_layOut_38 : decode cX0_layOut 38 = .ok (.ifCond .ne 30, 3) := by decide +kernel
theorem dX0_layOut_41 : decode cX0_layOut 41 = .ok (.aload_n 0, 1) := by decide +kernel
theorem dX0_layOut_42 : decode cX0_layOut 42 = .ok (.aload_n 0, 1) := by decide +kernel
theorem dX0_layOut_43 : decode cX0_layOut 43 = .ok (.getfield 35, 3) := by decide +kernel
theorem dX0_layOut_46 : decode cX0_layOut 46 = .ok (.aload_n 0, 1) := by decide +kernel
theorem dX0_layOut_47 : decode cX0_layOut 47 = .ok (.getfield 30, 3) := by decide +kernel
theorem dX0_layOut_50 : decode cX0_layOut 50 = .ok (.idiv, 1) := by decide +kernel
theorem dX0_layOut_51 : decode cX0_layOut 51 = .ok (.putfield 37, 3) := by decide +kernel
theorem dX0_layOut_54 : decode cX0_layOut 54 = .ok (.aload_n 0, 1) := by decide +kernel
theorem dX0_layOut_55 : decode cX0_layOut 55 = .ok (.getfield 9, 3) := by decide +kernel
theorem dX0_layOut_58 : decode cX0_layOut 58 = .ok (.iconst 0, 1) := by decide +kernel
theorem dX0_layOut_59 : decode cX0_layOut 59 = .ok (.iconst 0, 1) := by decide +kernel
theorem dX0_layOut_60 : decode cX0_layOut 60 = .ok (.iastore, 1) := by decide +kernel
theorem dX0_layOut_61 : decode cX0_layOut 61 = .ok (.aload_n 0, 1) := by decide +kernel
theorem dX0_layOut_62 : decode cX0_layOut 62 = .ok (.aload_n 1, 1) := by decide +kernel
theorem dX0_layOut_63 : decode cX0_layOut 63 = .ok (.iconst 1, 1) := by decide +kernel
theorem dX0_layOut_64 : decode cX0_layOut 64 = .ok (.iconst 1, 1) := by decide +kernel
theorem dX0_layOut_65 : decode cX0_layOut 65 = .ok (.invokestatic 40, 3) := by decide +kernel
theorem dX0_layOut_68 : decode cX0_layOut 68 = .ok (.return_, 1) := by decide +kernel
theorem dX0_extend_0 : decode cX0_extend 0 = .ok (.iload_n 2, 1) := by decide +kernel
theorem dX0_extend_1 : decode cX0_extend 1 = .ok (.aload_n 0, 1) := by decide +kernel
theorem dX0_extend_2 : decode cX0_extend 2 = .ok (.getfield 30, 3) := by decide +kernel
theorem dX0_extend_5 : decode cX0_extend 5 = .ok (.if_icmp .lt 9, 3) := by decide +kernel
theorem dX0_extend_8 : decode cX0_extend 8 = .ok (.aload_n 0, 1) := by decide +kernel
theorem dX0_extend_9 : decode cX0_extend 9 = .ok (.aload_n 1, 1) := by decide +kernel
theorem dX0_extend_10 : decode cX0_extend 10 = .ok (.invokevirtual 44, 3) := by decide +kernel
theorem dX0_extend_13 : decode cX0_extend 13 = .ok (.return_, 1) := by decide +kernel
theorem dX0_extend_14 : decode cX0_extend 14 = .ok (.aload_n 1, 1) := by decide +kernel
theorem dX0_extend_15 : decode cX0_extend 15 = .ok (.iconst 0, 1) := by decide +kernel
theorem dX0_extend_16 : decode cX0_extend 16 = .ok (.invokevirtual 48, 3) := by decide +kernel
theorem dX0_extend_19 : decode cX0_extend 19 = .ok (.iload_n 2, 1) := by decide +kernel
theorem dX0_extend_20 : decode cX0_extend 20 = .ok (.aload_n 0, 1) := by decide +kernel
theorem dX0_extend_21 : decode cX0_extend 21 = .ok (.getfield 37, 3) := by decide +kernel
theorem dX0_extend_24 : decode cX0_extend 24 = .ok (.imul, 1) := by decide +kernel
theorem dX0_extend_25 : decode cX0_extend 25 = .ok (.iadd, 1) := by decide +kernel
theorem dX0_extend_26 : decode cX0_extend 26 = .ok (.bipush 12, 2) := by decide +kernel
theorem dX0_extend_28 : decode cX0_extend 28 = .ok (.irem, 1) := by decide +kernel
theorem dX0_extend_29 : decode cX0_extend 29 = .ok (.istore 4, 2) := by decide +kernel
theorem dX0_extend_31 : decode cX0_extend 31 = .ok (.iconst 1, 1) := by decide +kernel
theorem dX0_extend_32 : decode cX0_extend 32 = .ok (.istore 5, 2) := by decide +kernel
theorem dX0_extend_34 : decode cX0_extend 34 = .ok (.iload 5, 2) := by decide +kernel
theorem dX0_extend_36 : decode cX0_extend 36 = .ok (.aload_n 0, 1) := by decide +kernel
theorem dX0_extend_37 : decode cX0_extend 37 = .ok (.getfield 30, 3) := by decide +kernel
theorem dX0_extend_40 : decode cX0_extend 40 = .ok (.if_icmp .ge 51, 3) := by decide +kernel
theorem dX0_extend_43 : decode cX0_extend 43 = .ok (.iload_n 3, 1) := by decide +kernel
theorem dX0_extend_44 : decode cX0_extend 44 = .ok (.iload 5, 2) := by decide +kernel
theorem dX0_extend_46 : decode cX0_extend 46 = .ok (.ishr, 1) := by decide +kernel
theorem dX0_extend_47 : decode cX0_extend 47 = .ok (.iconst 1, 1) := by decide +kernel
theorem dX0_extend_48 : decode cX0_extend 48 = .ok (.iand, 1) := by decide +kernel
theorem dX0_extend_49 : decode cX0_extend 49 = .ok (.ifCond .ne 36, 3) := by decide +kernel
theorem dX0_extend_52 : decode cX0_extend 52 = .ok (.aload_n 1, 1) := by decide +kernel
theorem dX0_extend_53 : decode cX0_extend 53 = .ok (.iload 5, 2) := by decide +kernel
theorem dX0_extend_55 : decode cX0_extend 55 = .ok (.invokevirtual 48, 3) := by decide +kernel
theorem dX0_extend_58 : decode cX0_extend 58 = .ok (.iload 4, 2) := by decide +kernel
theorem dX0_extend_60 : decode cX0_extend 60 = .ok (.if_icmp .ne 25, 3) := by decide +kernel
theorem dX0_extend_63 : decode cX0_extend 63 = .ok (.aload_n 0, 1) := by decide +kernel
theorem dX0_extend_64 : decode cX0_extend 64 = .ok (.getfield 9, 3) := by decide +kernel
theorem dX0_extend_67 : decode cX0_extend 67 = .ok (.iload_n 2, 1) := by decide +kernel
theorem dX0_extend_68 : decode cX0_extend 68 = .ok (.iload 5, 2) := by decide +kernel
theorem dX0_extend_70 : decode cX0_extend 70 = .ok (.iastore, 1) := by decide +kernel
theorem dX0_extend_71 : decode cX0_extend 71 = .ok (.aload_n 0, 1) := by decide +kernel
theorem dX0_extend_72 : decode cX0_extend 72 = .ok (.aload_n 1, 1) := by decide +kernel
theorem dX0_extend_73 : decode cX0_extend 73 = .ok (.iload_n 2, 1) := by decide +kernel
theorem dX0_extend_74 : decode cX0_extend 74 = .ok (.iconst 1, 1) := by decide +kernel
theorem dX0_extend_75 : decode cX0_extend 75 = .ok (.iadd, 1) := by decide +kernel
theorem dX0_extend_76 : decode cX0_extend 76 = .ok (.iload_n 3, 1) := by decide +kernel
theorem dX0_extend_77 : decode cX0_extend 77 = .ok (.iconst 1, 1) := by decide +kernel
theorem dX0_extend_78 : decode cX0_extend 78 = .ok (.iload 5, 2) := by decide +kernel
theorem dX0_extend_80 : decode cX0_extend 80 = .ok (.ishl, 1) := by decide +kernel
theorem dX0_extend_81 : decode cX0_extend 81 = .ok (.ior, 1) := by decide +kernel
theorem dX0_extend_82 : decode cX0_extend 82 = .ok (.invokestatic 40, 3) := by decide +kernel
theorem dX0_extend_85 : decode cX0_extend 85 = .ok (.iinc 5 1, 3) := by decide +kernel
theorem dX0_extend_88 : decode cX0_extend 88 = .ok (.goto (-54), 3) := by decide +kernel
theorem dX0_extend_91 : decode cX0_extend 91 = .ok (.return_, 1) := by decide +kernel
theorem dX0_enter_0 : decode cX0_enter 0 = .ok (.aload_n 0, 1) := by decide +kernel
theorem dX0_enter_1 : decode cX0_enter 1 = .ok (.getfield 21, 3) := by decide +kernel
theorem dX0_enter_4 : decode cX0_enter 4 = .ok (.bipush 8, 2) := by decide +kernel
theorem dX0_enter_6 : decode cX0_enter 6 = .ok (.if_icmp .lt 4, 3) := by decide +kernel
theorem dX0_enter_9 : decode cX0_enter 9 = .ok (.return_, 1) := by decide +kernel
theorem dX0_enter_10 : decode cX0_enter 10 = .ok (.aload_n 0, 1) := by decide +kernel
theorem dX0_enter_11 : decode cX0_enter 11 = .ok (.getfield 21, 3) := by decide +kernel
theorem dX0_enter_14 : decode cX0_enter 14 = .ok (.bipush 8, 2) := by decide +kernel
theorem dX0_enter_16 : decode cX0_enter 16 = .ok (.imul, 1) := by decide +kernel
theorem dX0_enter_17 : decode cX0_enter 17 = .ok (.istore_n 2, 1) := by decide +kernel
theorem dX0_enter_18 : decode cX0_enter 18 = .ok (.aload_n 1, 1) := by decide +kernel
theorem dX0_enter_19 : decode cX0_enter 19 = .ok (.iconst 0, 1) := by decide +kernel
theorem dX0_enter_20 : decode cX0_enter 20 = .ok (.invokevirtual 48, 3) := by decide +kernel
theorem dX0_enter_23 : decode cX0_enter 23 = .ok (.istore_n 3, 1) := by decide +kernel
theorem dX0_enter_24 : decode cX0_enter 24 = .ok (.iconst 0, 1) := by decide +kernel
theorem dX0_enter_25 : decode cX0_enter 25 = .ok (.istore 4, 2) := by decide +kernel
theorem dX0_enter_27 : decode cX0_enter 27 = .ok (.iload 4, 2) := by decide +kernel
theorem dX0_enter_29 : decode cX0_enter 29 = .ok (.aload_n 0, 1) := by decide +kernel
theorem dX0_enter_30 : decode cX0_enter 30 = .ok (.getfield 30, 3) := by decide +kernel
theorem dX0_enter_33 : decode cX0_enter 33 = .ok (.if_icmp .ge 74, 3) := by decide +kernel
theorem dX0_enter_36 : decode cX0_enter 36 = .ok (.aload_n 0, 1) := by decide +kernel
theorem dX0_enter_37 : decode cX0_enter 37 = .ok (.getfield 15, 3) := by decide +kernel
theorem dX0_enter_40 : decode cX0_enter 40 = .ok (.iload_n 2, 1) := by decide +kernel
theorem dX0_enter_41 : decode cX0_enter 41 = .ok (.iload 4, 2) := by decide +kernel
theorem dX0_enter_43 : decode cX0_enter 43 = .ok (.iadd, 1) := by decide +kernel
theorem dX0_enter_44 : decode cX0_enter 44 = .ok (.aload_n 0, 1) := by decide +kernel
theorem dX0_enter_45 : decode cX0_enter 45 = .ok (.getfield 9, 3) := by decide +kernel
theorem dX0_enter_48 : decode cX0_enter 48 = .ok (.iload 4, 2) := by decide +kernel
theorem dX0_enter_50 : decode cX0_enter 50 = .ok (.iaload, 1) := by decide +kernel
theorem dX0_enter_51 : decode cX0_enter 51 = .ok (.iastore, 1) := by decide +kernel
theorem dX0_enter_52 : decode cX0_enter 52 = .ok (.aload_n 0, 1) := by decide +kernel
theorem dX0_enter_53 : decode cX0_enter 53 = .ok (.getfield 18, 3) := by decide +kernel
theorem dX0_enter_56 : decode cX0_enter 56 = .ok (.iload_n 2, 1) := by decide +kernel
theorem dX0_enter_57 : decode cX0_enter 57 = .ok (.aload_n 0, 1) := by decide +kernel
theorem dX0_enter_58 : decode cX0_enter 58 = .ok (.getfield 9, 3) := by decide +kernel
theorem dX0_enter_61 : decode cX0_enter 61 = .ok (.iload 4, 2) := by decide +kernel
theorem dX0_enter_63 : decode cX0_enter 63 = .ok (.iaload, 1) := by decide +kernel
theorem dX0_enter_64 : decode cX0_enter 64 = .ok (.iadd, 1) := by decide +kernel
theorem dX0_enter_65 : decode cX0_enter 65 = .ok (.iload_n 3, 1) := by decide +kernel
theorem dX0_enter_66 : decode cX0_enter 66 = .ok (.iastore, 1) := by decide +kernel
theorem dX0_enter_67 : decode cX0_enter 67 = .ok (.iload_n 3, 1) := by decide +kernel
theorem dX0_enter_68 : decode cX0_enter 68 = .ok (.aload_n 0, 1) := by decide +kernel
theorem dX0_enter_69 : decode cX0_enter 69 = .ok (.getfield 37, 3) := by decide +kernel
theorem dX0_enter_72 : decode cX0_enter 72 = .ok (.iadd, 1) := by decide +kernel
theorem dX0_enter_73 : decode cX0_enter 73 = .ok (.aload_n 0, 1) := by decide +kernel
theorem dX0_enter_74 : decode cX0_enter 74 = .ok (.getfield 35, 3) := by decide +kernel
theorem dX0_enter_77 : decode cX0_enter 77 = .ok (.if_icmp .ge 12, 3) := by decide +kernel
theorem dX0_enter_80 : decode cX0_enter 80 = .ok (.iload_n 3, 1) := by decide +kernel
theorem dX0_enter_81 : decode cX0_enter 81 = .ok (.aload_n 0, 1) := by decide +kernel
theorem dX0_enter_82 : decode cX0_enter 82 = .ok (.getfield 37, 3) := by decide +kernel
theorem dX0_enter_85 : decode cX0_enter 85 = .ok (.iadd, 1) := by decide +kernel
theorem dX0_enter_86 : decode cX0_enter 86 = .ok (.goto 14, 3) := by decide +kernel
theorem dX0_enter_89 : decode cX0_enter 89 = .ok (.iload_n 3, 1) := by decide +kernel
theorem dX0_enter_90 : decode cX0_enter 90 = .ok (.aload_n 0, 1) := by decide +kernel
theorem dX0_enter_91 : decode cX0_enter 91 = .ok (.getfield 37, 3) := by decide +kernel
theorem dX0_enter_94 : decode cX0_enter 94 = .ok (.iadd, 1) := by decide +kernel
theorem dX0_enter_95 : decode cX0_enter 95 = .ok (.aload_n 0, 1) := by decide +kernel
theorem dX0_enter_96 : decode cX0_enter 96 = .ok (.getfield 35, 3) := by decide +kernel
theorem dX0_enter_99 : decode cX0_enter 99 = .ok (.isub, 1) := by decide +kernel
theorem dX0_enter_100 : decode cX0_enter 100 = .ok (.istore_n 3, 1) := by decide +kernel
theorem dX0_enter_101 : decode cX0_enter 101 = .ok (.iinc 4 1, 3) := by decide +kernel
theorem dX0_enter_104 : decode cX0_enter 104 = .ok (.goto (-77), 3) := by decide +kernel
theorem dX0_enter_107 : decode cX0_enter 107 = .ok (.aload_n 0, 1) := by decide +kernel
theorem dX0_enter_108 : decode cX0_enter 108 = .ok (.dup, 1) := by decide +kernel
theorem dX0_enter_109 : decode cX0_enter 109 = .ok (.getfield 21, 3) := by decide +kernel
theorem dX0_enter_112 : decode cX0_enter 112 = .ok (.iconst 1, 1) := by decide +kernel
theorem dX0_enter_113 : decode cX0_enter 113 = .ok (.iadd, 1) := by decide +kernel
theorem dX0_enter_114 : decode cX0_enter 114 = .ok (.putfield 21, 3) := by decide +kernel
theorem dX0_enter_117 : decode cX0_enter 117 = .ok (.return_, 1) := by decide +kernel
theorem dX0_cylinderAt_0 : decode cX0_cylinderAt 0 = .ok (.aload_n 0, 1) := by decide +kernel
theorem dX0_cylinderAt_1 : decode cX0_cylinderAt 1 = .ok (.getfield 15, 3) := by decide +kernel
theorem dX0_cylinderAt_4 : decode cX0_cylinderAt 4 = .ok (.iload_n 1, 1) := by decide +kernel
theorem dX0_cylinderAt_5 : decode cX0_cylinderAt 5 = .ok (.bipush 8, 2) := by decide +kernel
theorem dX0_cylinderAt_7 : decode cX0_cylinderAt 7 = .ok (.imul, 1) := by decide +kernel
theorem dX0_cylinderAt_8 : decode cX0_cylinderAt 8 = .ok (.iload_n 2, 1) := by decide +kernel
theorem dX0_cylinderAt_9 : decode cX0_cylinderAt 9 = .ok (.iadd, 1) := by decide +kernel
theorem dX0_cylinderAt_10 : decode cX0_cylinderAt 10 = .ok (.iaload, 1) := by decide +kernel
theorem dX0_cylinderAt_11 : decode cX0_cylinderAt 11 = .ok (.ireturn, 1) := by decide +kernel
theorem dX0_slotOf_0 : decode cX0_slotOf 0 = .ok (.aload_n 0, 1) := by decide +kernel
theorem dX0_slotOf_1 : decode cX0_slotOf 1 = .ok (.getfield 18, 3) := by decide +kernel
theorem dX0_slotOf_4 : decode cX0_slotOf 4 = .ok (.iload_n 1, 1) := by decide +kernel
theorem dX0_slotOf_5 : decode cX0_slotOf 5 = .ok (.bipush 8, 2) := by decide +kernel
theorem dX0_slotOf_7 : decode cX0_slotOf 7 = .ok (.imul, 1) := by decide +kernel
theorem dX0_slotOf_8 : decode cX0_slotOf 8 = .ok (.iload_n 2, 1) := by decide +kernel
theorem dX0_slotOf_9 : decode cX0_slotOf 9 = .ok (.iadd, 1) := by decide +kernel
theorem dX0_slotOf_10 : decode cX0_slotOf 10 = .ok (.iaload, 1) := by decide +kernel
theorem dX0_slotOf_11 : decode cX0_slotOf 11 = .ok (.ireturn, 1) := by decide +kernel
theorem dX0_penalty_0 : decode cX0_penalty 0 = .ok (.iconst 0, 1) := by decide +kernel
theorem dX0_penalty_1 : decode cX0_penalty 1 = .ok (.istore_n 2, 1) := by decide +kernel
theorem dX0_penalty_2 : decode cX0_penalty 2 = .ok (.aload_n 0, 1) := by decide +kernel
theorem dX0_penalty_3 : decode cX0_penalty 3 = .ok (.iload_n 1, 1) := by decide +kernel
theorem dX0_penalty_4 : decode cX0_penalty 4 = .ok (.aload_n 0, 1) := by decide +kernel
theorem dX0_penalty_5 : decode cX0_penalty 5 = .ok (.getfield 30, 3) := by decide +kernel
theorem dX0_penalty_8 : decode cX0_penalty 8 = .ok (.iconst 1, 1) := by decide +kernel
theorem dX0_penalty_9 : decode cX0_penalty 9 = .ok (.isub, 1) := by decide +kernel
theorem dX0_penalty_10 : decode cX0_penalty 10 = .ok (.invokevirtual 52, 3) := by decide +kernel
theorem dX0_penalty_13 : decode cX0_penalty 13 = .ok (.istore_n 3, 1) := by decide +kernel
theorem dX0_penalty_14 : decode cX0_penalty 14 = .ok (.iconst 0, 1) := by decide +kernel
theorem dX0_penalty_15 : decode cX0_penalty 15 = .ok (.istore 4, 2) := by decide +kernel
theorem dX0_penalty_17 : decode cX0_penalty 17 = .ok (.iload 4, 2) := by decide +kernel
theorem dX0_penalty_19 : decode cX0_penalty 19 = .ok (.aload_n 0, 1) := by decide +kernel
theorem dX0_penalty_20 : decode cX0_penalty 20 = .ok (.getfield 30, 3) := by decide +kernel
theorem dX0_penalty_23 : decode cX0_penalty 23 = .ok (.if_icmp .ge 35, 3) := by decide +kernel
theorem dX0_penalty_26 : decode cX0_penalty 26 = .ok (.aload_n 0, 1) := by decide +kernel
theorem dX0_penalty_27 : decode cX0_penalty 27 = .ok (.iload_n 1, 1) := by decide +kernel
theorem dX0_penalty_28 : decode cX0_penalty 28 = .ok (.iload 4, 2) := by decide +kernel
theorem dX0_penalty_30 : decode cX0_penalty 30 = .ok (.invokevirtual 52, 3) := by decide +kernel
theorem dX0_penalty_33 : decode cX0_penalty 33 = .ok (.istore 5, 2) := by decide +kernel
theorem dX0_penalty_35 : decode cX0_penalty 35 = .ok (.iload 5, 2) := by decide +kernel
theorem dX0_penalty_37 : decode cX0_penalty 37 = .ok (.iload_n 3, 1) := by decide +kernel
theorem dX0_penalty_38 : decode cX0_penalty 38 = .ok (.isub, 1) := by decide +kernel
theorem dX0_penalty_39 : decode cX0_penalty 39 = .ok (.invokestatic 56, 3) := by decide +kernel
theorem dX0_penalty_42 : decode cX0_penalty 42 = .ok (.iconst 1, 1) := by decide +kernel
theorem dX0_penalty_43 : decode cX0_penalty 43 = .ok (.if_icmp .ne 6, 3) := by decide +kernel
theorem dX0_penalty_46 : decode cX0_penalty 46 = .ok (.iinc 2 1, 3) := by decide +kernel
theorem dX0_penalty_49 : decode cX0_penalty 49 = .ok (.iload 5, 2) := by decide +kernel
theorem dX0_penalty_51 : decode cX0_penalty 51 = .ok (.istore_n 3, 1) := by decide +kernel
theorem dX0_penalty_52 : decode cX0_penalty 52 = .ok (.iinc 4 1, 3) := by decide +kernel
theorem dX0_penalty_55 : decode cX0_penalty 55 = .ok (.goto (-38), 3) := by decide +kernel
theorem dX0_penalty_58 : decode cX0_penalty 58 = .ok (.iload_n 2, 1) := by decide +kernel
theorem dX0_penalty_59 : decode cX0_penalty 59 = .ok (.ireturn, 1) := by decide +kernel
theorem dX0_greatestLoad_0 : decode cX0_greatestLoad 0 = .ok (.iconst 0, 1) := by decide +kernel
theorem dX0_greatestLoad_1 : decode cX0_greatestLoad 1 = .ok (.istore_n 2, 1) := by decide +kernel
theorem dX0_greatestLoad_2 : decode cX0_greatestLoad 2 = .ok (.iconst 0, 1) := by decide +kernel
theorem dX0_greatestLoad_3 : decode cX0_greatestLoad 3 = .ok (.istore_n 3, 1) := by decide +kernel
theorem dX0_greatestLoad_4 : decode cX0_greatestLoad 4 = .ok (.iload_n 3, 1) := by decide +kernel
theorem dX0_greatestLoad_5 : decode cX0_greatestLoad 5 = .ok (.aload_n 0, 1) := by decide +kernel
theorem dX0_greatestLoad_6 : decode cX0_greatestLoad 6 = .ok (.getfield 30, 3) := by decide +kernel
theorem dX0_greatestLoad_9 : decode cX0_greatestLoad 9 = .ok (.if_icmp .gt 28, 3) := by decide +kernel
theorem dX0_greatestLoad_12 : decode cX0_greatestLoad 12 = .ok (.iload_n 2, 1) := by decide +kernel
theorem dX0_greatestLoad_13 : decode cX0_greatestLoad 13 = .ok (.aload_n 0, 1) := by decide +kernel
theorem dX0_greatestLoad_14 : decode cX0_greatestLoad 14 = .ok (.iload_n 1, 1) := by decide +kernel
theorem dX0_greatestLoad_15 : decode cX0_greatestLoad 15 = .ok (.iconst 1, 1) := by decide +kernel
theorem dX0_greatestLoad_16 : decode cX0_greatestLoad 16 = .ok (.aload_n 0, 1) := by decide +kernel
theorem dX0_greatestLoad_17 : decode cX0_greatestLoad 17 = .ok (.getfield 30, 3) := by decide +kernel
theorem dX0_greatestLoad_20 : decode cX0_greatestLoad 20 = .ok (.ishl, 1) := by decide +kernel
theorem dX0_greatestLoad_21 : decode cX0_greatestLoad 21 = .ok (.iconst 1, 1) := by decide +kernel
theorem dX0_greatestLoad_22 : decode cX0_greatestLoad 22 = .ok (.isub, 1) := by decide +kernel
theorem dX0_greatestLoad_23 : decode cX0_greatestLoad 23 = .ok (.iload_n 3, 1) := by decide +kernel
theorem dX0_greatestLoad_24 : decode cX0_greatestLoad 24 = .ok (.invokevirtual 61, 3) := by decide +kernel
theorem dX0_greatestLoad_27 : decode cX0_greatestLoad 27 = .ok (.invokestatic 65, 3) := by decide +kernel
theorem dX0_greatestLoad_30 : decode cX0_greatestLoad 30 = .ok (.istore_n 2, 1) := by decide +kernel
theorem dX0_greatestLoad_31 : decode cX0_greatestLoad 31 = .ok (.iinc 3 1, 3) := by decide +kernel
theorem dX0_greatestLoad_34 : decode cX0_greatestLoad 34 = .ok (.goto (-30), 3) := by decide +kernel
theorem dX0_greatestLoad_37 : decode cX0_greatestLoad 37 = .ok (.iload_n 2, 1) := by decide +kernel
theorem dX0_greatestLoad_38 : decode cX0_greatestLoad 38 = .ok (.ireturn, 1) := by decide +kernel
theorem dX0_peakOf_0 : decode cX0_peakOf 0 = .ok (.iconst 0, 1) := by decide +kernel
theorem dX0_peakOf_1 : decode cX0_peakOf 1 = .ok (.istore 4, 2) := by decide +kernel
theorem dX0_peakOf_3 : decode cX0_peakOf 3 = .ok (.iload_n 3, 1) := by decide +kernel
theorem dX0_peakOf_4 : decode cX0_peakOf 4 = .ok (.iconst 1, 1) := by decide +kernel
theorem dX0_peakOf_5 : decode cX0_peakOf 5 = .ok (.isub, 1) := by decide +kernel
theorem dX0_peakOf_6 : decode cX0_peakOf 6 = .ok (.istore 5, 2) := by decide +kernel
theorem dX0_peakOf_8 : decode cX0_peakOf 8 = .ok (.iload 5, 2) := by decide +kernel
theorem dX0_peakOf_10 : decode cX0_peakOf 10 = .ok (.iload_n 3, 1) := by decide +kernel
theorem dX0_peakOf_11 : decode cX0_peakOf 11 = .ok (.if_icmp .gt 48, 3) := by decide +kernel
theorem dX0_peakOf_14 : decode cX0_peakOf 14 = .ok (.iload 5, 2) := by decide +kernel
theorem dX0_peakOf_16 : decode cX0_peakOf 16 = .ok (.ifCond .lt 37, 3) := by decide +kernel
theorem dX0_peakOf_19 : decode cX0_peakOf 19 = .ok (.iload 5, 2) := by decide +kernel
theorem dX0_peakOf_21 : decode cX0_peakOf 21 = .ok (.aload_n 0, 1) := by decide +kernel
theorem dX0_peakOf_22 : decode cX0_peakOf 22 = .ok (.getfield 30, 3) := by decide +kernel
theorem dX0_peakOf_25 : decode cX0_peakOf 25 = .ok (.if_icmp .ge 28, 3) := by decide +kernel
theorem dX0_peakOf_28 : decode cX0_peakOf 28 = .ok (.aload_n 0, 1) := by decide +kernel
theorem dX0_peakOf_29 : decode cX0_peakOf 29 = .ok (.iload_n 1, 1) := by decide +kernel
theorem dX0_peakOf_30 : decode cX0_peakOf 30 = .ok (.iload 5, 2) := by decide +kernel
theorem dX0_peakOf_32 : decode cX0_peakOf 32 = .ok (.invokevirtual 68, 3) := by decide +kernel
theorem dX0_peakOf_35 : decode cX0_peakOf 35 = .ok (.istore 6, 2) := by decide +kernel
theorem dX0_peakOf_37 : decode cX0_peakOf 37 = .ok (.iload 4, 2) := by decide +kernel
theorem dX0_peakOf_39 : decode cX0_peakOf 39 = .ok (.aload_n 0, 1) := by decide +kernel
theorem dX0_peakOf_40 : decode cX0_peakOf 40 = .ok (.iload_n 1, 1) := by decide +kernel
theorem dX0_peakOf_41 : decode cX0_peakOf 41 = .ok (.iload_n 2, 1) := by decide +kernel
theorem dX0_peakOf_42 : decode cX0_peakOf 42 = .ok (.iload_n 3, 1) := by decide +kernel
theorem dX0_peakOf_43 : decode cX0_peakOf 43 = .ok (.iload 6, 2) := by decide +kernel
theorem dX0_peakOf_45 : decode cX0_peakOf 45 = .ok (.invokevirtual 71, 3) := by decide +kernel
theorem dX0_peakOf_48 : decode cX0_peakOf 48 = .ok (.invokestatic 65, 3) := by decide +kernel
theorem dX0_peakOf_51 : decode cX0_peakOf 51 = .ok (.istore 4, 2) := by decide +kernel
theorem dX0_peakOf_53 : decode cX0_peakOf 53 = .ok (.iinc 5 1, 3) := by decide +kernel
theorem dX0_peakOf_56 : decode cX0_peakOf 56 = .ok (.goto (-48), 3) := by decide +kernel
theorem dX0_peakOf_59 : decode cX0_peakOf 59 = .ok (.iload 4, 2) := by decide +kernel
theorem dX0_peakOf_61 : decode cX0_peakOf 61 = .ok (.ireturn, 1) := by decide +kernel
theorem dX0_loadOf_0 : decode cX0_loadOf 0 = .ok (.aload_n 0, 1) := by decide +kernel
theorem dX0_loadOf_1 : decode cX0_loadOf 1 = .ok (.iload_n 1, 1) := by decide +kernel
theorem dX0_loadOf_2 : decode cX0_loadOf 2 = .ok (.iload_n 2, 1) := by decide +kernel
theorem dX0_loadOf_3 : decode cX0_loadOf 3 = .ok (.iload_n 3, 1) := by decide +kernel
theorem dX0_loadOf_4 : decode cX0_loadOf 4 = .ok (.iconst 1, 1) := by decide +kernel
theorem dX0_loadOf_5 : decode cX0_loadOf 5 = .ok (.isub, 1) := by decide +kernel
theorem dX0_loadOf_6 : decode cX0_loadOf 6 = .ok (.iload 4, 2) := by decide +kernel
theorem dX0_loadOf_8 : decode cX0_loadOf 8 = .ok (.invokevirtual 75, 3) := by decide +kernel
theorem dX0_loadOf_11 : decode cX0_loadOf 11 = .ok (.aload_n 0, 1) := by decide +kernel
theorem dX0_loadOf_12 : decode cX0_loadOf 12 = .ok (.iload_n 1, 1) := by decide +kernel
theorem dX0_loadOf_13 : decode cX0_loadOf 13 = .ok (.iload_n 2, 1) := by decide +kernel
theorem dX0_loadOf_14 : decode cX0_loadOf 14 = .ok (.iload_n 3, 1) := by decide +kernel
theorem dX0_loadOf_15 : decode cX0_loadOf 15 = .ok (.iload 4, 2) := by decide +kernel
theorem dX0_loadOf_17 : decode cX0_loadOf 17 = .ok (.invokevirtual 75, 3) := by decide +kernel
theorem dX0_loadOf_20 : decode cX0_loadOf 20 = .ok (.iadd, 1) := by decide +kernel
theorem dX0_loadOf_21 : decode cX0_loadOf 21 = .ok (.ireturn, 1) := by decide +kernel
theorem dX0_shareOf_0 : decode cX0_shareOf 0 = .ok (.iload_n 3, 1) := by decide +kernel
theorem dX0_shareOf_1 : decode cX0_shareOf 1 = .ok (.ifCond .lt 19, 3) := by decide +kernel
theorem dX0_shareOf_4 : decode cX0_shareOf 4 = .ok (.iload_n 3, 1) := by decide +kernel
theorem dX0_shareOf_5 : decode cX0_shareOf 5 = .ok (.aload_n 0, 1) := by decide +kernel
theorem dX0_shareOf_6 : decode cX0_shareOf 6 = .ok (.getfield 30, 3) := by decide +kernel
theorem dX0_shareOf_9 : decode cX0_shareOf 9 = .ok (.if_icmp .ge 11, 3) := by decide +kernel
theorem dX0_shareOf_12 : decode cX0_shareOf 12 = .ok (.iload_n 2, 1) := by decide +kernel
theorem dX0_shareOf_13 : decode cX0_shareOf 13 = .ok (.iload_n 3, 1) := by decide +kernel
theorem dX0_shareOf_14 : decode cX0_shareOf 14 = .ok (.ishr, 1) := by decide +kernel
theorem dX0_shareOf_15 : decode cX0_shareOf 15 = .ok (.iconst 1, 1) := by decide +kernel
theorem dX0_shareOf_16 : decode cX0_shareOf 16 = .ok (.iand, 1) := by decide +kernel
theorem dX0_shareOf_17 : decode cX0_shareOf 17 = .ok (.ifCond .ne 5, 3) := by decide +kernel
theorem dX0_shareOf_20 : decode cX0_shareOf 20 = .ok (.iconst 0, 1) := by decide +kernel
theorem dX0_shareOf_21 : decode cX0_shareOf 21 = .ok (.ireturn, 1) := by decide +kernel
theorem dX0_shareOf_22 : decode cX0_shareOf 22 = .ok (.aload_n 0, 1) := by decide +kernel
theorem dX0_shareOf_23 : decode cX0_shareOf 23 = .ok (.aload_n 0, 1) := by decide +kernel
theorem dX0_shareOf_24 : decode cX0_shareOf 24 = .ok (.iload_n 1, 1) := by decide +kernel
theorem dX0_shareOf_25 : decode cX0_shareOf 25 = .ok (.iload_n 3, 1) := by decide +kernel
theorem dX0_shareOf_26 : decode cX0_shareOf 26 = .ok (.invokevirtual 68, 3) := by decide +kernel
theorem dX0_shareOf_29 : decode cX0_shareOf 29 = .ok (.iload 4, 2) := by decide +kernel
theorem dX0_shareOf_31 : decode cX0_shareOf 31 = .ok (.invokevirtual 78, 3) := by decide +kernel
theorem dX0_shareOf_34 : decode cX0_shareOf 34 = .ok (.istore 5, 2) := by decide +kernel
theorem dX0_shareOf_36 : decode cX0_shareOf 36 = .ok (.iload 5, 2) := by decide +kernel
theorem dX0_shareOf_38 : decode cX0_shareOf 38 = .ok (.iconst 4, 1) := by decide +kernel
theorem dX0_shareOf_39 : decode cX0_shareOf 39 = .ok (.if_icmp .ge 11, 3) := by decide +kernel
theorem dX0_shareOf_42 : decode cX0_shareOf 42 = .ok (.bipush 8, 2) := by decide +kernel
theorem dX0_shareOf_44 : decode cX0_shareOf 44 = .ok (.iload 5, 2) := by decide +kernel
theorem dX0_shareOf_46 : decode cX0_shareOf 46 = .ok (.ishr, 1) := by decide +kernel
theorem dX0_shareOf_47 : decode cX0_shareOf 47 = .ok (.goto 4, 3) := by decide +kernel
theorem dX0_shareOf_50 : decode cX0_shareOf 50 = .ok (.iconst 0, 1) := by decide +kernel
theorem dX0_shareOf_51 : decode cX0_shareOf 51 = .ok (.ireturn, 1) := by decide +kernel
theorem dX0_gap_0 : decode cX0_gap 0 = .ok (.iconst 0, 1) := by decide +kernel
theorem dX0_gap_1 : decode cX0_gap 1 = .ok (.istore_n 3, 1) := by decide +kernel
theorem dX0_gap_2 : decode cX0_gap 2 = .ok (.iconst 0, 1) := by decide +kernel
theorem dX0_gap_3 : decode cX0_gap 3 = .ok (.istore 4, 2) := by decide +kernel
theorem dX0_gap_5 : decode cX0_gap 5 = .ok (.iload 4, 2) := by decide +kernel
theorem dX0_gap_7 : decode cX0_gap 7 = .ok (.aload_n 0, 1) := by decide +kernel
theorem dX0_gap_8 : decode cX0_gap 8 = .ok (.getfield 30, 3) := by decide +kernel
theorem dX0_gap_11 : decode cX0_gap 11 = .ok (.if_icmp .ge 32, 3) := by decide +kernel
theorem dX0_gap_14 : decode cX0_gap 14 = .ok (.iload_n 2, 1) := by decide +kernel
theorem dX0_gap_15 : decode cX0_gap 15 = .ok (.iload 4, 2) := by decide +kernel
theorem dX0_gap_17 : decode cX0_gap 17 = .ok (.ishr, 1) := by decide +kernel
theorem dX0_gap_18 : decode cX0_gap 18 = .ok (.iconst 1, 1) := by decide +kernel
theorem dX0_gap_19 : decode cX0_gap 19 = .ok (.iand, 1) := by decide +kernel
theorem dX0_gap_20 : decode cX0_gap 20 = .ok (.iconst 1, 1) := by decide +kernel
theorem dX0_gap_21 : decode cX0_gap 21 = .ok (.if_icmp .ne 16, 3) := by decide +kernel
theorem dX0_gap_24 : decode cX0_gap 24 = .ok (.iload_n 3, 1) := by decide +kernel
theorem dX0_gap_25 : decode cX0_gap 25 = .ok (.aload_n 0, 1) := by decide +kernel
theorem dX0_gap_26 : decode cX0_gap 26 = .ok (.iload_n 1, 1) := by decide +kernel
theorem dX0_gap_27 : decode cX0_gap 27 = .ok (.iload_n 2, 1) := by decide +kernel
theorem dX0_gap_28 : decode cX0_gap 28 = .ok (.iload 4, 2) := by decide +kernel
theorem dX0_gap_30 : decode cX0_gap 30 = .ok (.invokevirtual 81, 3) := by decide +kernel
theorem dX0_gap_33 : decode cX0_gap 33 = .ok (.invokestatic 65, 3) := by decide +kernel
theorem dX0_gap_36 : decode cX0_gap 36 = .ok (.istore_n 3, 1) := by decide +kernel
theorem dX0_gap_37 : decode cX0_gap 37 = .ok (.iinc 4 1, 3) := by decide +kernel
theorem dX0_gap_40 : decode cX0_gap 40 = .ok (.goto (-35), 3) := by decide +kernel
theorem dX0_gap_43 : decode cX0_gap 43 = .ok (.iload_n 3, 1) := by decide +kernel
theorem dX0_gap_44 : decode cX0_gap 44 = .ok (.ireturn, 1) := by decide +kernel
theorem dX0_gapBehind_0 : decode cX0_gapBehind 0 = .ok (.aload_n 0, 1) := by decide +kernel
theorem dX0_gapBehind_1 : decode cX0_gapBehind 1 = .ok (.getfield 35, 3) := by decide +kernel
theorem dX0_gapBehind_4 : decode cX0_gapBehind 4 = .ok (.istore 4, 2) := by decide +kernel
theorem dX0_gapBehind_6 : decode cX0_gapBehind 6 = .ok (.iconst 0, 1) := by decide +kernel
theorem dX0_gapBehind_7 : decode cX0_gapBehind 7 = .ok (.istore 5, 2) := by decide +kernel
theorem dX0_gapBehind_9 : decode cX0_gapBehind 9 = .ok (.iload 5, 2) := by decide +kernel
theorem dX0_gapBehind_11 : decode cX0_gapBehind 11 = .ok (.aload_n 0, 1) := by decide +kernel
theorem dX0_gapBehind_12 : decode cX0_gapBehind 12 = .ok (.getfield 30, 3) := by decide +kernel
theorem dX0_gapBehind_15 : decode cX0_gapBehind 15 = .ok (.if_icmp .ge 49, 3) := by decide +kernel
theorem dX0_gapBehind_18 : decode cX0_gapBehind 18 = .ok (.iload 5, 2) := by decide +kernel
theorem dX0_gapBehind_20 : decode cX0_gapBehind 20 = .ok (.iload_n 3, 1) := by decide +kernel
theorem dX0_gapBehind_21 : decode cX0_gapBehind 21 = .ok (.if_icmp .eq 37, 3) := by decide +kernel
theorem dX0_gapBehind_24 : decode cX0_gapBehind 24 = .ok (.iload_n 2, 1) := by decide +kernel
theorem dX0_gapBehind_25 : decode cX0_gapBehind 25 = .ok (.iload 5, 2) := by decide +kernel
theorem dX0_gapBehind_27 : decode cX0_gapBehind 27 = .ok (.ishr, 1) := by decide +kernel
theorem dX0_gapBehind_28 : decode cX0_gapBehind 28 = .ok (.iconst 1, 1) := by decide +kernel
theorem dX0_gapBehind_29 : decode cX0_gapBehind 29 = .ok (.iand, 1) := by decide +kernel
theorem dX0_gapBehind_30 : decode cX0_gapBehind 30 = .ok (.iconst 1, 1) := by decide +kernel
theorem dX0_gapBehind_31 : decode cX0_gapBehind 31 = .ok (.if_icmp .ne 27, 3) := by decide +kernel
theorem dX0_gapBehind_34 : decode cX0_gapBehind 34 = .ok (.iload 4, 2) := by decide +kernel
theorem dX0_gapBehind_36 : decode cX0_gapBehind 36 = .ok (.aload_n 0, 1) := by decide +kernel
theorem dX0_gapBehind_37 : decode cX0_gapBehind 37 = .ok (.aload_n 0, 1) := by decide +kernel
theorem dX0_gapBehind_38 : decode cX0_gapBehind 38 = .ok (.iload_n 1, 1) := by decide +kernel
theorem dX0_gapBehind_39 : decode cX0_gapBehind 39 = .ok (.iload_n 3, 1) := by decide +kernel
theorem dX0_gapBehind_40 : decode cX0_gapBehind 40 = .ok (.invokevirtual 68, 3) := by decide +kernel
theorem dX0_gapBehind_43 : decode cX0_gapBehind 43 = .ok (.aload_n 0, 1) := by decide +kernel
theorem dX0_gapBehind_44 : decode cX0_gapBehind 44 = .ok (.iload_n 1, 1) := by decide +kernel
theorem dX0_gapBehind_45 : decode cX0_gapBehind 45 = .ok (.iload 5, 2) := by decide +kernel
theorem dX0_gapBehind_47 : decode cX0_gapBehind 47 = .ok (.invokevirtual 68, 3) := by decide +kernel
theorem dX0_gapBehind_50 : decode cX0_gapBehind 50 = .ok (.invokevirtual 78, 3) := by decide +kernel
theorem dX0_gapBehind_53 : decode cX0_gapBehind 53 = .ok (.invokestatic 84, 3) := by decide +kernel
theorem dX0_gapBehind_56 : decode cX0_gapBehind 56 = .ok (.istore 4, 2) := by decide +kernel
theorem dX0_gapBehind_58 : decode cX0_gapBehind 58 = .ok (.iinc 5 1, 3) := by decide +kernel
theorem dX0_gapBehind_61 : decode cX0_gapBehind 61 = .ok (.goto (-52), 3) := by decide +kernel
theorem dX0_gapBehind_64 : decode cX0_gapBehind 64 = .ok (.iload 4, 2) := by decide +kernel
theorem dX0_gapBehind_66 : decode cX0_gapBehind 66 = .ok (.ireturn, 1) := by decide +kernel
theorem dX0_slotsFrom_0 : decode cX0_slotsFrom 0 = .ok (.iload_n 2, 1) := by decide +kernel
theorem dX0_slotsFrom_1 : decode cX0_slotsFrom 1 = .ok (.iload_n 1, 1) := by decide +kernel
theorem dX0_slotsFrom_2 : decode cX0_slotsFrom 2 = .ok (.if_icmp .lt 9, 3) := by decide +kernel
theorem dX0_slotsFrom_5 : decode cX0_slotsFrom 5 = .ok (.iload_n 2, 1) := by decide +kernel
theorem dX0_slotsFrom_6 : decode cX0_slotsFrom 6 = .ok (.iload_n 1, 1) := by decide +kernel
theorem dX0_slotsFrom_7 : decode cX0_slotsFrom 7 = .ok (.isub, 1) := by decide +kernel
theorem dX0_slotsFrom_8 : decode cX0_slotsFrom 8 = .ok (.goto 11, 3) := by decide +kernel
theorem dX0_slotsFrom_11 : decode cX0_slotsFrom 11 = .ok (.iload_n 2, 1) := by decide +kernel
theorem dX0_slotsFrom_12 : decode cX0_slotsFrom 12 = .ok (.iload_n 1, 1) := by decide +kernel
theorem dX0_slotsFrom_13 : decode cX0_slotsFrom 13 = .ok (.isub, 1) := by decide +kernel
theorem dX0_slotsFrom_14 : decode cX0_slotsFrom 14 = .ok (.aload_n 0, 1) := by decide +kernel
theorem dX0_slotsFrom_15 : decode cX0_slotsFrom 15 = .ok (.getfield 35, 3) := by decide +kernel
theorem dX0_slotsFrom_18 : decode cX0_slotsFrom 18 = .ok (.iadd, 1) := by decide +kernel
theorem dX0_slotsFrom_19 : decode cX0_slotsFrom 19 = .ok (.ireturn, 1) := by decide +kernel
theorem dX1_init_0 : decode cX1_init 0 = .ok (.aload_n 0, 1) := by decide +kernel
theorem dX1_init_1 : decode cX1_init 1 = .ok (.invokespecial 3, 3) := by decide +kernel
theorem dX1_init_4 : decode cX1_init 4 = .ok (.aload_n 0, 1) := by decide +kernel
theorem dX1_init_5 : decode cX1_init 5 = .ok (.iconst 4, 1) := by decide +kernel
theorem dX1_init_6 : decode cX1_init 6 = .ok (.putfield 9, 3) := by decide +kernel
theorem dX1_init_9 : decode cX1_init 9 = .ok (.aload_n 0, 1) := by decide +kernel
theorem dX1_init_10 : decode cX1_init 10 = .ok (.bipush 8, 2) := by decide +kernel
theorem dX1_init_12 : decode cX1_init 12 = .ok (.newarray .int, 2) := by decide +kernel
theorem dX1_init_14 : decode cX1_init 14 = .ok (.putfield 15, 3) := by decide +kernel
theorem dX1_init_17 : decode cX1_init 17 = .ok (.aload_n 0, 1) := by decide +kernel
theorem dX1_init_18 : decode cX1_init 18 = .ok (.bipush 8, 2) := by decide +kernel
theorem dX1_init_20 : decode cX1_init 20 = .ok (.newarray .int, 2) := by decide +kernel
theorem dX1_init_22 : decode cX1_init 22 = .ok (.putfield 19, 3) := by decide +kernel
theorem dX1_init_25 : decode cX1_init 25 = .ok (.aload_n 0, 1) := by decide +kernel
theorem dX1_init_26 : decode cX1_init 26 = .ok (.bipush 8, 2) := by decide +kernel
theorem dX1_init_28 : decode cX1_init 28 = .ok (.newarray .int, 2) := by decide +kernel
theorem dX1_init_30 : decode cX1_init 30 = .ok (.putfield 22, 3) := by decide +kernel
theorem dX1_init_33 : decode cX1_init 33 = .ok (.aload_n 0, 1) := by decide +kernel
theorem dX1_init_34 : decode cX1_init 34 = .ok (.new 25, 3) := by decide +kernel
theorem dX1_init_37 : decode cX1_init 37 = .ok (.dup, 1) := by decide +kernel
theorem dX1_init_38 : decode cX1_init 38 = .ok (.invokespecial 27, 3) := by decide +kernel
theorem dX1_init_41 : decode cX1_init 41 = .ok (.putfield 28, 3) := by decide +kernel
theorem dX1_init_44 : decode cX1_init 44 = .ok (.aload_n 0, 1) := by decide +kernel
theorem dX1_init_45 : decode cX1_init 45 = .ok (.iconst 4, 1) := by decide +kernel
theorem dX1_init_46 : decode cX1_init 46 = .ok (.invokevirtual 32, 3) := by decide +kernel
theorem dX1_init_49 : decode cX1_init 49 = .ok (.return_, 1) := by decide +kernel
theorem dX1_begin_0 : decode cX1_begin 0 = .ok (.aload_n 0, 1) := by decide +kernel
theorem dX1_begin_1 : decode cX1_begin 1 = .ok (.iload_n 1, 1) := by decide +kernel
theorem dX1_begin_2 : decode cX1_begin 2 = .ok (.putfield 36, 3) := by decide +kernel
theorem dX1_begin_5 : decode cX1_begin 5 = .ok (.iconst 0, 1) := by decide +kernel
theorem dX1_begin_6 : decode cX1_begin 6 = .ok (.istore_n 2, 1) := by decide +kernel
theorem dX1_begin_7 : decode cX1_begin 7 = .ok (.iload_n 2, 1) := by decide +kernel
theorem dX1_begin_8 : decode cX1_begin 8 = .ok (.bipush 8, 2) := by decide +kernel
theorem dX1_begin_10 : decode cX1_begin 10 = .ok (.if_icmp .ge 34, 3) := by decide +kernel
theorem dX1_begin_13 : decode cX1_begin 13 = .ok (.aload_n 0, 1) := by decide +kernel
theorem dX1_begin_14 : decode cX1_begin 14 = .ok (.getfield 15, 3) := by decide +kernel
theorem dX1_begin_17 : decode cX1_begin 17 = .ok (.iload_n 2, 1) := by decide +kernel
theorem dX1_begin_18 : decode cX1_begin 18 = .ok (.iconst 0, 1) := by decide +kernel
theorem dX1_begin_19 : decode cX1_begin 19 = .ok (.iastore, 1) := by decide +kernel
theorem dX1_begin_20 : decode cX1_begin 20 = .ok (.aload_n 0, 1) := by decide +kernel
theorem dX1_begin_21 : decode cX1_begin 21 = .ok (.getfield 19, 3) := by decide +kernel
theorem dX1_begin_24 : decode cX1_begin 24 = .ok (.iload_n 2, 1) := by decide +kernel
theorem dX1_begin_25 : decode cX1_begin 25 = .ok (.bipush 10, 2) := by decide +kernel
theorem dX1_begin_27 : decode cX1_begin 27 = .ok (.iastore, 1) := by decide +kernel
theorem dX1_begin_28 : decode cX1_begin 28 = .ok (.aload_n 0, 1) := by decide +kernel
theorem dX1_begin_29 : decode cX1_begin 29 = .ok (.getfield 22, 3) := by decide +kernel
theorem dX1_begin_32 : decode cX1_begin 32 = .ok (.iload_n 2, 1) := by decide +kernel
theorem dX1_begin_33 : decode cX1_begin 33 = .ok (.bipush 10, 2) := by decide +kernel
theorem dX1_begin_35 : decode cX1_begin 35 = .ok (.iload_n 2, 1) := by decide +kernel
theorem dX1_begin_36 : decode cX1_begin 36 = .ok (.imul, 1) := by decide +kernel
theorem dX1_begin_37 : decode cX1_begin 37 = .ok (.iastore, 1) := by decide +kernel
theorem dX1_begin_38 : decode cX1_begin 38 = .ok (.iinc 2 1, 3) := by decide +kernel
theorem dX1_begin_41 : decode cX1_begin 41 = .ok (.goto (-34), 3) := by decide +kernel
theorem dX1_begin_44 : decode cX1_begin 44 = .ok (.aload_n 0, 1) := by decide +kernel
theorem dX1_begin_45 : decode cX1_begin 45 = .ok (.invokevirtual 39, 3) := by decide +kernel
theorem dX1_begin_48 : decode cX1_begin 48 = .ok (.return_, 1) := by decide +kernel
theorem dX1_dropChoice_0 : decode cX1_dropChoice 0 = .ok (.aload_n 0, 1) := by decide +kernel
theorem dX1_dropChoice_1 : decode cX1_dropChoice 1 = .ok (.iconst (-1), 1) := by decide +kernel
theorem dX1_dropChoice_2 : decode cX1_dropChoice 2 = .ok (.putfield 42, 3) := by decide +kernel
theorem dX1_dropChoice_5 : decode cX1_dropChoice 5 = .ok (.aload_n 0, 1) := by decide +kernel
theorem dX1_dropChoice_6 : decode cX1_dropChoice 6 = .ok (.aload_n 0, 1) := by decide +kernel
theorem dX1_dropChoice_7 : decode cX1_dropChoice 7 = .ok (.invokevirtual 45, 3) := by decide +kernel
theorem dX1_dropChoice_10 : decode cX1_dropChoice 10 = .ok (.putfield 49, 3) := by decide +kernel
theorem dX1_dropChoice_13 : decode cX1_dropChoice 13 = .ok (.return_, 1) := by decide +kernel
theorem dX1_all_0 : decode cX1_all 0 = .ok (.iconst 1, 1) := by decide +kernel
theorem dX1_all_1 : decode cX1_all 1 = .ok (.aload_n 0, 1) := by decide +kernel
theorem dX1_all_2 : decode cX1_all 2 = .ok (.getfield 36, 3) := by decide +kernel
theorem dX1_all_5 : decode cX1_all 5 = .ok (.ishl, 1) := by decide +kernel
theorem dX1_all_6 : decode cX1_all 6 = .ok (.iconst 1, 1) := by decide +kernel
theorem dX1_all_7 : decode cX1_all 7 = .ok (.isub, 1) := by decide +kernel
theorem dX1_all_8 : decode cX1_all 8 = .ok (.ireturn, 1) := by decide +kernel
theorem dX1_slots_0 : decode cX1_slots 0 = .ok (.aload_n 0, 1) := by decide +kernel
theorem dX1_slots_1 : decode cX1_slots 1 = .ok (.getfield 9, 3) := by decide +kernel
theorem dX1_slots_4 : decode cX1_slots 4 = .ok (.iconst 2, 1) := by decide +kernel
theorem dX1_slots_5 : decode cX1_slots 5 = .ok (.if_icmp .ne 8, 3) := by decide +kernel
theorem dX1_slots_8 : decode cX1_slots 8 = .ok (.bipush 12, 2) := by decide +kernel
theorem dX1_slots_10 : decode cX1_slots 10 = .ok (.goto 5, 3) := by decide +kernel
theorem dX1_slots_13 : decode cX1_slots 13 = .ok (.bipush 24, 2) := by decide +kernel
theorem dX1_slots_15 : decode cX1_slots 15 = .ok (.ireturn, 1) := by decide +kernel
theorem dX1_lowSlot_0 : decode cX1_lowSlot 0 = .ok (.aload_n 0, 1) := by decide +kernel
theorem dX1_lowSlot_1 : decode cX1_lowSlot 1 = .ok (.getfield 15, 3) := by decide +kernel
theorem dX1_lowSlot_4 : decode cX1_lowSlot 4 = .ok (.iload_n 1, 1) := by decide +kernel
theorem dX1_lowSlot_5 : decode cX1_lowSlot 5 = .ok (.iaload, 1) := by decide +kernel
theorem dX1_lowSlot_6 : decode cX1_lowSlot 6 = .ok (.ifCond .ne 7, 3) := by decide +kernel
theorem dX1_lowSlot_9 : decode cX1_lowSlot 9 = .ok (.iconst 0, 1) := by decide +kernel
theorem dX1_lowSlot_10 : decode cX1_lowSlot 10 = .ok (.goto 12, 3) := by decide +kernel
theorem dX1_lowSlot_13 : decode cX1_lowSlot 13 = .ok (.bipush 12, 2) := by decide +kernel
theorem dX1_lowSlot_15 : decode cX1_lowSlot 15 = .ok (.aload_n 0, 1) := by decide +kernel
theorem dX1_lowSlot_16 : decode cX1_lowSlot 16 = .ok (.getfield 15, 3) := by decide +kernel
theorem dX1_lowSlot_19 : decode cX1_lowSlot 19 = .ok (.iload_n 1, 1) := by decide +kernel
theorem dX1_lowSlot_20 : decode cX1_lowSlot 20 = .ok (.iaload, 1) := by decide +kernel
theorem dX1_lowSlot_21 : decode cX1_lowSlot 21 = .ok (.isub, 1) := by decide +kernel
theorem dX1_lowSlot_22 : decode cX1_lowSlot 22 = .ok (.ireturn, 1) := by decide +kernel
theorem dX1_looksTheSameFromBehind_0 : decode cX1_looksTheSameFromBehind 0 = .ok (.iconst 0, 1) := by decide +kernel
theorem dX1_looksTheSameFromBehind_1 : decode cX1_looksTheSameFromBehind 1 = .ok (.istore_n 1, 1) := by decide +kernel
theorem dX1_looksTheSameFromBehind_2 : decode cX1_looksTheSameFromBehind 2 = .ok (.iload_n 1, 1) := by decide +kernel
theorem dX1_looksTheSameFromBehind_3 : decode cX1_looksTheSameFromBehind 3 = .ok (.aload_n 0, 1) := by decide +kernel
theorem dX1_looksTheSameFromBehind_4 : decode cX1_looksTheSameFromBehind 4 = .ok (.getfield 36, 3) := by decide +kernel
theorem dX1_looksTheSameFromBehind_7 : decode cX1_looksTheSameFromBehind 7 = .ok (.if_icmp .ge 84, 3) := by decide +kernel
theorem dX1_looksTheSameFromBehind_10 : decode cX1_looksTheSameFromBehind 10 = .ok (.aload_n 0, 1) := by decide +kernel
theorem dX1_looksTheSameFromBehind_11 : decode cX1_looksTheSameFromBehind 11 = .ok (.getfield 36, 3) := by decide +kernel
theorem dX1_looksTheSameFromBehind_14 : decode cX1_looksTheSameFromBehind 14 = .ok (.iconst 1, 1) := by decide +kernel
theorem dX1_looksTheSameFromBehind_15 : decode cX1_looksTheSameFromBehind 15 = .ok (.isub, 1) := by decide +kernel
theorem dX1_looksTheSameFromBehind_16 : decode cX1_looksTheSameFromBehind 16 = .ok (.iload_n 1, 1) := by decide +kernel
theorem dX1_looksTheSameFromBehind_17 : decode cX1_looksTheSameFromBehind 17 = .ok (.isub, 1) := by decide +kernel
theorem dX1_looksTheSameFromBehind_18 : decode cX1_looksTheSameFromBehind 18 = .ok (.istore_n 2, 1) := by decide +kernel
theorem dX1_looksTheSameFromBehind_19 : decode cX1_looksTheSameFromBehind 19 = .ok (.aload_n 0, 1) := by decide +kernel
theorem dX1_looksTheSameFromBehind_20 : decode cX1_looksTheSameFromBehind 20 = .ok (.getfield 15, 3) := by decide +kernel
theorem dX1_looksTheSameFromBehind_23 : decode cX1_looksTheSameFromBehind 23 = .ok (.iload_n 1, 1) := by decide +kernel
theorem dX1_looksTheSameFromBehind_24 : decode cX1_looksTheSameFromBehind 24 = .ok (.iaload, 1) := by decide +kernel
theorem dX1_looksTheSameFromBehind_25 : decode cX1_looksTheSameFromBehind 25 = .ok (.aload_n 0, 1) := by decide +kernel
theorem dX1_looksTheSameFromBehind_26 : decode cX1_looksTheSameFromBehind 26 = .ok (.getfield 15, 3) := by decide +kernel
theorem dX1_looksTheSameFromBehind_29 : decode cX1_looksTheSameFromBehind 29 = .ok (.iload_n 2, 1) := by decide +kernel
theorem dX1_looksTheSameFromBehind_30 : decode cX1_looksTheSameFromBehind 30 = .ok (.iaload, 1) := by decide +kernel
theorem dX1_looksTheSameFromBehind_31 : decode cX1_looksTheSameFromBehind 31 = .ok (.if_icmp .ne 52, 3) := by decide +kernel
theorem dX1_looksTheSameFromBehind_34 : decode cX1_looksTheSameFromBehind 34 = .ok (.aload_n 0, 1) := by decide +kernel
theorem dX1_looksTheSameFromBehind_35 : decode cX1_looksTheSameFromBehind 35 = .ok (.getfield 19, 3) := by decide +kernel
theorem dX1_looksTheSameFromBehind_38 : decode cX1_looksTheSameFromBehind 38 = .ok (.iload_n 1, 1) := by decide +kernel
theorem dX1_looksTheSameFromBehind_39 : decode cX1_looksTheSameFromBehind 39 = .ok (.iaload, 1) := by decide +kernel
theorem dX1_looksTheSameFromBehind_40 : decode cX1_looksTheSameFromBehind 40 = .ok (.aload_n 0, 1) := by decide +kernel
theorem dX1_looksTheSameFromBehind_41 : decode cX1_looksTheSameFromBehind 41 = .ok (.getfield 19, 3) := by decide +kernel
theorem dX1_looksTheSameFromBehind_44 : decode cX1_looksTheSameFromBehind 44 = .ok (.iload_n 2, 1) := by decide +kernel
theorem dX1_looksTheSameFromBehind_45 : decode cX1_looksTheSameFromBehind 45 = .ok (.iaload, 1) := by decide +kernel
theorem dX1_looksTheSameFromBehind_46 : decode cX1_looksTheSameFromBehind 46 = .ok (.if_icmp .ne 37, 3) := by decide +kernel
theorem dX1_looksTheSameFromBehind_49 : decode cX1_looksTheSameFromBehind 49 = .ok (.aload_n 0, 1) := by decide +kernel
theorem dX1_looksTheSameFromBehind_50 : decode cX1_looksTheSameFromBehind 50 = .ok (.getfield 22, 3) := by decide +kernel
theorem dX1_looksTheSameFromBehind_53 : decode cX1_looksTheSameFromBehind 53 = .ok (.iload_n 1, 1) := by decide +kernel
theorem dX1_looksTheSameFromBehind_54 : decode cX1_looksTheSameFromBehind 54 = .ok (.iaload, 1) := by decide +kernel
theorem dX1_looksTheSameFromBehind_55 : decode cX1_looksTheSameFromBehind 55 = .ok (.aload_n 0, 1) := by decide +kernel
theorem dX1_looksTheSameFromBehind_56 : decode cX1_looksTheSameFromBehind 56 = .ok (.getfield 22, 3) := by decide +kernel
theorem dX1_looksTheSameFromBehind_59 : decode cX1_looksTheSameFromBehind 59 = .ok (.iload_n 2, 1) := by decide +kernel
theorem dX1_looksTheSameFromBehind_60 : decode cX1_looksTheSameFromBehind 60 = .ok (.iaload, 1) := by decide +kernel
theorem dX1_looksTheSameFromBehind_61 : decode cX1_looksTheSameFromBehind 61 = .ok (.iadd, 1) := by decide +kernel
theorem dX1_looksTheSameFromBehind_62 : decode cX1_looksTheSameFromBehind 62 = .ok (.aload_n 0, 1) := by decide +kernel
theorem dX1_looksTheSameFromBehind_63 : decode cX1_looksTheSameFromBehind 63 = .ok (.getfield 22, 3) := by decide +kernel
theorem dX1_looksTheSameFromBehind_66 : decode cX1_looksTheSameFromBehind 66 = .ok (.iconst 0, 1) := by decide +kernel
theorem dX1_looksTheSameFromBehind_67 : decode cX1_looksTheSameFromBehind 67 = .ok (.iaload, 1) := by decide +kernel
theorem dX1_looksTheSameFromBehind_68 : decode cX1_looksTheSameFromBehind 68 = .ok (.aload_n 0, 1) := by decide +kernel
theorem dX1_looksTheSameFromBehind_69 : decode cX1_looksTheSameFromBehind 69 = .ok (.getfield 22, 3) := by decide +kernel
theorem dX1_looksTheSameFromBehind_72 : decode cX1_looksTheSameFromBehind 72 = .ok (.aload_n 0, 1) := by decide +kernel
theorem dX1_looksTheSameFromBehind_73 : decode cX1_looksTheSameFromBehind 73 = .ok (.getfield 36, 3) := by decide +kernel
theorem dX1_looksTheSameFromBehind_76 : decode cX1_looksTheSameFromBehind 76 = .ok (.iconst 1, 1) := by decide +kernel
theorem dX1_looksTheSameFromBehind_77 : decode cX1_looksTheSameFromBehind 77 = .ok (.isub, 1) := by decide +kernel
theorem dX1_looksTheSameFromBehind_78 : decode cX1_looksTheSameFromBehind 78 = .ok (.iaload, 1) := by decide +kernel
theorem dX1_looksTheSameFromBehind_79 : decode cX1_looksTheSameFromBehind 79 = .ok (.iadd, 1) := by decide +kernel
theorem dX1_looksTheSameFromBehind_80 : decode cX1_looksTheSameFromBehind 80 = .ok (.if_icmp .eq 5, 3) := by decide +kernel
theorem dX1_looksTheSameFromBehind_83 : decode cX1_looksTheSameFromBehind 83 = .ok (.iconst 0, 1) := by decide +kernel
theorem dX1_looksTheSameFromBehind_84 : decode cX1_looksTheSameFromBehind 84 = .ok (.ireturn, 1) := by decide +kernel
theorem dX1_looksTheSameFromBehind_85 : decode cX1_looksTheSameFromBehind 85 = .ok (.iinc 1 1, 3) := by decide +kernel
theorem dX1_looksTheSameFromBehind_88 : decode cX1_looksTheSameFromBehind 88 = .ok (.goto (-86), 3) := by decide +kernel
theorem dX1_looksTheSameFromBehind_91 : decode cX1_looksTheSameFromBehind 91 = .ok (.iconst 1, 1) := by decide +kernel
theorem dX1_looksTheSameFromBehind_92 : decode cX1_looksTheSameFromBehind 92 = .ok (.ireturn, 1) := by decide +kernel
theorem dX1_takeOver_0 : decode cX1_takeOver 0 = .ok (.aload_n 0, 1) := by decide +kernel
theorem dX1_takeOver_1 : decode cX1_takeOver 1 = .ok (.aload_n 1, 1) := by decide +kernel
theorem dX1_takeOver_2 : decode cX1_takeOver 2 = .ok (.getfield 36, 3) := by decide +kernel
theorem dX1_takeOver_5 : decode cX1_takeOver 5 = .ok (.putfield 36, 3) := by decide +kernel
theorem dX1_takeOver_8 : decode cX1_takeOver 8 = .ok (.aload_n 0, 1) := by decide +kernel
theorem dX1_takeOver_9 : decode cX1_takeOver 9 = .ok (.aload_n 1, 1) := by decide +kernel
theorem dX1_takeOver_10 : decode cX1_takeOver 10 = .ok (.getfield 9, 3) := by decide +kernel
theorem dX1_takeOver_13 : decode cX1_takeOver 13 = .ok (.putfield 9, 3) := by decide +kernel
theorem dX1_takeOver_16 : decode cX1_takeOver 16 = .ok (.aload_n 1, 1) := by decide +kernel
theorem dX1_takeOver_17 : decode cX1_takeOver 17 = .ok (.getfield 15, 3) := by decide +kernel
theorem dX1_takeOver_20 : decode cX1_takeOver 20 = .ok (.iconst 0, 1) := by decide +kernel
theorem dX1_takeOver_21 : decode cX1_takeOver 21 = .ok (.aload_n 0, 1) := by decide +kernel
theorem dX1_takeOver_22 : decode cX1_takeOver 22 = .ok (.getfield 15, 3) := by decide +kernel
theorem dX1_takeOver_25 : decode cX1_takeOver 25 = .ok (.iconst 0, 1) := by decide +kernel
theorem dX1_takeOver_26 : decode cX1_takeOver 26 = .ok (.bipush 8, 2) := by decide +kernel
theorem dX1_takeOver_28 : decode cX1_takeOver 28 = .ok (.invokestatic 52, 3) := by decide +kernel
theorem dX1_takeOver_31 : decode cX1_takeOver 31 = .ok (.aload_n 1, 1) := by decide +kernel
theorem dX1_takeOver_32 : decode cX1_takeOver 32 = .ok (.getfield 19, 3) := by decide +kernel
theorem dX1_takeOver_35 : decode cX1_takeOver 35 = .ok (.iconst 0, 1) := by decide +kernel
theorem dX1_takeOver_36 : decode cX1_takeOver 36 = .ok (.aload_n 0, 1) := by decide +kernel
theorem dX1_takeOver_37 : decode cX1_takeOver 37 = .ok (.getfield 19, 3) := by decide +kernel
theorem dX1_takeOver_40 : decode cX1_takeOver 40 = .ok (.iconst 0, 1) := by decide +kernel
theorem dX1_takeOver_41 : decode cX1_takeOver 41 = .ok (.bipush 8, 2) := by decide +kernel
theorem dX1_takeOver_43 : decode cX1_takeOver 43 = .ok (.invokestatic 52, 3) := by decide +kernel
theorem dX1_takeOver_46 : decode cX1_takeOver 46 = .ok (.aload_n 1, 1) := by decide +kernel
theorem dX1_takeOver_47 : decode cX1_takeOver 47 = .ok (.getfield 22, 3) := by decide +kernel
theorem dX1_takeOver_50 : decode cX1_takeOver 50 = .ok (.iconst 0, 1) := by decide +kernel
theorem dX1_takeOver_51 : decode cX1_takeOver 51 = .ok (.aload_n 0, 1) := by decide +kernel
theorem dX1_takeOver_52 : decode cX1_takeOver 52 = .ok (.getfield 22, 3) := by decide +kernel
theorem dX1_takeOver_55 : decode cX1_takeOver 55 = .ok (.iconst 0, 1) := by decide +kernel
theorem dX1_takeOver_56 : decode cX1_takeOver 56 = .ok (.bipush 8, 2) := by decide +kernel
theorem dX1_takeOver_58 : decode cX1_takeOver 58 = .ok (.invokestatic 52, 3) := by decide +kernel
theorem dX1_takeOver_61 : decode cX1_takeOver 61 = .ok (.aload_n 0, 1) := by decide +kernel
theorem dX1_takeOver_62 : decode cX1_takeOver 62 = .ok (.getfield 28, 3) := by decide +kernel
theorem dX1_takeOver_65 : decode cX1_takeOver 65 = .ok (.aload_n 1, 1) := by decide +kernel
theorem dX1_takeOver_66 : decode cX1_takeOver 66 = .ok (.getfield 28, 3) := by decide +kernel
theorem dX1_takeOver_69 : decode cX1_takeOver 69 = .ok (.invokevirtual 58, 3) := by decide +kernel
theorem dX1_takeOver_72 : decode cX1_takeOver 72 = .ok (.aload_n 0, 1) := by decide +kernel
theorem dX1_takeOver_73 : decode cX1_takeOver 73 = .ok (.aload_n 1, 1) := by decide +kernel
theorem dX1_takeOver_74 : decode cX1_takeOver 74 = .ok (.getfield 42, 3) := by decide +kernel
theorem dX1_takeOver_77 : decode cX1_takeOver 77 = .ok (.putfield 42, 3) := by decide +kernel
theorem dX1_takeOver_80 : decode cX1_takeOver 80 = .ok (.aload_n 0, 1) := by decide +kernel
theorem dX1_takeOver_81 : decode cX1_takeOver 81 = .ok (.aload_n 1, 1) := by decide +kernel
theorem dX1_takeOver_82 : decode cX1_takeOver 82 = .ok (.getfield 49, 3) := by decide +kernel
theorem dX1_takeOver_85 : decode cX1_takeOver 85 = .ok (.putfield 49, 3) := by decide +kernel
theorem dX1_takeOver_88 : decode cX1_takeOver 88 = .ok (.return_, 1) := by decide +kernel
theorem dX2_init_0 : decode cX2_init 0 = .ok (.aload_n 0, 1) := by decide +kernel
theorem dX2_init_1 : decode cX2_init 1 = .ok (.invokespecial 3, 3) := by decide +kernel
theorem dX2_init_4 : decode cX2_init 4 = .ok (.return_, 1) := by decide +kernel
theorem dX2_clear_0 : decode cX2_clear 0 = .ok (.aload_n 0, 1) := by decide +kernel
theorem dX2_clear_1 : decode cX2_clear 1 = .ok (.iconst 0, 1) := by decide +kernel
theorem dX2_clear_2 : decode cX2_clear 2 = .ok (.putfield 9, 3) := by decide +kernel
theorem dX2_clear_5 : decode cX2_clear 5 = .ok (.aload_n 0, 1) := by decide +kernel
theorem dX2_clear_6 : decode cX2_clear 6 = .ok (.iconst 0, 1) := by decide +kernel
theorem dX2_clear_7 : decode cX2_clear 7 = .ok (.putfield 15, 3) := by decide +kernel
theorem dX2_clear_10 : decode cX2_clear 10 = .ok (.aload_n 0, 1) := by decide +kernel
theorem dX2_clear_11 : decode cX2_clear 11 = .ok (.iconst 0, 1) := by decide +kernel
theorem dX2_clear_12 : decode cX2_clear 12 = .ok (.putfield 18, 3) := by decide +kernel
theorem dX2_clear_15 : decode cX2_clear 15 = .ok (.aload_n 0, 1) := by decide +kernel
theorem dX2_clear_16 : decode cX2_clear 16 = .ok (.iconst 0, 1) := by decide +kernel
theorem dX2_clear_17 : decode cX2_clear 17 = .ok (.putfield 21, 3) := by decide +kernel
theorem dX2_clear_20 : decode cX2_clear 20 = .ok (.return_, 1) := by decide +kernel
theorem dX2_add_0 : decode cX2_add 0 = .ok (.iload_n 1, 1) := by decide +kernel
theorem dX2_add_1 : decode cX2_add 1 = .ok (.bipush 12, 2) := by decide +kernel
theorem dX2_add_3 : decode cX2_add 3 = .ok (.invokestatic 24, 3) := by decide +kernel
theorem dX2_add_6 : decode cX2_add 6 = .ok (.istore_n 3, 1) := by decide +kernel
theorem dX2_add_7 : decode cX2_add 7 = .ok (.iload_n 1, 1) := by decide +kernel
theorem dX2_add_8 : decode cX2_add 8 = .ok (.bipush 9, 2) := by decide +kernel
theorem dX2_add_10 : decode cX2_add 10 = .ok (.iadd, 1) := by decide +kernel
theorem dX2_add_11 : decode cX2_add 11 = .ok (.bipush 12, 2) := by decide +kernel
theorem dX2_add_13 : decode cX2_add 13 = .ok (.invokestatic 24, 3) := by decide +kernel
theorem dX2_add_16 : decode cX2_add 16 = .ok (.istore 4, 2) := by decide +kernel
theorem dX2_add_18 : decode cX2_add 18 = .ok (.aload_n 0, 1) := by decide +kernel
theorem dX2_add_19 : decode cX2_add 19 = .ok (.dup, 1) := by decide +kernel
theorem dX2_add_20 : decode cX2_add 20 = .ok (.getfield 9, 3) := by decide +kernel
theorem dX2_add_23 : decode cX2_add 23 = .ok (.iload_n 2, 1) := by decide +kernel
theorem dX2_add_24 : decode cX2_add 24 = .ok (.getstatic 30, 3) := by decide +kernel
theorem dX2_add_27 : decode cX2_add 27 = .ok (.iload_n 3, 1) := by decide +kernel
theorem dX2_add_28 : decode cX2_add 28 = .ok (.iaload, 1) := by decide +kernel
theorem dX2_add_29 : decode cX2_add 29 = .ok (.imul, 1) := by decide +kernel
theorem dX2_add_30 : decode cX2_add 30 = .ok (.iadd, 1) := by decide +kernel
theorem dX2_add_31 : decode cX2_add 31 = .ok (.putfield 9, 3) := by decide +kernel
theorem dX2_add_34 : decode cX2_add 34 = .ok (.aload_n 0, 1) := by decide +kernel
theorem dX2_add_35 : decode cX2_add 35 = .ok (.dup, 1) := by decide +kernel
theorem dX2_add_36 : decode cX2_add 36 = .ok (.getfield 15, 3) := by decide +kernel
theorem dX2_add_39 : decode cX2_add 39 = .ok (.iload_n 2, 1) := by decide +kernel
theorem dX2_add_40 : decode cX2_add 40 = .ok (.getstatic 34, 3) := by decide +kernel
theorem dX2_add_43 : decode cX2_add 43 = .ok (.iload_n 3, 1) := by decide +kernel
theorem dX2_add_44 : decode cX2_add 44 = .ok (.iaload, 1) := by decide +kernel
theorem dX2_add_45 : decode cX2_add 45 = .ok (.imul, 1) := by decide +kernel
theorem dX2_add_46 : decode cX2_add 46 = .ok (.iadd, 1) := by decide +kernel
theorem dX2_add_47 : decode cX2_add 47 = .ok (.putfield 15, 3) := by decide +kernel
theorem dX2_add_50 : decode cX2_add 50 = .ok (.aload_n 0, 1) := by decide +kernel
theorem dX2_add_51 : decode cX2_add 51 = .ok (.dup, 1) := by decide +kernel
theorem dX2_add_52 : decode cX2_add 52 = .ok (.getfield 18, 3) := by decide +kernel
theorem dX2_add_55 : decode cX2_add 55 = .ok (.iload_n 2, 1) := by decide +kernel
theorem dX2_add_56 : decode cX2_add 56 = .ok (.getstatic 30, 3) := by decide +kernel
theorem dX2_add_59 : decode cX2_add 59 = .ok (.iload 4, 2) := by decide +kernel
theorem dX2_add_61 : decode cX2_add 61 = .ok (.iaload, 1) := by decide +kernel
theorem dX2_add_62 : decode cX2_add 62 = .ok (.imul, 1) := by decide +kernel
theorem dX2_add_63 : decode cX2_add 63 = .ok (.iadd, 1) := by decide +kernel
theorem dX2_add_64 : decode cX2_add 64 = .ok (.putfield 18, 3) := by decide +kernel
theorem dX2_add_67 : decode cX2_add 67 = .ok (.aload_n 0, 1) := by decide +kernel
theorem dX2_add_68 : decode cX2_add 68 = .ok (.dup, 1) := by decide +kernel
theorem dX2_add_69 : decode cX2_add 69 = .ok (.getfield 21, 3) := by decide +kernel
theorem dX2_add_72 : decode cX2_add 72 = .ok (.iload_n 2, 1) := by decide +kernel
theorem dX2_add_73 : decode cX2_add 73 = .ok (.getstatic 34, 3) := by decide +kernel
theorem dX2_add_76 : decode cX2_add 76 = .ok (.iload 4, 2) := by decide +kernel
theorem dX2_add_78 : decode cX2_add 78 = .ok (.iaload, 1) := by decide +kernel
theorem dX2_add_79 : decode cX2_add 79 = .ok (.imul, 1) := by decide +kernel
theorem dX2_add_80 : decode cX2_add 80 = .ok (.iadd, 1) := by decide +kernel
theorem dX2_add_81 : decode cX2_add 81 = .ok (.putfield 21, 3) := by decide +kernel
theorem dX2_add_84 : decode cX2_add 84 = .ok (.return_, 1) := by decide +kernel
theorem dX2_isZero_0 : decode cX2_isZero 0 = .ok (.aload_n 0, 1) := by decide +kernel
theorem dX2_isZero_1 : decode cX2_isZero 1 = .ok (.getfield 9, 3) := by decide +kernel
theorem dX2_isZero_4 : decode cX2_isZero 4 = .ok (.ifCond .ne 28, 3) := by decide +kernel
theorem dX2_isZero_7 : decode cX2_isZero 7 = .ok (.aload_n 0, 1) := by decide +kernel
theorem dX2_isZero_8 : decode cX2_isZero 8 = .ok (.getfield 15, 3) := by decide +kernel
theorem dX2_isZero_11 : decode cX2_isZero 11 = .ok (.ifCond .ne 21, 3) := by decide +kernel
theorem dX2_isZero_14 : decode cX2_isZero 14 = .ok (.aload_n 0, 1) := by decide +kernel
theorem dX2_isZero_15 : decode cX2_isZero 15 = .ok (.getfield 18, 3) := by decide +kernel
theorem dX2_isZero_18 : decode cX2_isZero 18 = .ok (.ifCond .ne 14, 3) := by decide +kernel
theorem dX2_isZero_21 : decode cX2_isZero 21 = .ok (.aload_n 0, 1) := by decide +kernel
theorem dX2_isZero_22 : decode cX2_isZero 22 = .ok (.getfield 21, 3) := by decide +kernel
theorem dX2_isZero_25 : decode cX2_isZero 25 = .ok (.ifCond .ne 7, 3) := by decide +kernel
theorem dX2_isZero_28 : decode cX2_isZero 28 = .ok (.iconst 1, 1) := by decide +kernel
theorem dX2_isZero_29 : decode cX2_isZero 29 = .ok (.goto 4, 3) := by decide +kernel
theorem dX2_isZero_32 : decode cX2_isZero 32 = .ok (.iconst 0, 1) := by decide +kernel
theorem dX2_isZero_33 : decode cX2_isZero 33 = .ok (.ireturn, 1) := by decide +kernel
theorem dX2_part_0 : decode cX2_part 0 = .ok (.iload_n 1, 1) := by decide +kernel
theorem dX2_part_1 : decode cX2_part 1 = .ok (.ifCond .eq 19, 3) := by decide +kernel
theorem dX2_part_4 : decode cX2_part 4 = .ok (.iload_n 2, 1) := by decide +kernel
theorem dX2_part_5 : decode cX2_part 5 = .ok (.ifCond .eq 10, 3) := by decide +kernel
