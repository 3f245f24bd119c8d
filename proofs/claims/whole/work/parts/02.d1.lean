/-! decode rows, 1 of 5 -/
theorem dX0_init_0 : decode cX0_init 0 = .ok (.aload_n 0, 1) := by decide +kernel
theorem dX0_init_1 : decode cX0_init 1 = .ok (.invokespecial 3, 3) := by decide +kernel
theorem dX0_init_4 : decode cX0_init 4 = .ok (.aload_n 0, 1) := by decide +kernel
theorem dX0_init_5 : decode cX0_init 5 = .ok (.bipush 8, 2) := by decide +kernel
theorem dX0_init_7 : decode cX0_init 7 = .ok (.newarray .int, 2) := by decide +kernel
theorem dX0_init_9 : decode cX0_init 9 = .ok (.putfield 9, 3) := by decide +kernel
theorem dX0_init_12 : decode cX0_init 12 = .ok (.aload_n 0, 1) := by decide +kernel
theorem dX0_init_13 : decode cX0_init 13 = .ok (.bipush 64, 2) := by decide +kernel
theorem dX0_init_15 : decode cX0_init 15 = .ok (.newarray .int, 2) := by decide +kernel
theorem dX0_init_17 : decode cX0_init 17 = .ok (.putfield 15, 3) := by decide +kernel
theorem dX0_init_20 : decode cX0_init 20 = .ok (.aload_n 0, 1) := by decide +kernel
theorem dX0_init_21 : decode cX0_init 21 = .ok (.bipush 64, 2) := by decide +kernel
theorem dX0_init_23 : decode cX0_init 23 = .ok (.newarray .int, 2) := by decide +kernel
theorem dX0_init_25 : decode cX0_init 25 = .ok (.putfield 18, 3) := by decide +kernel
theorem dX0_init_28 : decode cX0_init 28 = .ok (.return_, 1) := by decide +kernel
theorem dX0_layOut_0 : decode cX0_layOut 0 = .ok (.aload_n 0, 1) := by decide +kernel
theorem dX0_layOut_1 : decode cX0_layOut 1 = .ok (.iconst 0, 1) := by decide +kernel
theorem dX0_layOut_2 : decode cX0_layOut 2 = .ok (.putfield 21, 3) := by decide +kernel
theorem dX0_layOut_5 : decode cX0_layOut 5 = .ok (.aload_n 0, 1) := by decide +kernel
theorem dX0_layOut_6 : decode cX0_layOut 6 = .ok (.aload_n 1, 1) := by decide +kernel
theorem dX0_layOut_7 : decode cX0_layOut 7 = .ok (.getfield 25, 3) := by decide +kernel
theorem dX0_layOut_10 : decode cX0_layOut 10 = .ok (.putfield 30, 3) := by decide +kernel
theorem dX0_layOut_13 : decode cX0_layOut 13 = .ok (.aload_n 0, 1) := by decide +kernel
theorem dX0_layOut_14 : decode cX0_layOut 14 = .ok (.aload_n 1, 1) := by decide +kernel
theorem dX0_layOut_15 : decode cX0_layOut 15 = .ok (.invokevirtual 31, 3) := by decide +kernel
theorem dX0_layOut_18 : decode cX0_layOut 18 = .ok (.putfield 35, 3) := by decide +kernel
theorem dX0_layOut_21 : decode cX0_layOut 21 = .ok (.aload_n 0, 1) := by decide +kernel
theorem dX0_layOut_22 : decode cX0_layOut 22 = .ok (.getfield 30, 3) := by decide +kernel
theorem dX0_layOut_25 : decode cX0_layOut 25 = .ok (.iconst 1, 1) := by decide +kernel
theorem dX0_layOut_26 : decode cX0_layOut 26 = .ok (.if_icmp .lt 42, 3) := by decide +kernel
theorem dX0_layOut_29 : decode cX0_layOut 29 = .ok (.aload_n 0, 1) := by decide +kernel
theorem dX0_layOut_30 : decode cX0_layOut 30 = .ok (.getfield 35, 3) := by decide +kernel
theorem dX0_layOut_33 : decode cX0_layOut 33 = .ok (.aload_n 0, 1) := by decide +kernel
theorem dX0_layOut_34 : decode cX0_layOut 34 = .ok (.getfield 30, 3) := by decide +kernel
theorem dX0_layOut_37 : decode cX0_layOut 37 = .ok (.irem, 1) := by decide +kernel
theorem dX0_layOut_38 : decode cX0_layOut 38 = .ok (.ifCond .ne 30, 3) := by decide +kernel
theorem dX0_layOut_41 : decode cX0_layOut 41 = .ok (.aload_n 0, 1) := by decide +kernel
theorem dX0_layOut_42 : decode cX0_layOut 42 = .ok (.aload_n 0, 1) := by decide +kernel
theorem dX0_layOut_43 : decode cX0_layOut 43 = .ok (.getfield 35, 3) := by decide +kernel
theorem dX0_layOut_46 : decode cX0_layOut 46 = .ok (.aload_n 0, 1) := by decide +kernel
theorem dX0_layOut_47 : decode cX0_layOut 47 = .ok (.getfield 30, 3) := by decide +kernel
theorem dX0_layOut_50 : decode cX0_layOut 50 = .ok (.idiv, 1) := by decide +kernel
theorem dX0_layOut_51 : decode cX0_layOut 51 = .ok (.putfield 37, 3) := by decide +kernel
theorem dX0_layOut_54 : decode cX0_layOut 54 = .ok (.aload_n 0, 1) := by decide +kernel
theorem dX0_layOut_55 : decode cX0_layOut 55 = .ok (.getfield 9, 3) := by decide +kernel
theorem dX0_layOut_58 : decode cX0_layOut 58 = .ok (.iconst 0, 1) := by decide +kernel
theorem dX0_layOut_59 : decode cX0_layOut 59 = .ok (.iconst 0, 1) := by decide +kernel
theorem dX0_layOut_60 : decode cX0_layOut 60 = .ok (.iastore, 1) := by decide +kernel
theorem dX0_layOut_61 : decode cX0_layOut 61 = .ok (.aload_n 0, 1) := by decide +kernel
theorem dX0_layOut_62 : decode cX0_layOut 62 = .ok (.aload_n 1, 1) := by decide +kernel
theorem dX0_layOut_63 : decode cX0_layOut 63 = .ok (.iconst 1, 1) := by decide +kernel
theorem dX0_layOut_64 : decode cX0_layOut 64 = .ok (.iconst 1, 1) := by decide +kernel
theorem dX0_layOut_65 : decode cX0_layOut 65 = .ok (.invokestatic 40, 3) := by decide +kernel
theorem dX0_layOut_68 : decode cX0_layOut 68 = .ok (.return_, 1) := by decide +kernel
theorem dX0_extend_0 : decode cX0_extend 0 = .ok (.iload_n 2, 1) := by decide +kernel
theorem dX0_extend_1 : decode cX0_extend 1 = .ok (.aload_n 0, 1) := by decide +kernel
theorem dX0_extend_2 : decode cX0_extend 2 = .ok (.getfield 30, 3) := by decide +kernel
theorem dX0_extend_5 : decode cX0_extend 5 = .ok (.if_icmp .lt 9, 3) := by decide +kernel
theorem dX0_extend_8 : decode cX0_extend 8 = .ok (.aload_n 0, 1) := by decide +kernel
theorem dX0_extend_9 : decode cX0_extend 9 = .ok (.aload_n 1, 1) := by decide +kernel
theorem dX0_extend_10 : decode cX0_extend 10 = .ok (.invokevirtual 44, 3) := by decide +kernel
theorem dX0_extend_13 : decode cX0_extend 13 = .ok (.return_, 1) := by decide +kernel
theorem dX0_extend_14 : decode cX0_extend 14 = .ok (.aload_n 1, 1) := by decide +kernel
theorem dX0_extend_15 : decode cX0_extend 15 = .ok (.iconst 0, 1) := by decide +kernel
theorem dX0_extend_16 : decode cX0_extend 16 = .ok (.invokevirtual 48, 3) := by decide +kernel
theorem dX0_extend_19 : decode cX0_extend 19 = .ok (.iload_n 2, 1) := by decide +kernel
theorem dX0_extend_20 : decode cX0_extend 20 = .ok (.aload_n 0, 1) := by decide +kernel
theorem dX0_extend_21 : decode cX0_extend 21 = .ok (.getfield 37, 3) := by decide +kernel
theorem dX0_extend_24 : decode cX0_extend 24 = .ok (.imul, 1) := by decide +kernel
theorem dX0_extend_25 : decode cX0_extend 25 = .ok (.iadd, 1) := by decide +kernel
theorem dX0_extend_26 : decode cX0_extend 26 = .ok (.bipush 12, 2) := by decide +kernel
theorem dX0_extend_28 : decode cX0_extend 28 = .ok (.irem, 1) := by decide +kernel
theorem dX0_extend_29 : decode cX0_extend 29 = .ok (.istore 4, 2) := by decide +kernel
theorem dX0_extend_31 : decode cX0_extend 31 = .ok (.iconst 1, 1) := by decide +kernel
theorem dX0_extend_32 : decode cX0_extend 32 = .ok (.istore 5, 2) := by decide +kernel
theorem dX0_extend_34 : decode cX0_extend 34 = .ok (.iload 5, 2) := by decide +kernel
theorem dX0_extend_36 : decode cX0_extend 36 = .ok (.aload_n 0, 1) := by decide +kernel
theorem dX0_extend_37 : decode cX0_extend 37 = .ok (.getfield 30, 3) := by decide +kernel
theorem dX0_extend_40 : decode cX0_extend 40 = .ok (.if_icmp .ge 51, 3) := by decide +kernel
theorem dX0_extend_43 : decode cX0_extend 43 = .ok (.iload_n 3, 1) := by decide +kernel
theorem dX0_extend_44 : decode cX0_extend 44 = .ok (.iload 5, 2) := by decide +kernel
theorem dX0_extend_46 : decode cX0_extend 46 = .ok (.ishr, 1) := by decide +kernel
theorem dX0_extend_47 : decode cX0_extend 47 = .ok (.iconst 1, 1) := by decide +kernel
theorem dX0_extend_48 : decode cX0_extend 48 = .ok (.iand, 1) := by decide +kernel
theorem dX0_extend_49 : decode cX0_extend 49 = .ok (.ifCond .ne 36, 3) := by decide +kernel
theorem dX0_extend_52 : decode cX0_extend 52 = .ok (.aload_n 1, 1) := by decide +kernel
theorem dX0_extend_53 : decode cX0_extend 53 = .ok (.iload 5, 2) := by decide +kernel
theorem dX0_extend_55 : decode cX0_extend 55 = .ok (.invokevirtual 48, 3) := by decide +kernel
theorem dX0_extend_58 : decode cX0_extend 58 = .ok (.iload 4, 2) := by decide +kernel
theorem dX0_extend_60 : decode cX0_extend 60 = .ok (.if_icmp .ne 25, 3) := by decide +kernel
theorem dX0_extend_63 : decode cX0_extend 63 = .ok (.aload_n 0, 1) := by decide +kernel
theorem dX0_extend_64 : decode cX0_extend 64 = .ok (.getfield 9, 3) := by decide +kernel
theorem dX0_extend_67 : decode cX0_extend 67 = .ok (.iload_n 2, 1) := by decide +kernel
theorem dX0_extend_68 : decode cX0_extend 68 = .ok (.iload 5, 2) := by decide +kernel
theorem dX0_extend_70 : decode cX0_extend 70 = .ok (.iastore, 1) := by decide +kernel
theorem dX0_extend_71 : decode cX0_extend 71 = .ok (.aload_n 0, 1) := by decide +kernel
theorem dX0_extend_72 : decode cX0_extend 72 = .ok (.aload_n 1, 1) := by decide +kernel
theorem dX0_extend_73 : decode cX0_extend 73 = .ok (.iload_n 2, 1) := by decide +kernel
theorem dX0_extend_74 : decode cX0_extend 74 = .ok (.iconst 1, 1) := by decide +kernel
theorem dX0_extend_75 : decode cX0_extend 75 = .ok (.iadd, 1) := by decide +kernel
theorem dX0_extend_76 : decode cX0_extend 76 = .ok (.iload_n 3, 1) := by decide +kernel
theorem dX0_extend_77 : decode cX0_extend 77 = .ok (.iconst 1, 1) := by decide +kernel
theorem dX0_extend_78 : decode cX0_extend 78 = .ok (.iload 5, 2) := by decide +kernel
theorem dX0_extend_80 : decode cX0_extend 80 = .ok (.ishl, 1) := by decide +kernel
theorem dX0_extend_81 : decode cX0_extend 81 = .ok (.ior, 1) := by decide +kernel
theorem dX0_extend_82 : decode cX0_extend 82 = .ok (.invokestatic 40, 3) := by decide +kernel
theorem dX0_extend_85 : decode cX0_extend 85 = .ok (.iinc 5 1, 3) := by decide +kernel
theorem dX0_extend_88 : decode cX0_extend 88 = .ok (.goto (-54), 3) := by decide +kernel
theorem dX0_extend_91 : decode cX0_extend 91 = .ok (.return_, 1) := by decide +kernel
theorem dX0_enter_0 : decode cX0_enter 0 = .ok (.aload_n 0, 1) := by decide +kernel
theorem dX0_enter_1 : decode cX0_enter 1 = .ok (.getfield 21, 3) := by decide +kernel
theorem dX0_enter_4 : decode cX0_enter 4 = .ok (.bipush 8, 2) := by decide +kernel
theorem dX0_enter_6 : decode cX0_enter 6 = .ok (.if_icmp .lt 4, 3) := by decide +kernel
theorem dX0_enter_9 : decode cX0_enter 9 = .ok (.return_, 1) := by decide +kernel
theorem dX0_enter_10 : decode cX0_enter 10 = .ok (.aload_n 0, 1) := by decide +kernel
theorem dX0_enter_11 : decode cX0_enter 11 = .ok (.getfield 21, 3) := by decide +kernel
theorem dX0_enter_14 : decode cX0_enter 14 = .ok (.bipush 8, 2) := by decide +kernel
theorem dX0_enter_16 : decode cX0_enter 16 = .ok (.imul, 1) := by decide +kernel
theorem dX0_enter_17 : decode cX0_enter 17 = .ok (.istore_n 2, 1) := by decide +kernel
theorem dX0_enter_18 : decode cX0_enter 18 = .ok (.aload_n 1, 1) := by decide +kernel
theorem dX0_enter_19 : decode cX0_enter 19 = .ok (.iconst 0, 1) := by decide +kernel
theorem dX0_enter_20 : decode cX0_enter 20 = .ok (.invokevirtual 48, 3) := by decide +kernel
theorem dX0_enter_23 : decode cX0_enter 23 = .ok (.istore_n 3, 1) := by decide +kernel
theorem dX0_enter_24 : decode cX0_enter 24 = .ok (.iconst 0, 1) := by decide +kernel
theorem dX0_enter_25 : decode cX0_enter 25 = .ok (.istore 4, 2) := by decide +kernel
theorem dX0_enter_27 : decode cX0_enter 27 = .ok (.iload 4, 2) := by decide +kernel
theorem dX0_enter_29 : decode cX0_enter 29 = .ok (.aload_n 0, 1) := by decide +kernel
theorem dX0_enter_30 : decode cX0_enter 30 = .ok (.getfield 30, 3) := by decide +kernel
theorem dX0_enter_33 : decode cX0_enter 33 = .ok (.if_icmp .ge 74, 3) := by decide +kernel
theorem dX0_enter_36 : decode cX0_enter 36 = .ok (.aload_n 0, 1) := by decide +kernel
theorem dX0_enter_37 : decode cX0_enter 37 = .ok (.getfield 15, 3) := by decide +kernel
theorem dX0_enter_40 : decode cX0_enter 40 = .ok (.iload_n 2, 1) := by decide +kernel
theorem dX0_enter_41 : decode cX0_enter 41 = .ok (.iload 4, 2) := by decide +kernel
theorem dX0_enter_43 : decode cX0_enter 43 = .ok (.iadd, 1) := by decide +kernel
theorem dX0_enter_44 : decode cX0_enter 44 = .ok (.aload_n 0, 1) := by decide +kernel
theorem dX0_enter_45 : decode cX0_enter 45 = .ok (.getfield 9, 3) := by decide +kernel
theorem dX0_enter_48 : decode cX0_enter 48 = .ok (.iload 4, 2) := by decide +kernel
theorem dX0_enter_50 : decode cX0_enter 50 = .ok (.iaload, 1) := by decide +kernel
theorem dX0_enter_51 : decode cX0_enter 51 = .ok (.iastore, 1) := by decide +kernel
theorem dX0_enter_52 : decode cX0_enter 52 = .ok (.aload_n 0, 1) := by decide +kernel
theorem dX0_enter_53 : decode cX0_enter 53 = .ok (.getfield 18, 3) := by decide +kernel
theorem dX0_enter_56 : decode cX0_enter 56 = .ok (.iload_n 2, 1) := by decide +kernel
theorem dX0_enter_57 : decode cX0_enter 57 = .ok (.aload_n 0, 1) := by decide +kernel
theorem dX0_enter_58 : decode cX0_enter 58 = .ok (.getfield 9, 3) := by decide +kernel
theorem dX0_enter_61 : decode cX0_enter 61 = .ok (.iload 4, 2) := by decide +kernel
theorem dX0_enter_63 : decode cX0_enter 63 = .ok (.iaload, 1) := by decide +kernel
theorem dX0_enter_64 : decode cX0_enter 64 = .ok (.iadd, 1) := by decide +kernel
theorem dX0_enter_65 : decode cX0_enter 65 = .ok (.iload_n 3, 1) := by decide +kernel
theorem dX0_enter_66 : decode cX0_enter 66 = .ok (.iastore, 1) := by decide +kernel
theorem dX0_enter_67 : decode cX0_enter 67 = .ok (.iload_n 3, 1) := by decide +kernel
theorem dX0_enter_68 : decode cX0_enter 68 = .ok (.aload_n 0, 1) := by decide +kernel
theorem dX0_enter_69 : decode cX0_enter 69 = .ok (.getfield 37, 3) := by decide +kernel
theorem dX0_enter_72 : decode cX0_enter 72 = .ok (.iadd, 1) := by decide +kernel
theorem dX0_enter_73 : decode cX0_enter 73 = .ok (.aload_n 0, 1) := by decide +kernel
theorem dX0_enter_74 : decode cX0_enter 74 = .ok (.getfield 35, 3) := by decide +kernel
theorem dX0_enter_77 : decode cX0_enter 77 = .ok (.if_icmp .ge 12, 3) := by decide +kernel
theorem dX0_enter_80 : decode cX0_enter 80 = .ok (.iload_n 3, 1) := by decide +kernel
theorem dX0_enter_81 : decode cX0_enter 81 = .ok (.aload_n 0, 1) := by decide +kernel
theorem dX0_enter_82 : decode cX0_enter 82 = .ok (.getfield 37, 3) := by decide +kernel
theorem dX0_enter_85 : decode cX0_enter 85 = .ok (.iadd, 1) := by decide +kernel
theorem dX0_enter_86 : decode cX0_enter 86 = .ok (.goto 14, 3) := by decide +kernel
theorem dX0_enter_89 : decode cX0_enter 89 = .ok (.iload_n 3, 1) := by decide +kernel
theorem dX0_enter_90 : decode cX0_enter 90 = .ok (.aload_n 0, 1) := by decide +kernel
theorem dX0_enter_91 : decode cX0_enter 91 = .ok (.getfield 37, 3) := by decide +kernel
theorem dX0_enter_94 : decode cX0_enter 94 = .ok (.iadd, 1) := by decide +kernel
theorem dX0_enter_95 : decode cX0_enter 95 = .ok (.aload_n 0, 1) := by decide +kernel
theorem dX0_enter_96 : decode cX0_enter 96 = .ok (.getfield 35, 3) := by decide +kernel
theorem dX0_enter_99 : decode cX0_enter 99 = .ok (.isub, 1) := by decide +kernel
theorem dX0_enter_100 : decode cX0_enter 100 = .ok (.istore_n 3, 1) := by decide +kernel
theorem dX0_enter_101 : decode cX0_enter 101 = .ok (.iinc 4 1, 3) := by decide +kernel
theorem dX0_enter_104 : decode cX0_enter 104 = .ok (.goto (-77), 3) := by decide +kernel
theorem dX0_enter_107 : decode cX0_enter 107 = .ok (.aload_n 0, 1) := by decide +kernel
theorem dX0_enter_108 : decode cX0_enter 108 = .ok (.dup, 1) := by decide +kernel
theorem dX0_enter_109 : decode cX0_enter 109 = .ok (.getfield 21, 3) := by decide +kernel
theorem dX0_enter_112 : decode cX0_enter 112 = .ok (.iconst 1, 1) := by decide +kernel
theorem dX0_enter_113 : decode cX0_enter 113 = .ok (.iadd, 1) := by decide +kernel
theorem dX0_enter_114 : decode cX0_enter 114 = .ok (.putfield 21, 3) := by decide +kernel
theorem dX0_enter_117 : decode cX0_enter 117 = .ok (.return_, 1) := by decide +kernel
theorem dX0_cylinderAt_0 : decode cX0_cylinderAt 0 = .ok (.aload_n 0, 1) := by decide +kernel
theorem dX0_cylinderAt_1 : decode cX0_cylinderAt 1 = .ok (.getfield 15, 3) := by decide +kernel
theorem dX0_cylinderAt_4 : decode cX0_cylinderAt 4 = .ok (.iload_n 1, 1) := by decide +kernel
theorem dX0_cylinderAt_5 : decode cX0_cylinderAt 5 = .ok (.bipush 8, 2) := by decide +kernel
theorem dX0_cylinderAt_7 : decode cX0_cylinderAt 7 = .ok (.imul, 1) := by decide +kernel
theorem dX0_cylinderAt_8 : decode cX0_cylinderAt 8 = .ok (.iload_n 2, 1) := by decide +kernel
theorem dX0_cylinderAt_9 : decode cX0_cylinderAt 9 = .ok (.iadd, 1) := by decide +kernel
theorem dX0_cylinderAt_10 : decode cX0_cylinderAt 10 = .ok (.iaload, 1) := by decide +kernel
theorem dX0_cylinderAt_11 : decode cX0_cylinderAt 11 = .ok (.ireturn, 1) := by decide +kernel
theorem dX0_slotOf_0 : decode cX0_slotOf 0 = .ok (.aload_n 0, 1) := by decide +kernel
theorem dX0_slotOf_1 : decode cX0_slotOf 1 = .ok (.getfield 18, 3) := by decide +kernel
theorem dX0_slotOf_4 : decode cX0_slotOf 4 = .ok (.iload_n 1, 1) := by decide +kernel
theorem dX0_slotOf_5 : decode cX0_slotOf 5 = .ok (.bipush 8, 2) := by decide +kernel
theorem dX0_slotOf_7 : decode cX0_slotOf 7 = .ok (.imul, 1) := by decide +kernel
theorem dX0_slotOf_8 : decode cX0_slotOf 8 = .ok (.iload_n 2, 1) := by decide +kernel
theorem dX0_slotOf_9 : decode cX0_slotOf 9 = .ok (.iadd, 1) := by decide +kernel
theorem dX0_slotOf_10 : decode cX0_slotOf 10 = .ok (.iaload, 1) := by decide +kernel
theorem dX0_slotOf_11 : decode cX0_slotOf 11 = .ok (.ireturn, 1) := by decide +kernel
theorem dX0_penalty_0 : decode cX0_penalty 0 = .ok (.iconst 0, 1) := by decide +kernel
theorem dX0_penalty_1 : decode cX0_penalty 1 = .ok (.istore_n 2, 1) := by decide +kernel
theorem dX0_penalty_2 : decode cX0_penalty 2 = .ok (.aload_n 0, 1) := by decide +kernel
theorem dX0_penalty_3 : decode cX0_penalty 3 = .ok (.iload_n 1, 1) := by decide +kernel
theorem dX0_penalty_4 : decode cX0_penalty 4 = .ok (.aload_n 0, 1) := by decide +kernel
theorem dX0_penalty_5 : decode cX0_penalty 5 = .ok (.getfield 30, 3) := by decide +kernel
theorem dX0_penalty_8 : decode cX0_penalty 8 = .ok (.iconst 1, 1) := by decide +kernel
theorem dX0_penalty_9 : decode cX0_penalty 9 = .ok (.isub, 1) := by decide +kernel
theorem dX0_penalty_10 : decode cX0_penalty 10 = .ok (.invokevirtual 52, 3) := by decide +kernel
theorem dX0_penalty_13 : decode cX0_penalty 13 = .ok (.istore_n 3, 1) := by decide +kernel
theorem dX0_penalty_14 : decode cX0_penalty 14 = .ok (.iconst 0, 1) := by decide +kernel
theorem dX0_penalty_15 : decode cX0_penalty 15 = .ok (.istore 4, 2) := by decide +kernel
theorem dX0_penalty_17 : decode cX0_penalty 17 = .ok (.iload 4, 2) := by decide +kernel
theorem dX0_penalty_19 : decode cX0_penalty 19 = .ok (.aload_n 0, 1) := by decide +kernel
theorem dX0_penalty_20 : decode cX0_penalty 20 = .ok (.getfield 30, 3) := by decide +kernel
theorem dX0_penalty_23 : decode cX0_penalty 23 = .ok (.if_icmp .ge 35, 3) := by decide +kernel
theorem dX0_penalty_26 : decode cX0_penalty 26 = .ok (.aload_n 0, 1) := by decide +kernel
theorem dX0_penalty_27 : decode cX0_penalty 27 = .ok (.iload_n 1, 1) := by decide +kernel
theorem dX0_penalty_28 : decode cX0_penalty 28 = .ok (.iload 4, 2) := by decide +kernel
theorem dX0_penalty_30 : decode cX0_penalty 30 = .ok (.invokevirtual 52, 3) := by decide +kernel
theorem dX0_penalty_33 : decode cX0_penalty 33 = .ok (.istore 5, 2) := by decide +kernel
theorem dX0_penalty_35 : decode cX0_penalty 35 = .ok (.iload 5, 2) := by decide +kernel
theorem dX0_penalty_37 : decode cX0_penalty 37 = .ok (.iload_n 3, 1) := by decide +kernel
theorem dX0_penalty_38 : decode cX0_penalty 38 = .ok (.isub, 1) := by decide +kernel
theorem dX0_penalty_39 : decode cX0_penalty 39 = .ok (.invokestatic 56, 3) := by decide +kernel
theorem dX0_penalty_42 : decode cX0_penalty 42 = .ok (.iconst 1, 1) := by decide +kernel
theorem dX0_penalty_43 : decode cX0_penalty 43 = .ok (.if_icmp .ne 6, 3) := by decide +kernel
theorem dX0_penalty_46 : decode cX0_penalty 46 = .ok (.iinc 2 1, 3) := by decide +kernel
theorem dX0_penalty_49 : decode cX0_penalty 49 = .ok (.iload 5, 2) := by decide +kernel
theorem dX0_penalty_51 : decode cX0_penalty 51 = .ok (.istore_n 3, 1) := by decide +kernel
theorem dX0_penalty_52 : decode cX0_penalty 52 = .ok (.iinc 4 1, 3) := by decide +kernel
theorem dX0_penalty_55 : decode cX0_penalty 55 = .ok (.goto (-38), 3) := by decide +kernel
theorem dX0_penalty_58 : decode cX0_penalty 58 = .ok (.iload_n 2, 1) := by decide +kernel
theorem dX0_penalty_59 : decode cX0_penalty 59 = .ok (.ireturn, 1) := by decide +kernel
theorem dX0_greatestLoad_0 : decode cX0_greatestLoad 0 = .ok (.iconst 0, 1) := by decide +kernel
theorem dX0_greatestLoad_1 : decode cX0_greatestLoad 1 = .ok (.istore_n 2, 1) := by decide +kernel
theorem dX0_greatestLoad_2 : decode cX0_greatestLoad 2 = .ok (.iconst 0, 1) := by decide +kernel
theorem dX0_greatestLoad_3 : decode cX0_greatestLoad 3 = .ok (.istore_n 3, 1) := by decide +kernel
theorem dX0_greatestLoad_4 : decode cX0_greatestLoad 4 = .ok (.iload_n 3, 1) := by decide +kernel
theorem dX0_greatestLoad_5 : decode cX0_greatestLoad 5 = .ok (.aload_n 0, 1) := by decide +kernel
theorem dX0_greatestLoad_6 : decode cX0_greatestLoad 6 = .ok (.getfield 30, 3) := by decide +kernel
theorem dX0_greatestLoad_9 : decode cX0_greatestLoad 9 = .ok (.if_icmp .gt 28, 3) := by decide +kernel
theorem dX0_greatestLoad_12 : decode cX0_greatestLoad 12 = .ok (.iload_n 2, 1) := by decide +kernel
theorem dX0_greatestLoad_13 : decode cX0_greatestLoad 13 = .ok (.aload_n 0, 1) := by decide +kernel
theorem dX0_greatestLoad_14 : decode cX0_greatestLoad 14 = .ok (.iload_n 1, 1) := by decide +kernel
theorem dX0_greatestLoad_15 : decode cX0_greatestLoad 15 = .ok (.iconst 1, 1) := by decide +kernel
theorem dX0_greatestLoad_16 : decode cX0_greatestLoad 16 = .ok (.aload_n 0, 1) := by decide +kernel
theorem dX0_greatestLoad_17 : decode cX0_greatestLoad 17 = .ok (.getfield 30, 3) := by decide +kernel
theorem dX0_greatestLoad_20 : decode cX0_greatestLoad 20 = .ok (.ishl, 1) := by decide +kernel
theorem dX0_greatestLoad_21 : decode cX0_greatestLoad 21 = .ok (.iconst 1, 1) := by decide +kernel
theorem dX0_greatestLoad_22 : decode cX0_greatestLoad 22 = .ok (.isub, 1) := by decide +kernel
theorem dX0_greatestLoad_23 : decode cX0_greatestLoad 23 = .ok (.iload_n 3, 1) := by decide +kernel
theorem dX0_greatestLoad_24 : decode cX0_greatestLoad 24 = .ok (.invokevirtual 61, 3) := by decide +kernel
theorem dX0_greatestLoad_27 : decode cX0_greatestLoad 27 = .ok (.invokestatic 65, 3) := by decide +kernel
theorem dX0_greatestLoad_30 : decode cX0_greatestLoad 30 = .ok (.istore_n 2, 1) := by decide +kernel
theorem dX0_greatestLoad_31 : decode cX0_greatestLoad 31 = .ok (.iinc 3 1, 3) := by decide +kernel
theorem dX0_greatestLoad_34 : decode cX0_greatestLoad 34 = .ok (.goto (-30), 3) := by decide +kernel
theorem dX0_greatestLoad_37 : decode cX0_greatestLoad 37 = .ok (.iload_n 2, 1) := by decide +kernel
theorem dX0_greatestLoad_38 : decode cX0_greatestLoad 38 = .ok (.ireturn, 1) := by decide +kernel
theorem dX0_peakOf_0 : decode cX0_peakOf 0 = .ok (.iconst 0, 1) := by decide +kernel
theorem dX0_peakOf_1 : decode cX0_peakOf 1 = .ok (.istore 4, 2) := by decide +kernel
theorem dX0_peakOf_3 : decode cX0_peakOf 3 = .ok (.iload_n 3, 1) := by decide +kernel
theorem dX0_peakOf_4 : decode cX0_peakOf 4 = .ok (.iconst 1, 1) := by decide +kernel
theorem dX0_peakOf_5 : decode cX0_peakOf 5 = .ok (.isub, 1) := by decide +kernel
theorem dX0_peakOf_6 : decode cX0_peakOf 6 = .ok (.istore 5, 2) := by decide +kernel
theorem dX0_peakOf_8 : decode cX0_peakOf 8 = .ok (.iload 5, 2) := by decide +kernel
theorem dX0_peakOf_10 : decode cX0_peakOf 10 = .ok (.iload_n 3, 1) := by decide +kernel
theorem dX0_peakOf_11 : decode cX0_peakOf 11 = .ok (.if_icmp .gt 48, 3) := by decide +kernel
theorem dX0_peakOf_14 : decode cX0_peakOf 14 = .ok (.iload 5, 2) := by decide +kernel
theorem dX0_peakOf_16 : decode cX0_peakOf 16 = .ok (.ifCond .lt 37, 3) := by decide +kernel
theorem dX0_peakOf_19 : decode cX0_peakOf 19 = .ok (.iload 5, 2) := by decide +kernel
theorem dX0_peakOf_21 : decode cX0_peakOf 21 = .ok (.aload_n 0, 1) := by decide +kernel
theorem dX0_peakOf_22 : decode cX0_peakOf 22 = .ok (.getfield 30, 3) := by decide +kernel
theorem dX0_peakOf_25 : decode cX0_peakOf 25 = .ok (.if_icmp .ge 28, 3) := by decide +kernel
theorem dX0_peakOf_28 : decode cX0_peakOf 28 = .ok (.aload_n 0, 1) := by decide +kernel
theorem dX0_peakOf_29 : decode cX0_peakOf 29 = .ok (.iload_n 1, 1) := by decide +kernel
theorem dX0_peakOf_30 : decode cX0_peakOf 30 = .ok (.iload 5, 2) := by decide +kernel
theorem dX0_peakOf_32 : decode cX0_peakOf 32 = .ok (.invokevirtual 68, 3) := by decide +kernel
theorem dX0_peakOf_35 : decode cX0_peakOf 35 = .ok (.istore 6, 2) := by decide +kernel
theorem dX0_peakOf_37 : decode cX0_peakOf 37 = .ok (.iload 4, 2) := by decide +kernel
theorem dX0_peakOf_39 : decode cX0_peakOf 39 = .ok (.aload_n 0, 1) := by decide +kernel
theorem dX0_peakOf_40 : decode cX0_peakOf 40 = .ok (.iload_n 1, 1) := by decide +kernel
theorem dX0_peakOf_41 : decode cX0_peakOf 41 = .ok (.iload_n 2, 1) := by decide +kernel
theorem dX0_peakOf_42 : decode cX0_peakOf 42 = .ok (.iload_n 3, 1) := by decide +kernel
theorem dX0_peakOf_43 : decode cX0_peakOf 43 = .ok (.iload 6, 2) := by decide +kernel
theorem dX0_peakOf_45 : decode cX0_peakOf 45 = .ok (.invokevirtual 71, 3) := by decide +kernel
theorem dX0_peakOf_48 : decode cX0_peakOf 48 = .ok (.invokestatic 65, 3) := by decide +kernel
theorem dX0_peakOf_51 : decode cX0_peakOf 51 = .ok (.istore 4, 2) := by decide +kernel
theorem dX0_peakOf_53 : decode cX0_peakOf 53 = .ok (.iinc 5 1, 3) := by decide +kernel
theorem dX0_peakOf_56 : decode cX0_peakOf 56 = .ok (.goto (-48), 3) := by decide +kernel
theorem dX0_peakOf_59 : decode cX0_peakOf 59 = .ok (.iload 4, 2) := by decide +kernel
theorem dX0_peakOf_61 : decode cX0_peakOf 61 = .ok (.ireturn, 1) := by decide +kernel
theorem dX0_loadOf_0 : decode cX0_loadOf 0 = .ok (.aload_n 0, 1) := by decide +kernel
theorem dX0_loadOf_1 : decode cX0_loadOf 1 = .ok (.iload_n 1, 1) := by decide +kernel
theorem dX0_loadOf_2 : decode cX0_loadOf 2 = .ok (.iload_n 2, 1) := by decide +kernel
theorem dX0_loadOf_3 : decode cX0_loadOf 3 = .ok (.iload_n 3, 1) := by decide +kernel
theorem dX0_loadOf_4 : decode cX0_loadOf 4 = .ok (.iconst 1, 1) := by decide +kernel
theorem dX0_loadOf_5 : decode cX0_loadOf 5 = .ok (.isub, 1) := by decide +kernel
theorem dX0_loadOf_6 : decode cX0_loadOf 6 = .ok (.iload 4, 2) := by decide +kernel
theorem dX0_loadOf_8 : decode cX0_loadOf 8 = .ok (.invokevirtual 75, 3) := by decide +kernel
theorem dX0_loadOf_11 : decode cX0_loadOf 11 = .ok (.aload_n 0, 1) := by decide +kernel
theorem dX0_loadOf_12 : decode cX0_loadOf 12 = .ok (.iload_n 1, 1) := by decide +kernel
theorem dX0_loadOf_13 : decode cX0_loadOf 13 = .ok (.iload_n 2, 1) := by decide +kernel
theorem dX0_loadOf_14 : decode cX0_loadOf 14 = .ok (.iload_n 3, 1) := by decide +kernel
theorem dX0_loadOf_15 : decode cX0_loadOf 15 = .ok (.iload 4, 2) := by decide +kernel
theorem dX0_loadOf_17 : decode cX0_loadOf 17 = .ok (.invokevirtual 75, 3) := by decide +kernel
theorem dX0_loadOf_20 : decode cX0_loadOf 20 = .ok (.iadd, 1) := by decide +kernel
theorem dX0_loadOf_21 : decode cX0_loadOf 21 = .ok (.ireturn, 1) := by decide +kernel
theorem dX0_shareOf_0 : decode cX0_shareOf 0 = .ok (.iload_n 3, 1) := by decide +kernel
theorem dX0_shareOf_1 : decode cX0_shareOf 1 = .ok (.ifCond .lt 19, 3) := by decide +kernel
theorem dX0_shareOf_4 : decode cX0_shareOf 4 = .ok (.iload_n 3, 1) := by decide +kernel
theorem dX0_shareOf_5 : decode cX0_shareOf 5 = .ok (.aload_n 0, 1) := by decide +kernel
theorem dX0_shareOf_6 : decode cX0_shareOf 6 = .ok (.getfield 30, 3) := by decide +kernel
theorem dX0_shareOf_9 : decode cX0_shareOf 9 = .ok (.if_icmp .ge 11, 3) := by decide +kernel
theorem dX0_shareOf_12 : decode cX0_shareOf 12 = .ok (.iload_n 2, 1) := by decide +kernel
theorem dX0_shareOf_13 : decode cX0_shareOf 13 = .ok (.iload_n 3, 1) := by decide +kernel
theorem dX0_shareOf_14 : decode cX0_shareOf 14 = .ok (.ishr, 1) := by decide +kernel
theorem dX0_shareOf_15 : decode cX0_shareOf 15 = .ok (.iconst 1, 1) := by decide +kernel
theorem dX0_shareOf_16 : decode cX0_shareOf 16 = .ok (.iand, 1) := by decide +kernel
theorem dX0_shareOf_17 : decode cX0_shareOf 17 = .ok (.ifCond .ne 5, 3) := by decide +kernel
theorem dX0_shareOf_20 : decode cX0_shareOf 20 = .ok (.iconst 0, 1) := by decide +kernel
theorem dX0_shareOf_21 : decode cX0_shareOf 21 = .ok (.ireturn, 1) := by decide +kernel
theorem dX0_shareOf_22 : decode cX0_shareOf 22 = .ok (.aload_n 0, 1) := by decide +kernel
theorem dX0_shareOf_23 : decode cX0_shareOf 23 = .ok (.aload_n 0, 1) := by decide +kernel
theorem dX0_shareOf_24 : decode cX0_shareOf 24 = .ok (.iload_n 1, 1) := by decide +kernel
theorem dX0_shareOf_25 : decode cX0_shareOf 25 = .ok (.iload_n 3, 1) := by decide +kernel
theorem dX0_shareOf_26 : decode cX0_shareOf 26 = .ok (.invokevirtual 68, 3) := by decide +kernel
theorem dX0_shareOf_29 : decode cX0_shareOf 29 = .ok (.iload 4, 2) := by decide +kernel
theorem dX0_shareOf_31 : decode cX0_shareOf 31 = .ok (.invokevirtual 78, 3) := by decide +kernel
theorem dX0_shareOf_34 : decode cX0_shareOf 34 = .ok (.istore 5, 2) := by decide +kernel
theorem dX0_shareOf_36 : decode cX0_shareOf 36 = .ok (.iload 5, 2) := by decide +kernel
theorem dX0_shareOf_38 : decode cX0_shareOf 38 = .ok (.iconst 4, 1) := by decide +kernel
theorem dX0_shareOf_39 : decode cX0_shareOf 39 = .ok (.if_icmp .ge 11, 3) := by decide +kernel
theorem dX0_shareOf_42 : decode cX0_shareOf 42 = .ok (.bipush 8, 2) := by decide +kernel
theorem dX0_shareOf_44 : decode cX0_shareOf 44 = .ok (.iload 5, 2) := by decide +kernel
theorem dX0_shareOf_46 : decode cX0_shareOf 46 = .ok (.ishr, 1) := by decide +kernel
theorem dX0_shareOf_47 : decode cX0_shareOf 47 = .ok (.goto 4, 3) := by decide +kernel
theorem dX0_shareOf_50 : decode cX0_shareOf 50 = .ok (.iconst 0, 1) := by decide +kernel
theorem dX0_shareOf_51 : decode cX0_shareOf 51 = .ok (.ireturn, 1) := by decide +kernel
theorem dX0_gap_0 : decode cX0_gap 0 = .ok (.iconst 0, 1) := by decide +kernel
theorem dX0_gap_1 : decode cX0_gap 1 = .ok (.istore_n 3, 1) := by decide +kernel
theorem dX0_gap_2 : decode cX0_gap 2 = .ok (.iconst 0, 1) := by decide +kernel
theorem dX0_gap_3 : decode cX0_gap 3 = .ok (.istore 4, 2) := by decide +kernel
theorem dX0_gap_5 : decode cX0_gap 5 = .ok (.iload 4, 2) := by decide +kernel
theorem dX0_gap_7 : decode cX0_gap 7 = .ok (.aload_n 0, 1) := by decide +kernel
theorem dX0_gap_8 : decode cX0_gap 8 = .ok (.getfield 30, 3) := by decide +kernel
theorem dX0_gap_11 : decode cX0_gap 11 = .ok (.if_icmp .ge 32, 3) := by decide +kernel
theorem dX0_gap_14 : decode cX0_gap 14 = .ok (.iload_n 2, 1) := by decide +kernel
theorem dX0_gap_15 : decode cX0_gap 15 = .ok (.iload 4, 2) := by decide +kernel
theorem dX0_gap_17 : decode cX0_gap 17 = .ok (.ishr, 1) := by decide +kernel
theorem dX0_gap_18 : decode cX0_gap 18 = .ok (.iconst 1, 1) := by decide +kernel
theorem dX0_gap_19 : decode cX0_gap 19 = .ok (.iand, 1) := by decide +kernel
theorem dX0_gap_20 : decode cX0_gap 20 = .ok (.iconst 1, 1) := by decide +kernel
theorem dX0_gap_21 : decode cX0_gap 21 = .ok (.if_icmp .ne 16, 3) := by decide +kernel
theorem dX0_gap_24 : decode cX0_gap 24 = .ok (.iload_n 3, 1) := by decide +kernel
theorem dX0_gap_25 : decode cX0_gap 25 = .ok (.aload_n 0, 1) := by decide +kernel
theorem dX0_gap_26 : decode cX0_gap 26 = .ok (.iload_n 1, 1) := by decide +kernel
theorem dX0_gap_27 : decode cX0_gap 27 = .ok (.iload_n 2, 1) := by decide +kernel
theorem dX0_gap_28 : decode cX0_gap 28 = .ok (.iload 4, 2) := by decide +kernel
theorem dX0_gap_30 : decode cX0_gap 30 = .ok (.invokevirtual 81, 3) := by decide +kernel
theorem dX0_gap_33 : decode cX0_gap 33 = .ok (.invokestatic 65, 3) := by decide +kernel
theorem dX0_gap_36 : decode cX0_gap 36 = .ok (.istore_n 3, 1) := by decide +kernel
theorem dX0_gap_37 : decode cX0_gap 37 = .ok (.iinc 4 1, 3) := by decide +kernel
theorem dX0_gap_40 : decode cX0_gap 40 = .ok (.goto (-35), 3) := by decide +kernel
theorem dX0_gap_43 : decode cX0_gap 43 = .ok (.iload_n 3, 1) := by decide +kernel
theorem dX0_gap_44 : decode cX0_gap 44 = .ok (.ireturn, 1) := by decide +kernel
theorem dX0_gapBehind_0 : decode cX0_gapBehind 0 = .ok (.aload_n 0, 1) := by decide +kernel
theorem dX0_gapBehind_1 : decode cX0_gapBehind 1 = .ok (.getfield 35, 3) := by decide +kernel
theorem dX0_gapBehind_4 : decode cX0_gapBehind 4 = .ok (.istore 4, 2) := by decide +kernel
theorem dX0_gapBehind_6 : decode cX0_gapBehind 6 = .ok (.iconst 0, 1) := by decide +kernel
theorem dX0_gapBehind_7 : decode cX0_gapBehind 7 = .ok (.istore 5, 2) := by decide +kernel
theorem dX0_gapBehind_9 : decode cX0_gapBehind 9 = .ok (.iload 5, 2) := by decide +kernel
theorem dX0_gapBehind_11 : decode cX0_gapBehind 11 = .ok (.aload_n 0, 1) := by decide +kernel
theorem dX0_gapBehind_12 : decode cX0_gapBehind 12 = .ok (.getfield 30, 3) := by decide +kernel
theorem dX0_gapBehind_15 : decode cX0_gapBehind 15 = .ok (.if_icmp .ge 49, 3) := by decide +kernel
theorem dX0_gapBehind_18 : decode cX0_gapBehind 18 = .ok (.iload 5, 2) := by decide +kernel
theorem dX0_gapBehind_20 : decode cX0_gapBehind 20 = .ok (.iload_n 3, 1) := by decide +kernel
theorem dX0_gapBehind_21 : decode cX0_gapBehind 21 = .ok (.if_icmp .eq 37, 3) := by decide +kernel
theorem dX0_gapBehind_24 : decode cX0_gapBehind 24 = .ok (.iload_n 2, 1) := by decide +kernel
theorem dX0_gapBehind_25 : decode cX0_gapBehind 25 = .ok (.iload 5, 2) := by decide +kernel
theorem dX0_gapBehind_27 : decode cX0_gapBehind 27 = .ok (.ishr, 1) := by decide +kernel
theorem dX0_gapBehind_28 : decode cX0_gapBehind 28 = .ok (.iconst 1, 1) := by decide +kernel
theorem dX0_gapBehind_29 : decode cX0_gapBehind 29 = .ok (.iand, 1) := by decide +kernel
theorem dX0_gapBehind_30 : decode cX0_gapBehind 30 = .ok (.iconst 1, 1) := by decide +kernel
theorem dX0_gapBehind_31 : decode cX0_gapBehind 31 = .ok (.if_icmp .ne 27, 3) := by decide +kernel
theorem dX0_gapBehind_34 : decode cX0_gapBehind 34 = .ok (.iload 4, 2) := by decide +kernel
theorem dX0_gapBehind_36 : decode cX0_gapBehind 36 = .ok (.aload_n 0, 1) := by decide +kernel
theorem dX0_gapBehind_37 : decode cX0_gapBehind 37 = .ok (.aload_n 0, 1) := by decide +kernel
theorem dX0_gapBehind_38 : decode cX0_gapBehind 38 = .ok (.iload_n 1, 1) := by decide +kernel
theorem dX0_gapBehind_39 : decode cX0_gapBehind 39 = .ok (.iload_n 3, 1) := by decide +kernel
theorem dX0_gapBehind_40 : decode cX0_gapBehind 40 = .ok (.invokevirtual 68, 3) := by decide +kernel
theorem dX0_gapBehind_43 : decode cX0_gapBehind 43 = .ok (.aload_n 0, 1) := by decide +kernel
theorem dX0_gapBehind_44 : decode cX0_gapBehind 44 = .ok (.iload_n 1, 1) := by decide +kernel
theorem dX0_gapBehind_45 : decode cX0_gapBehind 45 = .ok (.iload 5, 2) := by decide +kernel
theorem dX0_gapBehind_47 : decode cX0_gapBehind 47 = .ok (.invokevirtual 68, 3) := by decide +kernel
theorem dX0_gapBehind_50 : decode cX0_gapBehind 50 = .ok (.invokevirtual 78, 3) := by decide +kernel
theorem dX0_gapBehind_53 : decode cX0_gapBehind 53 = .ok (.invokestatic 84, 3) := by decide +kernel
theorem dX0_gapBehind_56 : decode cX0_gapBehind 56 = .ok (.istore 4, 2) := by decide +kernel
theorem dX0_gapBehind_58 : decode cX0_gapBehind 58 = .ok (.iinc 5 1, 3) := by decide +kernel
theorem dX0_gapBehind_61 : decode cX0_gapBehind 61 = .ok (.goto (-52), 3) := by decide +kernel
theorem dX0_gapBehind_64 : decode cX0_gapBehind 64 = .ok (.iload 4, 2) := by decide +kernel
theorem dX0_gapBehind_66 : decode cX0_gapBehind 66 = .ok (.ireturn, 1) := by decide +kernel
theorem dX0_slotsFrom_0 : decode cX0_slotsFrom 0 = .ok (.iload_n 2, 1) := by decide +kernel
theorem dX0_slotsFrom_1 : decode cX0_slotsFrom 1 = .ok (.iload_n 1, 1) := by decide +kernel
theorem dX0_slotsFrom_2 : decode cX0_slotsFrom 2 = .ok (.if_icmp .lt 9, 3) := by decide +kernel
theorem dX0_slotsFrom_5 : decode cX0_slotsFrom 5 = .ok (.iload_n 2, 1) := by decide +kernel
theorem dX0_slotsFrom_6 : decode cX0_slotsFrom 6 = .ok (.iload_n 1, 1) := by decide +kernel
theorem dX0_slotsFrom_7 : decode cX0_slotsFrom 7 = .ok (.isub, 1) := by decide +kernel
theorem dX0_slotsFrom_8 : decode cX0_slotsFrom 8 = .ok (.goto 11, 3) := by decide +kernel
theorem dX0_slotsFrom_11 : decode cX0_slotsFrom 11 = .ok (.iload_n 2, 1) := by decide +kernel
theorem dX0_slotsFrom_12 : decode cX0_slotsFrom 12 = .ok (.iload_n 1, 1) := by decide +kernel
theorem dX0_slotsFrom_13 : decode cX0_slotsFrom 13 = .ok (.isub, 1) := by decide +kernel
theorem dX0_slotsFrom_14 : decode cX0_slotsFrom 14 = .ok (.aload_n 0, 1) := by decide +kernel
theorem dX0_slotsFrom_15 : decode cX0_slotsFrom 15 = .ok (.getfield 35, 3) := by decide +kernel
theorem dX0_slotsFrom_18 : decode cX0_slotsFrom 18 = .ok (.iadd, 1) := by decide +kernel
theorem dX0_slotsFrom_19 : decode cX0_slotsFrom 19 = .ok (.ireturn, 1) := by decide +kernel
theorem dX1_init_0 : decode cX1_init 0 = .ok (.aload_n 0, 1) := by decide +kernel
theorem dX1_init_1 : decode cX1_init 1 = .ok (.invokespecial 3, 3) := by decide +kernel
theorem dX1_init_4 : decode cX1_init 4 = .ok (.aload_n 0, 1) := by decide +kernel
theorem dX1_init_5 : decode cX1_init 5 = .ok (.iconst 4, 1) := by decide +kernel
theorem dX1_init_6 : decode cX1_init 6 = .ok (.putfield 9, 3) := by decide +kernel
theorem dX1_init_9 : decode cX1_init 9 = .ok (.aload_n 0, 1) := by decide +kernel
theorem dX1_init_10 : decode cX1_init 10 = .ok (.bipush 8, 2) := by decide +kernel
theorem dX1_init_12 : decode cX1_init 12 = .ok (.newarray .int, 2) := by decide +kernel
theorem dX1_init_14 : decode cX1_init 14 = .ok (.putfield 15, 3) := by decide +kernel
theorem dX1_init_17 : decode cX1_init 17 = .ok (.aload_n 0, 1) := by decide +kernel
theorem dX1_init_18 : decode cX1_init 18 = .ok (.bipush 8, 2) := by decide +kernel
theorem dX1_init_20 : decode cX1_init 20 = .ok (.newarray .int, 2) := by decide +kernel
theorem dX1_init_22 : decode cX1_init 22 = .ok (.putfield 19, 3) := by decide +kernel
theorem dX1_init_25 : decode cX1_init 25 = .ok (.aload_n 0, 1) := by decide +kernel
theorem dX1_init_26 : decode cX1_init 26 = .ok (.bipush 8, 2) := by decide +kernel
theorem dX1_init_28 : decode cX1_init 28 = .ok (.newarray .int, 2) := by decide +kernel
theorem dX1_init_30 : decode cX1_init 30 = .ok (.putfield 22, 3) := by decide +kernel
theorem dX1_init_33 : decode cX1_init 33 = .ok (.aload_n 0, 1) := by decide +kernel
theorem dX1_init_34 : decode cX1_init 34 = .ok (.new 25, 3) := by decide +kernel
theorem dX1_init_37 : decode cX1_init 37 = .ok (.dup, 1) := by decide +kernel
theorem dX1_init_38 : decode cX1_init 38 = .ok (.invokespecial 27, 3) := by decide +kernel
theorem dX1_init_41 : decode cX1_init 41 = .ok (.putfield 28, 3) := by decide +kernel
theorem dX1_init_44 : decode cX1_init 44 = .ok (.aload_n 0, 1) := by decide +kernel
theorem dX1_init_45 : decode cX1_init 45 = .ok (.iconst 4, 1) := by decide +kernel
theorem dX1_init_46 : decode cX1_init 46 = .ok (.invokevirtual 32, 3) := by decide +kernel
theorem dX1_init_49 : decode cX1_init 49 = .ok (.return_, 1) := by decide +kernel
theorem dX1_begin_0 : decode cX1_begin 0 = .ok (.aload_n 0, 1) := by decide +kernel
theorem dX1_begin_1 : decode cX1_begin 1 = .ok (.iload_n 1, 1) := by decide +kernel
theorem dX1_begin_2 : decode cX1_begin 2 = .ok (.putfield 36, 3) := by decide +kernel
theorem dX1_begin_5 : decode cX1_begin 5 = .ok (.iconst 0, 1) := by decide +kernel
theorem dX1_begin_6 : decode cX1_begin 6 = .ok (.istore_n 2, 1) := by decide +kernel
theorem dX1_begin_7 : decode cX1_begin 7 = .ok (.iload_n 2, 1) := by decide +kernel
theorem dX1_begin_8 : decode cX1_begin 8 = .ok (.bipush 8, 2) := by decide +kernel
theorem dX1_begin_10 : decode cX1_begin 10 = .ok (.if_icmp .ge 34, 3) := by decide +kernel
theorem dX1_begin_13 : decode cX1_begin 13 = .ok (.aload_n 0, 1) := by decide +kernel
theorem dX1_begin_14 : decode cX1_begin 14 = .ok (.getfield 15, 3) := by decide +kernel
theorem dX1_begin_17 : decode cX1_begin 17 = .ok (.iload_n 2, 1) := by decide +kernel
theorem dX1_begin_18 : decode cX1_begin 18 = .ok (.iconst 0, 1) := by decide +kernel
theorem dX1_begin_19 : decode cX1_begin 19 = .ok (.iastore, 1) := by decide +kernel
theorem dX1_begin_20 : decode cX1_begin 20 = .ok (.aload_n 0, 1) := by decide +kernel
theorem dX1_begin_21 : decode cX1_begin 21 = .ok (.getfield 19, 3) := by decide +kernel
theorem dX1_begin_24 : decode cX1_begin 24 = .ok (.iload_n 2, 1) := by decide +kernel
theorem dX1_begin_25 : decode cX1_begin 25 = .ok (.bipush 10, 2) := by decide +kernel
theorem dX1_begin_27 : decode cX1_begin 27 = .ok (.iastore, 1) := by decide +kernel
theorem dX1_begin_28 : decode cX1_begin 28 = .ok (.aload_n 0, 1) := by decide +kernel
theorem dX1_begin_29 : decode cX1_begin 29 = .ok (.getfield 22, 3) := by decide +kernel
theorem dX1_begin_32 : decode cX1_begin 32 = .ok (.iload_n 2, 1) := by decide +kernel
theorem dX1_begin_33 : decode cX1_begin 33 = .ok (.bipush 10, 2) := by decide +kernel
theorem dX1_begin_35 : decode cX1_begin 35 = .ok (.iload_n 2, 1) := by decide +kernel
theorem dX1_begin_36 : decode cX1_begin 36 = .ok (.imul, 1) := by decide +kernel
theorem dX1_begin_37 : decode cX1_begin 37 = .ok (.iastore, 1) := by decide +kernel
theorem dX1_begin_38 : decode cX1_begin 38 = .ok (.iinc 2 1, 3) := by decide +kernel
theorem dX1_begin_41 : decode cX1_begin 41 = .ok (.goto (-34), 3) := by decide +kernel
theorem dX1_begin_44 : decode cX1_begin 44 = .ok (.aload_n 0, 1) := by decide +kernel
theorem dX1_begin_45 : decode cX1_begin 45 = .ok (.invokevirtual 39, 3) := by decide +kernel
theorem dX1_begin_48 : decode cX1_begin 48 = .ok (.return_, 1) := by decide +kernel
theorem dX1_dropChoice_0 : decode cX1_dropChoice 0 = .ok (.aload_n 0, 1) := by decide +kernel
theorem dX1_dropChoice_1 : decode cX1_dropChoice 1 = .ok (.iconst (-1), 1) := by decide +kernel
theorem dX1_dropChoice_2 : decode cX1_dropChoice 2 = .ok (.putfield 42, 3) := by decide +kernel
theorem dX1_dropChoice_5 : decode cX1_dropChoice 5 = .ok (.aload_n 0, 1) := by decide +kernel
theorem dX1_dropChoice_6 : decode cX1_dropChoice 6 = .ok (.aload_n 0, 1) := by decide +kernel
theorem dX1_dropChoice_7 : decode cX1_dropChoice 7 = .ok (.invokevirtual 45, 3) := by decide +kernel
theorem dX1_dropChoice_10 : decode cX1_dropChoice 10 = .ok (.putfield 49, 3) := by decide +kernel
theorem dX1_dropChoice_13 : decode cX1_dropChoice 13 = .ok (.return_, 1) := by decide +kernel
theorem dX1_all_0 : decode cX1_all 0 = .ok (.iconst 1, 1) := by decide +kernel
theorem dX1_all_1 : decode cX1_all 1 = .ok (.aload_n 0, 1) := by decide +kernel
theorem dX1_all_2 : decode cX1_all 2 = .ok (.getfield 36, 3) := by decide +kernel
theorem dX1_all_5 : decode cX1_all 5 = .ok (.ishl, 1) := by decide +kernel
theorem dX1_all_6 : decode cX1_all 6 = .ok (.iconst 1, 1) := by decide +kernel
theorem dX1_all_7 : decode cX1_all 7 = .ok (.isub, 1) := by decide +kernel
theorem dX1_all_8 : decode cX1_all 8 = .ok (.ireturn, 1) := by decide +kernel
theorem dX1_slots_0 : decode cX1_slots 0 = .ok (.aload_n 0, 1) := by decide +kernel
theorem dX1_slots_1 : decode cX1_slots 1 = .ok (.getfield 9, 3) := by decide +kernel
theorem dX1_slots_4 : decode cX1_slots 4 = .ok (.iconst 2, 1) := by decide +kernel
theorem dX1_slots_5 : decode cX1_slots 5 = .ok (.if_icmp .ne 8, 3) := by decide +kernel
theorem dX1_slots_8 : decode cX1_slots 8 = .ok (.bipush 12, 2) := by decide +kernel
theorem dX1_slots_10 : decode cX1_slots 10 = .ok (.goto 5, 3) := by decide +kernel
theorem dX1_slots_13 : decode cX1_slots 13 = .ok (.bipush 24, 2) := by decide +kernel
theorem dX1_slots_15 : decode cX1_slots 15 = .ok (.ireturn, 1) := by decide +kernel
theorem dX1_lowSlot_0 : decode cX1_lowSlot 0 = .ok (.aload_n 0, 1) := by decide +kernel
theorem dX1_lowSlot_1 : decode cX1_lowSlot 1 = .ok (.getfield 15, 3) := by decide +kernel
theorem dX1_lowSlot_4 : decode cX1_lowSlot 4 = .ok (.iload_n 1, 1) := by decide +kernel
theorem dX1_lowSlot_5 : decode cX1_lowSlot 5 = .ok (.iaload, 1) := by decide +kernel
theorem dX1_lowSlot_6 : decode cX1_lowSlot 6 = .ok (.ifCond .ne 7, 3) := by decide +kernel
theorem dX1_lowSlot_9 : decode cX1_lowSlot 9 = .ok (.iconst 0, 1) := by decide +kernel
theorem dX1_lowSlot_10 : decode cX1_lowSlot 10 = .ok (.goto 12, 3) := by decide +kernel
theorem dX1_lowSlot_13 : decode cX1_lowSlot 13 = .ok (.bipush 12, 2) := by decide +kernel
theorem dX1_lowSlot_15 : decode cX1_lowSlot 15 = .ok (.aload_n 0, 1) := by decide +kernel
theorem dX1_lowSlot_16 : decode cX1_lowSlot 16 = .ok (.getfield 15, 3) := by decide +kernel
theorem dX1_lowSlot_19 : decode cX1_lowSlot 19 = .ok (.iload_n 1, 1) := by decide +kernel
theorem dX1_lowSlot_20 : decode cX1_lowSlot 20 = .ok (.iaload, 1) := by decide +kernel
theorem dX1_lowSlot_21 : decode cX1_lowSlot 21 = .ok (.isub, 1) := by decide +kernel
theorem dX1_lowSlot_22 : decode cX1_lowSlot 22 = .ok (.ireturn, 1) := by decide +kernel
theorem dX1_looksTheSameFromBehind_0 : decode cX1_looksTheSameFromBehind 0 = .ok (.iconst 0, 1) := by decide +kernel
theorem dX1_looksTheSameFromBehind_1 : decode cX1_looksTheSameFromBehind 1 = .ok (.istore_n 1, 1) := by decide +kernel
theorem dX1_looksTheSameFromBehind_2 : decode cX1_looksTheSameFromBehind 2 = .ok (.iload_n 1, 1) := by decide +kernel
theorem dX1_looksTheSameFromBehind_3 : decode cX1_looksTheSameFromBehind 3 = .ok (.aload_n 0, 1) := by decide +kernel
theorem dX1_looksTheSameFromBehind_4 : decode cX1_looksTheSameFromBehind 4 = .ok (.getfield 36, 3) := by decide +kernel
theorem dX1_looksTheSameFromBehind_7 : decode cX1_looksTheSameFromBehind 7 = .ok (.if_icmp .ge 84, 3) := by decide +kernel
theorem dX1_looksTheSameFromBehind_10 : decode cX1_looksTheSameFromBehind 10 = .ok (.aload_n 0, 1) := by decide +kernel
theorem dX1_looksTheSameFromBehind_11 : decode cX1_looksTheSameFromBehind 11 = .ok (.getfield 36, 3) := by decide +kernel
theorem dX1_looksTheSameFromBehind_14 : decode cX1_looksTheSameFromBehind 14 = .ok (.iconst 1, 1) := by decide +kernel
theorem dX1_looksTheSameFromBehind_15 : decode cX1_looksTheSameFromBehind 15 = .ok (.isub, 1) := by decide +kernel
theorem dX1_looksTheSameFromBehind_16 : decode cX1_looksTheSameFromBehind 16 = .ok (.iload_n 1, 1) := by decide +kernel
theorem dX1_looksTheSameFromBehind_17 : decode cX1_looksTheSameFromBehind 17 = .ok (.isub, 1) := by decide +kernel
theorem dX1_looksTheSameFromBehind_18 : decode cX1_looksTheSameFromBehind 18 = .ok (.istore_n 2, 1) := by decide +kernel
theorem dX1_looksTheSameFromBehind_19 : decode cX1_looksTheSameFromBehind 19 = .ok (.aload_n 0, 1) := by decide +kernel
theorem dX1_looksTheSameFromBehind_20 : decode cX1_looksTheSameFromBehind 20 = .ok (.getfield 15, 3) := by decide +kernel
theorem dX1_looksTheSameFromBehind_23 : decode cX1_looksTheSameFromBehind 23 = .ok (.iload_n 1, 1) := by decide +kernel
theorem dX1_looksTheSameFromBehind_24 : decode cX1_looksTheSameFromBehind 24 = .ok (.iaload, 1) := by decide +kernel
theorem dX1_looksTheSameFromBehind_25 : decode cX1_looksTheSameFromBehind 25 = .ok (.aload_n 0, 1) := by decide +kernel
theorem dX1_looksTheSameFromBehind_26 : decode cX1_looksTheSameFromBehind 26 = .ok (.getfield 15, 3) := by decide +kernel
theorem dX1_looksTheSameFromBehind_29 : decode cX1_looksTheSameFromBehind 29 = .ok (.iload_n 2, 1) := by decide +kernel
theorem dX1_looksTheSameFromBehind_30 : decode cX1_looksTheSameFromBehind 30 = .ok (.iaload, 1) := by decide +kernel
theorem dX1_looksTheSameFromBehind_31 : decode cX1_looksTheSameFromBehind 31 = .ok (.if_icmp .ne 52, 3) := by decide +kernel
theorem dX1_looksTheSameFromBehind_34 : decode cX1_looksTheSameFromBehind 34 = .ok (.aload_n 0, 1) := by decide +kernel
theorem dX1_looksTheSameFromBehind_35 : decode cX1_looksTheSameFromBehind 35 = .ok (.getfield 19, 3) := by decide +kernel
theorem dX1_looksTheSameFromBehind_38 : decode cX1_looksTheSameFromBehind 38 = .ok (.iload_n 1, 1) := by decide +kernel
theorem dX1_looksTheSameFromBehind_39 : decode cX1_looksTheSameFromBehind 39 = .ok (.iaload, 1) := by decide +kernel
theorem dX1_looksTheSameFromBehind_40 : decode cX1_looksTheSameFromBehind 40 = .ok (.aload_n 0, 1) := by decide +kernel
theorem dX1_looksTheSameFromBehind_41 : decode cX1_looksTheSameFromBehind 41 = .ok (.getfield 19, 3) := by decide +kernel
theorem dX1_looksTheSameFromBehind_44 : decode cX1_looksTheSameFromBehind 44 = .ok (.iload_n 2, 1) := by decide +kernel
theorem dX1_looksTheSameFromBehind_45 : decode cX1_looksTheSameFromBehind 45 = .ok (.iaload, 1) := by decide +kernel
theorem dX1_looksTheSameFromBehind_46 : decode cX1_looksTheSameFromBehind 46 = .ok (.if_icmp .ne 37, 3) := by decide +kernel
theorem dX1_looksTheSameFromBehind_49 : decode cX1_looksTheSameFromBehind 49 = .ok (.aload_n 0, 1) := by decide +kernel
theorem dX1_looksTheSameFromBehind_50 : decode cX1_looksTheSameFromBehind 50 = .ok (.getfield 22, 3) := by decide +kernel
theorem dX1_looksTheSameFromBehind_53 : decode cX1_looksTheSameFromBehind 53 = .ok (.iload_n 1, 1) := by decide +kernel
theorem dX1_looksTheSameFromBehind_54 : decode cX1_looksTheSameFromBehind 54 = .ok (.iaload, 1) := by decide +kernel
theorem dX1_looksTheSameFromBehind_55 : decode cX1_looksTheSameFromBehind 55 = .ok (.aload_n 0, 1) := by decide +kernel
theorem dX1_looksTheSameFromBehind_56 : decode cX1_looksTheSameFromBehind 56 = .ok (.getfield 22, 3) := by decide +kernel
theorem dX1_looksTheSameFromBehind_59 : decode cX1_looksTheSameFromBehind 59 = .ok (.iload_n 2, 1) := by decide +kernel
theorem dX1_looksTheSameFromBehind_60 : decode cX1_looksTheSameFromBehind 60 = .ok (.iaload, 1) := by decide +kernel
theorem dX1_looksTheSameFromBehind_61 : decode cX1_looksTheSameFromBehind 61 = .ok (.iadd, 1) := by decide +kernel
theorem dX1_looksTheSameFromBehind_62 : decode cX1_looksTheSameFromBehind 62 = .ok (.aload_n 0, 1) := by decide +kernel
theorem dX1_looksTheSameFromBehind_63 : decode cX1_looksTheSameFromBehind 63 = .ok (.getfield 22, 3) := by decide +kernel
theorem dX1_looksTheSameFromBehind_66 : decode cX1_looksTheSameFromBehind 66 = .ok (.iconst 0, 1) := by decide +kernel
theorem dX1_looksTheSameFromBehind_67 : decode cX1_looksTheSameFromBehind 67 = .ok (.iaload, 1) := by decide +kernel
theorem dX1_looksTheSameFromBehind_68 : decode cX1_looksTheSameFromBehind 68 = .ok (.aload_n 0, 1) := by decide +kernel
theorem dX1_looksTheSameFromBehind_69 : decode cX1_looksTheSameFromBehind 69 = .ok (.getfield 22, 3) := by decide +kernel
theorem dX1_looksTheSameFromBehind_72 : decode cX1_looksTheSameFromBehind 72 = .ok (.aload_n 0, 1) := by decide +kernel
theorem dX1_looksTheSameFromBehind_73 : decode cX1_looksTheSameFromBehind 73 = .ok (.getfield 36, 3) := by decide +kernel
theorem dX1_looksTheSameFromBehind_76 : decode cX1_looksTheSameFromBehind 76 = .ok (.iconst 1, 1) := by decide +kernel
theorem dX1_looksTheSameFromBehind_77 : decode cX1_looksTheSameFromBehind 77 = .ok (.isub, 1) := by decide +kernel
theorem dX1_looksTheSameFromBehind_78 : decode cX1_looksTheSameFromBehind 78 = .ok (.iaload, 1) := by decide +kernel
theorem dX1_looksTheSameFromBehind_79 : decode cX1_looksTheSameFromBehind 79 = .ok (.iadd, 1) := by decide +kernel
theorem dX1_looksTheSameFromBehind_80 : decode cX1_looksTheSameFromBehind 80 = .ok (.if_icmp .eq 5, 3) := by decide +kernel
theorem dX1_looksTheSameFromBehind_83 : decode cX1_looksTheSameFromBehind 83 = .ok (.iconst 0, 1) := by decide +kernel
theorem dX1_looksTheSameFromBehind_84 : decode cX1_looksTheSameFromBehind 84 = .ok (.ireturn, 1) := by decide +kernel
theorem dX1_looksTheSameFromBehind_85 : decode cX1_looksTheSameFromBehind 85 = .ok (.iinc 1 1, 3) := by decide +kernel
theorem dX1_looksTheSameFromBehind_88 : decode cX1_looksTheSameFromBehind 88 = .ok (.goto (-86), 3) := by decide +kernel
theorem dX1_looksTheSameFromBehind_91 : decode cX1_looksTheSameFromBehind 91 = .ok (.iconst 1, 1) := by decide +kernel
theorem dX1_looksTheSameFromBehind_92 : decode cX1_looksTheSameFromBehind 92 = .ok (.ireturn, 1) := by decide +kernel
theorem dX1_takeOver_0 : decode cX1_takeOver 0 = .ok (.aload_n 0, 1) := by decide +kernel
theorem dX1_takeOver_1 : decode cX1_takeOver 1 = .ok (.aload_n 1, 1) := by decide +kernel
theorem dX1_takeOver_2 : decode cX1_takeOver 2 = .ok (.getfield 36, 3) := by decide +kernel
theorem dX1_takeOver_5 : decode cX1_takeOver 5 = .ok (.putfield 36, 3) := by decide +kernel
theorem dX1_takeOver_8 : decode cX1_takeOver 8 = .ok (.aload_n 0, 1) := by decide +kernel
theorem dX1_takeOver_9 : decode cX1_takeOver 9 = .ok (.aload_n 1, 1) := by decide +kernel
theorem dX1_takeOver_10 : decode cX1_takeOver 10 = .ok (.getfield 9, 3) := by decide +kernel
theorem dX1_takeOver_13 : decode cX1_takeOver 13 = .ok (.putfield 9, 3) := by decide +kernel
theorem dX1_takeOver_16 : decode cX1_takeOver 16 = .ok (.aload_n 1, 1) := by decide +kernel
theorem dX1_takeOver_17 : decode cX1_takeOver 17 = .ok (.getfield 15, 3) := by decide +kernel
theorem dX1_takeOver_20 : decode cX1_takeOver 20 = .ok (.iconst 0, 1) := by decide +kernel
theorem dX1_takeOver_21 : decode cX1_takeOver 21 = .ok (.aload_n 0, 1) := by decide +kernel
theorem dX1_takeOver_22 : decode cX1_takeOver 22 = .ok (.getfield 15, 3) := by decide +kernel
theorem dX1_takeOver_25 : decode cX1_takeOver 25 = .ok (.iconst 0, 1) := by decide +kernel
theorem dX1_takeOver_26 : decode cX1_takeOver 26 = .ok (.bipush 8, 2) := by decide +kernel
theorem dX1_takeOver_28 : decode cX1_takeOver 28 = .ok (.invokestatic 52, 3) := by decide +kernel
theorem dX1_takeOver_31 : decode cX1_takeOver 31 = .ok (.aload_n 1, 1) := by decide +kernel
theorem dX1_takeOver_32 : decode cX1_takeOver 32 = .ok (.getfield 19, 3) := by decide +kernel
theorem dX1_takeOver_35 : decode cX1_takeOver 35 = .ok (.iconst 0, 1) := by decide +kernel
theorem dX1_takeOver_36 : decode cX1_takeOver 36 = .ok (.aload_n 0, 1) := by decide +kernel
theorem dX1_takeOver_37 : decode cX1_takeOver 37 = .ok (.getfield 19, 3) := by decide +kernel
theorem dX1_takeOver_40 : decode cX1_takeOver 40 = .ok (.iconst 0, 1) := by decide +kernel
theorem dX1_takeOver_41 : decode cX1_takeOver 41 = .ok (.bipush 8, 2) := by decide +kernel
theorem dX1_takeOver_43 : decode cX1_takeOver 43 = .ok (.invokestatic 52, 3) := by decide +kernel
theorem dX1_takeOver_46 : decode cX1_takeOver 46 = .ok (.aload_n 1, 1) := by decide +kernel
theorem dX1_takeOver_47 : decode cX1_takeOver 47 = .ok (.getfield 22, 3) := by decide +kernel
theorem dX1_takeOver_50 : decode cX1_takeOver 50 = .ok (.iconst 0, 1) := by decide +kernel
theorem dX1_takeOver_51 : decode cX1_takeOver 51 = .ok (.aload_n 0, 1) := by decide +kernel
theorem dX1_takeOver_52 : decode cX1_takeOver 52 = .ok (.getfield 22, 3) := by decide +kernel
theorem dX1_takeOver_55 : decode cX1_takeOver 55 = .ok (.iconst 0, 1) := by decide +kernel
theorem dX1_takeOver_56 : decode cX1_takeOver 56 = .ok (.bipush 8, 2) := by decide +kernel
theorem dX1_takeOver_58 : decode cX1_takeOver 58 = .ok (.invokestatic 52, 3) := by decide +kernel
theorem dX1_takeOver_61 : decode cX1_takeOver 61 = .ok (.aload_n 0, 1) := by decide +kernel
theorem dX1_takeOver_62 : decode cX1_takeOver 62 = .ok (.getfield 28, 3) := by decide +kernel
theorem dX1_takeOver_65 : decode cX1_takeOver 65 = .ok (.aload_n 1, 1) := by decide +kernel
theorem dX1_takeOver_66 : decode cX1_takeOver 66 = .ok (.getfield 28, 3) := by decide +kernel
theorem dX1_takeOver_69 : decode cX1_takeOver 69 = .ok (.invokevirtual 58, 3) := by decide +kernel
theorem dX1_takeOver_72 : decode cX1_takeOver 72 = .ok (.aload_n 0, 1) := by decide +kernel
theorem dX1_takeOver_73 : decode cX1_takeOver 73 = .ok (.aload_n 1, 1) := by decide +kernel
theorem dX1_takeOver_74 : decode cX1_takeOver 74 = .ok (.getfield 42, 3) := by decide +kernel
theorem dX1_takeOver_77 : decode cX1_takeOver 77 = .ok (.putfield 42, 3) := by decide +kernel
theorem dX1_takeOver_80 : decode cX1_takeOver 80 = .ok (.aload_n 0, 1) := by decide +kernel
theorem dX1_takeOver_81 : decode cX1_takeOver 81 = .ok (.aload_n 1, 1) := by decide +kernel
theorem dX1_takeOver_82 : decode cX1_takeOver 82 = .ok (.getfield 49, 3) := by decide +kernel
theorem dX1_takeOver_85 : decode cX1_takeOver 85 = .ok (.putfield 49, 3) := by decide +kernel
theorem dX1_takeOver_88 : decode cX1_takeOver 88 = .ok (.return_, 1) := by decide +kernel
theorem dX2_init_0 : decode cX2_init 0 = .ok (.aload_n 0, 1) := by decide +kernel
theorem dX2_init_1 : decode cX2_init 1 = .ok (.invokespecial 3, 3) := by decide +kernel
theorem dX2_init_4 : decode cX2_init 4 = .ok (.return_, 1) := by decide +kernel
theorem dX2_clear_0 : decode cX2_clear 0 = .ok (.aload_n 0, 1) := by decide +kernel
theorem dX2_clear_1 : decode cX2_clear 1 = .ok (.iconst 0, 1) := by decide +kernel
theorem dX2_clear_2 : decode cX2_clear 2 = .ok (.putfield 9, 3) := by decide +kernel
theorem dX2_clear_5 : decode cX2_clear 5 = .ok (.aload_n 0, 1) := by decide +kernel
theorem dX2_clear_6 : decode cX2_clear 6 = .ok (.iconst 0, 1) := by decide +kernel
theorem dX2_clear_7 : decode cX2_clear 7 = .ok (.putfield 15, 3) := by decide +kernel
theorem dX2_clear_10 : decode cX2_clear 10 = .ok (.aload_n 0, 1) := by decide +kernel
theorem dX2_clear_11 : decode cX2_clear 11 = .ok (.iconst 0, 1) := by decide +kernel
theorem dX2_clear_12 : decode cX2_clear 12 = .ok (.putfield 18, 3) := by decide +kernel
theorem dX2_clear_15 : decode cX2_clear 15 = .ok (.aload_n 0, 1) := by decide +kernel
theorem dX2_clear_16 : decode cX2_clear 16 = .ok (.iconst 0, 1) := by decide +kernel
theorem dX2_clear_17 : decode cX2_clear 17 = .ok (.putfield 21, 3) := by decide +kernel
theorem dX2_clear_20 : decode cX2_clear 20 = .ok (.return_, 1) := by decide +kernel
theorem dX2_add_0 : decode cX2_add 0 = .ok (.iload_n 1, 1) := by decide +kernel
theorem dX2_add_1 : decode cX2_add 1 = .ok (.bipush 12, 2) := by decide +kernel
theorem dX2_add_3 : decode cX2_add 3 = .ok (.invokestatic 24, 3) := by decide +kernel
theorem dX2_add_6 : decode cX2_add 6 = .ok (.istore_n 3, 1) := by decide +kernel
theorem dX2_add_7 : decode cX2_add 7 = .ok (.iload_n 1, 1) := by decide +kernel
theorem dX2_add_8 : decode cX2_add 8 = .ok (.bipush 9, 2) := by decide +kernel
theorem dX2_add_10 : decode cX2_add 10 = .ok (.iadd, 1) := by decide +kernel
theorem dX2_add_11 : decode cX2_add 11 = .ok (.bipush 12, 2) := by decide +kernel
theorem dX2_add_13 : decode cX2_add 13 = .ok (.invokestatic 24, 3) := by decide +kernel
theorem dX2_add_16 : decode cX2_add 16 = .ok (.istore 4, 2) := by decide +kernel
theorem dX2_add_18 : decode cX2_add 18 = .ok (.aload_n 0, 1) := by decide +kernel
theorem dX2_add_19 : decode cX2_add 19 = .ok (.dup, 1) := by decide +kernel
theorem dX2_add_20 : decode cX2_add 20 = .ok (.getfield 9, 3) := by decide +kernel
theorem dX2_add_23 : decode cX2_add 23 = .ok (.iload_n 2, 1) := by decide +kernel
theorem dX2_add_24 : decode cX2_add 24 = .ok (.getstatic 30, 3) := by decide +kernel
theorem dX2_add_27 : decode cX2_add 27 = .ok (.iload_n 3, 1) := by decide +kernel
theorem dX2_add_28 : decode cX2_add 28 = .ok (.iaload, 1) := by decide +kernel
theorem dX2_add_29 : decode cX2_add 29 = .ok (.imul, 1) := by decide +kernel
theorem dX2_add_30 : decode cX2_add 30 = .ok (.iadd, 1) := by decide +kernel
theorem dX2_add_31 : decode cX2_add 31 = .ok (.putfield 9, 3) := by decide +kernel
theorem dX2_add_34 : decode cX2_add 34 = .ok (.aload_n 0, 1) := by decide +kernel
theorem dX2_add_35 : decode cX2_add 35 = .ok (.dup, 1) := by decide +kernel
theorem dX2_add_36 : decode cX2_add 36 = .ok (.getfield 15, 3) := by decide +kernel
theorem dX2_add_39 : decode cX2_add 39 = .ok (.iload_n 2, 1) := by decide +kernel
theorem dX2_add_40 : decode cX2_add 40 = .ok (.getstatic 34, 3) := by decide +kernel
theorem dX2_add_43 : decode cX2_add 43 = .ok (.iload_n 3, 1) := by decide +kernel
theorem dX2_add_44 : decode cX2_add 44 = .ok (.iaload, 1) := by decide +kernel
theorem dX2_add_45 : decode cX2_add 45 = .ok (.imul, 1) := by decide +kernel
theorem dX2_add_46 : decode cX2_add 46 = .ok (.iadd, 1) := by decide +kernel
theorem dX2_add_47 : decode cX2_add 47 = .ok (.putfield 15, 3) := by decide +kernel
theorem dX2_add_50 : decode cX2_add 50 = .ok (.aload_n 0, 1) := by decide +kernel
theorem dX2_add_51 : decode cX2_add 51 = .ok (.dup, 1) := by decide +kernel
theorem dX2_add_52 : decode cX2_add 52 = .ok (.getfield 18, 3) := by decide +kernel
theorem dX2_add_55 : decode cX2_add 55 = .ok (.iload_n 2, 1) := by decide +kernel
theorem dX2_add_56 : decode cX2_add 56 = .ok (.getstatic 30, 3) := by decide +kernel
theorem dX2_add_59 : decode cX2_add 59 = .ok (.iload 4, 2) := by decide +kernel
theorem dX2_add_61 : decode cX2_add 61 = .ok (.iaload, 1) := by decide +kernel
theorem dX2_add_62 : decode cX2_add 62 = .ok (.imul, 1) := by decide +kernel
theorem dX2_add_63 : decode cX2_add 63 = .ok (.iadd, 1) := by decide +kernel
theorem dX2_add_64 : decode cX2_add 64 = .ok (.putfield 18, 3) := by decide +kernel
theorem dX2_add_67 : decode cX2_add 67 = .ok (.aload_n 0, 1) := by decide +kernel
theorem dX2_add_68 : decode cX2_add 68 = .ok (.dup, 1) := by decide +kernel
theorem dX2_add_69 : decode cX2_add 69 = .ok (.getfield 21, 3) := by decide +kernel
theorem dX2_add_72 : decode cX2_add 72 = .ok (.iload_n 2, 1) := by decide +kernel
theorem dX2_add_73 : decode cX2_add 73 = .ok (.getstatic 34, 3) := by decide +kernel
theorem dX2_add_76 : decode cX2_add 76 = .ok (.iload 4, 2) := by decide +kernel
theorem dX2_add_78 : decode cX2_add 78 = .ok (.iaload, 1) := by decide +kernel
theorem dX2_add_79 : decode cX2_add 79 = .ok (.imul, 1) := by decide +kernel
theorem dX2_add_80 : decode cX2_add 80 = .ok (.iadd, 1) := by decide +kernel
theorem dX2_add_81 : decode cX2_add 81 = .ok (.putfield 21, 3) := by decide +kernel
theorem dX2_add_84 : decode cX2_add 84 = .ok (.return_, 1) := by decide +kernel
theorem dX2_isZero_0 : decode cX2_isZero 0 = .ok (.aload_n 0, 1) := by decide +kernel
theorem dX2_isZero_1 : decode cX2_isZero 1 = .ok (.getfield 9, 3) := by decide +kernel
theorem dX2_isZero_4 : decode cX2_isZero 4 = .ok (.ifCond .ne 28, 3) := by decide +kernel
theorem dX2_isZero_7 : decode cX2_isZero 7 = .ok (.aload_n 0, 1) := by decide +kernel
theorem dX2_isZero_8 : decode cX2_isZero 8 = .ok (.getfield 15, 3) := by decide +kernel
theorem dX2_isZero_11 : decode cX2_isZero 11 = .ok (.ifCond .ne 21, 3) := by decide +kernel
theorem dX2_isZero_14 : decode cX2_isZero 14 = .ok (.aload_n 0, 1) := by decide +kernel
theorem dX2_isZero_15 : decode cX2_isZero 15 = .ok (.getfield 18, 3) := by decide +kernel
theorem dX2_isZero_18 : decode cX2_isZero 18 = .ok (.ifCond .ne 14, 3) := by decide +kernel
theorem dX2_isZero_21 : decode cX2_isZero 21 = .ok (.aload_n 0, 1) := by decide +kernel
theorem dX2_isZero_22 : decode cX2_isZero 22 = .ok (.getfield 21, 3) := by decide +kernel
theorem dX2_isZero_25 : decode cX2_isZero 25 = .ok (.ifCond .ne 7, 3) := by decide +kernel
theorem dX2_isZero_28 : decode cX2_isZero 28 = .ok (.iconst 1, 1) := by decide +kernel
theorem dX2_isZero_29 : decode cX2_isZero 29 = .ok (.goto 4, 3) := by decide +kernel
theorem dX2_isZero_32 : decode cX2_isZero 32 = .ok (.iconst 0, 1) := by decide +kernel
theorem dX2_isZero_33 : decode cX2_isZero 33 = .ok (.ireturn, 1) := by decide +kernel
theorem dX2_part_0 : decode cX2_part 0 = .ok (.iload_n 1, 1) := by decide +kernel
theorem dX2_part_1 : decode cX2_part 1 = .ok (.ifCond .eq 19, 3) := by decide +kernel
theorem dX2_part_4 : decode cX2_part 4 = .ok (.iload_n 2, 1) := by decide +kernel
theorem dX2_part_5 : decode cX2_part 5 = .ok (.ifCond .eq 10, 3) := by decide +kernel
theorem dX2_part_8 : decode cX2_part 8 = .ok (.aload_n 0, 1) := by decide +kernel
theorem dX2_part_9 : decode cX2_part 9 = .ok (.getfield 21, 3) := by decide +kernel
theorem dX2_part_12 : decode cX2_part 12 = .ok (.goto 7, 3) := by decide +kernel
theorem dX2_part_15 : decode cX2_part 15 = .ok (.aload_n 0, 1) := by decide +kernel
theorem dX2_part_16 : decode cX2_part 16 = .ok (.getfield 18, 3) := by decide +kernel
theorem dX2_part_19 : decode cX2_part 19 = .ok (.ireturn, 1) := by decide +kernel
theorem dX2_part_20 : decode cX2_part 20 = .ok (.iload_n 2, 1) := by decide +kernel
theorem dX2_part_21 : decode cX2_part 21 = .ok (.ifCond .eq 10, 3) := by decide +kernel
theorem dX2_part_24 : decode cX2_part 24 = .ok (.aload_n 0, 1) := by decide +kernel
theorem dX2_part_25 : decode cX2_part 25 = .ok (.getfield 15, 3) := by decide +kernel
theorem dX2_part_28 : decode cX2_part 28 = .ok (.goto 7, 3) := by decide +kernel
theorem dX2_part_31 : decode cX2_part 31 = .ok (.aload_n 0, 1) := by decide +kernel
theorem dX2_part_32 : decode cX2_part 32 = .ok (.getfield 9, 3) := by decide +kernel
theorem dX2_part_35 : decode cX2_part 35 = .ok (.ireturn, 1) := by decide +kernel
theorem dX2_counter_0 : decode cX2_counter 0 = .ok (.aload_n 0, 1) := by decide +kernel
theorem dX2_counter_1 : decode cX2_counter 1 = .ok (.invokevirtual 37, 3) := by decide +kernel
theorem dX2_counter_4 : decode cX2_counter 4 = .ok (.ifCond .eq 5, 3) := by decide +kernel
theorem dX2_counter_7 : decode cX2_counter 7 = .ok (.iconst 0, 1) := by decide +kernel
theorem dX2_counter_8 : decode cX2_counter 8 = .ok (.ireturn, 1) := by decide +kernel
theorem dX2_counter_9 : decode cX2_counter 9 = .ok (.iconst 0, 1) := by decide +kernel
theorem dX2_counter_10 : decode cX2_counter 10 = .ok (.istore_n 2, 1) := by decide +kernel
theorem dX2_counter_11 : decode cX2_counter 11 = .ok (.iload_n 2, 1) := by decide +kernel
theorem dX2_counter_12 : decode cX2_counter 12 = .ok (.bipush 12, 2) := by decide +kernel
theorem dX2_counter_14 : decode cX2_counter 14 = .ok (.if_icmp .ge 28, 3) := by decide +kernel
theorem dX2_counter_17 : decode cX2_counter 17 = .ok (.aload_n 0, 1) := by decide +kernel
theorem dX2_counter_18 : decode cX2_counter 18 = .ok (.iload_n 2, 1) := by decide +kernel
theorem dX2_counter_19 : decode cX2_counter 19 = .ok (.iload_n 1, 1) := by decide +kernel
theorem dX2_counter_20 : decode cX2_counter 20 = .ok (.invokevirtual 41, 3) := by decide +kernel
theorem dX2_counter_23 : decode cX2_counter 23 = .ok (.istore_n 3, 1) := by decide +kernel
theorem dX2_counter_24 : decode cX2_counter 24 = .ok (.iload_n 3, 1) := by decide +kernel
theorem dX2_counter_25 : decode cX2_counter 25 = .ok (.ifCond .eq 11, 3) := by decide +kernel
theorem dX2_counter_28 : decode cX2_counter 28 = .ok (.sipush 1000, 3) := by decide +kernel
theorem dX2_counter_31 : decode cX2_counter 31 = .ok (.iload_n 2, 1) := by decide +kernel
theorem dX2_counter_32 : decode cX2_counter 32 = .ok (.imul, 1) := by decide +kernel
theorem dX2_counter_33 : decode cX2_counter 33 = .ok (.iload_n 3, 1) := by decide +kernel
theorem dX2_counter_34 : decode cX2_counter 34 = .ok (.iadd, 1) := by decide +kernel
theorem dX2_counter_35 : decode cX2_counter 35 = .ok (.ireturn, 1) := by decide +kernel
theorem dX2_counter_36 : decode cX2_counter 36 = .ok (.iinc 2 1, 3) := by decide +kernel
theorem dX2_counter_39 : decode cX2_counter 39 = .ok (.goto (-28), 3) := by decide +kernel
theorem dX2_counter_42 : decode cX2_counter 42 = .ok (.ldc 44, 2) := by decide +kernel
theorem dX2_counter_44 : decode cX2_counter 44 = .ok (.ireturn, 1) := by decide +kernel
theorem dX2_massAgainst_0 : decode cX2_massAgainst 0 = .ok (.iload_n 1, 1) := by decide +kernel
theorem dX2_massAgainst_1 : decode cX2_massAgainst 1 = .ok (.bipush 12, 2) := by decide +kernel
theorem dX2_massAgainst_3 : decode cX2_massAgainst 3 = .ok (.invokestatic 24, 3) := by decide +kernel
theorem dX2_massAgainst_6 : decode cX2_massAgainst 6 = .ok (.istore_n 3, 1) := by decide +kernel
theorem dX2_massAgainst_7 : decode cX2_massAgainst 7 = .ok (.iload_n 1, 1) := by decide +kernel
theorem dX2_massAgainst_8 : decode cX2_massAgainst 8 = .ok (.bipush 9, 2) := by decide +kernel
theorem dX2_massAgainst_10 : decode cX2_massAgainst 10 = .ok (.iadd, 1) := by decide +kernel
theorem dX2_massAgainst_11 : decode cX2_massAgainst 11 = .ok (.bipush 12, 2) := by decide +kernel
theorem dX2_massAgainst_13 : decode cX2_massAgainst 13 = .ok (.invokestatic 24, 3) := by decide +kernel
theorem dX2_massAgainst_16 : decode cX2_massAgainst 16 = .ok (.istore 4, 2) := by decide +kernel
theorem dX2_massAgainst_18 : decode cX2_massAgainst 18 = .ok (.getstatic 30, 3) := by decide +kernel
theorem dX2_massAgainst_21 : decode cX2_massAgainst 21 = .ok (.iload_n 3, 1) := by decide +kernel
theorem dX2_massAgainst_22 : decode cX2_massAgainst 22 = .ok (.iaload, 1) := by decide +kernel
theorem dX2_massAgainst_23 : decode cX2_massAgainst 23 = .ok (.ifCond .eq 21, 3) := by decide +kernel
theorem dX2_massAgainst_26 : decode cX2_massAgainst 26 = .ok (.aload_n 0, 1) := by decide +kernel
theorem dX2_massAgainst_27 : decode cX2_massAgainst 27 = .ok (.getfield 9, 3) := by decide +kernel
theorem dX2_massAgainst_30 : decode cX2_massAgainst 30 = .ok (.ineg, 1) := by decide +kernel
theorem dX2_massAgainst_31 : decode cX2_massAgainst 31 = .ok (.iload_n 2, 1) := by decide +kernel
theorem dX2_massAgainst_32 : decode cX2_massAgainst 32 = .ok (.getstatic 30, 3) := by decide +kernel
theorem dX2_massAgainst_35 : decode cX2_massAgainst 35 = .ok (.iload_n 3, 1) := by decide +kernel
theorem dX2_massAgainst_36 : decode cX2_massAgainst 36 = .ok (.iaload, 1) := by decide +kernel
theorem dX2_massAgainst_37 : decode cX2_massAgainst 37 = .ok (.imul, 1) := by decide +kernel
theorem dX2_massAgainst_38 : decode cX2_massAgainst 38 = .ok (.invokestatic 45, 3) := by decide +kernel
theorem dX2_massAgainst_41 : decode cX2_massAgainst 41 = .ok (.goto 19, 3) := by decide +kernel
theorem dX2_massAgainst_44 : decode cX2_massAgainst 44 = .ok (.aload_n 0, 1) := by decide +kernel
theorem dX2_massAgainst_45 : decode cX2_massAgainst 45 = .ok (.getfield 18, 3) := by decide +kernel
theorem dX2_massAgainst_48 : decode cX2_massAgainst 48 = .ok (.ineg, 1) := by decide +kernel
theorem dX2_massAgainst_49 : decode cX2_massAgainst 49 = .ok (.iload_n 2, 1) := by decide +kernel
theorem dX2_massAgainst_50 : decode cX2_massAgainst 50 = .ok (.getstatic 30, 3) := by decide +kernel
theorem dX2_massAgainst_53 : decode cX2_massAgainst 53 = .ok (.iload 4, 2) := by decide +kernel
theorem dX2_massAgainst_55 : decode cX2_massAgainst 55 = .ok (.iaload, 1) := by decide +kernel
theorem dX2_massAgainst_56 : decode cX2_massAgainst 56 = .ok (.imul, 1) := by decide +kernel
theorem dX2_massAgainst_57 : decode cX2_massAgainst 57 = .ok (.invokestatic 45, 3) := by decide +kernel
theorem dX2_massAgainst_60 : decode cX2_massAgainst 60 = .ok (.istore 5, 2) := by decide +kernel
theorem dX2_massAgainst_62 : decode cX2_massAgainst 62 = .ok (.iload 5, 2) := by decide +kernel
theorem dX2_massAgainst_64 : decode cX2_massAgainst 64 = .ok (.iload_n 2, 1) := by decide +kernel
theorem dX2_massAgainst_65 : decode cX2_massAgainst 65 = .ok (.imul, 1) := by decide +kernel
theorem dX2_massAgainst_66 : decode cX2_massAgainst 66 = .ok (.istore 6, 2) := by decide +kernel
theorem dX2_massAgainst_68 : decode cX2_massAgainst 68 = .ok (.aload_n 0, 1) := by decide +kernel
theorem dX2_massAgainst_69 : decode cX2_massAgainst 69 = .ok (.getfield 9, 3) := by decide +kernel
theorem dX2_massAgainst_72 : decode cX2_massAgainst 72 = .ok (.iload 6, 2) := by decide +kernel
theorem dX2_massAgainst_74 : decode cX2_massAgainst 74 = .ok (.getstatic 30, 3) := by decide +kernel
theorem dX2_massAgainst_77 : decode cX2_massAgainst 77 = .ok (.iload_n 3, 1) := by decide +kernel
theorem dX2_massAgainst_78 : decode cX2_massAgainst 78 = .ok (.iaload, 1) := by decide +kernel
theorem dX2_massAgainst_79 : decode cX2_massAgainst 79 = .ok (.imul, 1) := by decide +kernel
theorem dX2_massAgainst_80 : decode cX2_massAgainst 80 = .ok (.iadd, 1) := by decide +kernel
theorem dX2_massAgainst_81 : decode cX2_massAgainst 81 = .ok (.ifCond .ne 57, 3) := by decide +kernel
theorem dX2_massAgainst_84 : decode cX2_massAgainst 84 = .ok (.aload_n 0, 1) := by decide +kernel
theorem dX2_massAgainst_85 : decode cX2_massAgainst 85 = .ok (.getfield 15, 3) := by decide +kernel
theorem dX2_massAgainst_88 : decode cX2_massAgainst 88 = .ok (.iload 6, 2) := by decide +kernel
theorem dX2_massAgainst_90 : decode cX2_massAgainst 90 = .ok (.getstatic 34, 3) := by decide +kernel
theorem dX2_massAgainst_93 : decode cX2_massAgainst 93 = .ok (.iload_n 3, 1) := by decide +kernel
theorem dX2_massAgainst_94 : decode cX2_massAgainst 94 = .ok (.iaload, 1) := by decide +kernel
theorem dX2_massAgainst_95 : decode cX2_massAgainst 95 = .ok (.imul, 1) := by decide +kernel
theorem dX2_massAgainst_96 : decode cX2_massAgainst 96 = .ok (.iadd, 1) := by decide +kernel
theorem dX2_massAgainst_97 : decode cX2_massAgainst 97 = .ok (.ifCond .ne 41, 3) := by decide +kernel
theorem dX2_massAgainst_100 : decode cX2_massAgainst 100 = .ok (.aload_n 0, 1) := by decide +kernel
theorem dX2_massAgainst_101 : decode cX2_massAgainst 101 = .ok (.getfield 18, 3) := by decide +kernel
theorem dX2_massAgainst_104 : decode cX2_massAgainst 104 = .ok (.iload 6, 2) := by decide +kernel
theorem dX2_massAgainst_106 : decode cX2_massAgainst 106 = .ok (.getstatic 30, 3) := by decide +kernel
theorem dX2_massAgainst_109 : decode cX2_massAgainst 109 = .ok (.iload 4, 2) := by decide +kernel
theorem dX2_massAgainst_111 : decode cX2_massAgainst 111 = .ok (.iaload, 1) := by decide +kernel
theorem dX2_massAgainst_112 : decode cX2_massAgainst 112 = .ok (.imul, 1) := by decide +kernel
theorem dX2_massAgainst_113 : decode cX2_massAgainst 113 = .ok (.iadd, 1) := by decide +kernel
theorem dX2_massAgainst_114 : decode cX2_massAgainst 114 = .ok (.ifCond .ne 24, 3) := by decide +kernel
theorem dX2_massAgainst_117 : decode cX2_massAgainst 117 = .ok (.aload_n 0, 1) := by decide +kernel
theorem dX2_massAgainst_118 : decode cX2_massAgainst 118 = .ok (.getfield 21, 3) := by decide +kernel
theorem dX2_massAgainst_121 : decode cX2_massAgainst 121 = .ok (.iload 6, 2) := by decide +kernel
theorem dX2_massAgainst_123 : decode cX2_massAgainst 123 = .ok (.getstatic 34, 3) := by decide +kernel
theorem dX2_massAgainst_126 : decode cX2_massAgainst 126 = .ok (.iload 4, 2) := by decide +kernel
theorem dX2_massAgainst_128 : decode cX2_massAgainst 128 = .ok (.iaload, 1) := by decide +kernel
theorem dX2_massAgainst_129 : decode cX2_massAgainst 129 = .ok (.imul, 1) := by decide +kernel
theorem dX2_massAgainst_130 : decode cX2_massAgainst 130 = .ok (.iadd, 1) := by decide +kernel
theorem dX2_massAgainst_131 : decode cX2_massAgainst 131 = .ok (.ifCond .ne 7, 3) := by decide +kernel
theorem dX2_massAgainst_134 : decode cX2_massAgainst 134 = .ok (.iconst 1, 1) := by decide +kernel
theorem dX2_massAgainst_135 : decode cX2_massAgainst 135 = .ok (.goto 4, 3) := by decide +kernel
theorem dX2_massAgainst_138 : decode cX2_massAgainst 138 = .ok (.iconst 0, 1) := by decide +kernel
theorem dX2_massAgainst_139 : decode cX2_massAgainst 139 = .ok (.istore 7, 2) := by decide +kernel
theorem dX2_massAgainst_141 : decode cX2_massAgainst 141 = .ok (.iload 7, 2) := by decide +kernel
theorem dX2_massAgainst_143 : decode cX2_massAgainst 143 = .ok (.ifCond .eq 22, 3) := by decide +kernel
theorem dX2_massAgainst_146 : decode cX2_massAgainst 146 = .ok (.iload 5, 2) := by decide +kernel
theorem dX2_massAgainst_148 : decode cX2_massAgainst 148 = .ok (.iconst 1, 1) := by decide +kernel
theorem dX2_massAgainst_149 : decode cX2_massAgainst 149 = .ok (.if_icmp .lt 16, 3) := by decide +kernel
theorem dX2_massAgainst_152 : decode cX2_massAgainst 152 = .ok (.iload 5, 2) := by decide +kernel
theorem dX2_massAgainst_154 : decode cX2_massAgainst 154 = .ok (.sipush 999, 3) := by decide +kernel
theorem dX2_massAgainst_157 : decode cX2_massAgainst 157 = .ok (.if_icmp .gt 8, 3) := by decide +kernel
theorem dX2_massAgainst_160 : decode cX2_massAgainst 160 = .ok (.iload 5, 2) := by decide +kernel
theorem dX2_massAgainst_162 : decode cX2_massAgainst 162 = .ok (.goto 4, 3) := by decide +kernel
theorem dX2_massAgainst_165 : decode cX2_massAgainst 165 = .ok (.iconst 0, 1) := by decide +kernel
theorem dX2_massAgainst_166 : decode cX2_massAgainst 166 = .ok (.ireturn, 1) := by decide +kernel
theorem dX2_quotient_0 : decode cX2_quotient 0 = .ok (.iload_n 1, 1) := by decide +kernel
theorem dX2_quotient_1 : decode cX2_quotient 1 = .ok (.ifCond .ne 7, 3) := by decide +kernel
theorem dX2_quotient_4 : decode cX2_quotient 4 = .ok (.iconst 0, 1) := by decide +kernel
theorem dX2_quotient_5 : decode cX2_quotient 5 = .ok (.goto 6, 3) := by decide +kernel
theorem dX2_quotient_8 : decode cX2_quotient 8 = .ok (.iload_n 0, 1) := by decide +kernel
theorem dX2_quotient_9 : decode cX2_quotient 9 = .ok (.iload_n 1, 1) := by decide +kernel
theorem dX2_quotient_10 : decode cX2_quotient 10 = .ok (.idiv, 1) := by decide +kernel
theorem dX2_quotient_11 : decode cX2_quotient 11 = .ok (.ireturn, 1) := by decide +kernel
theorem dX3_init_0 : decode cX3_init 0 = .ok (.aload_n 0, 1) := by decide +kernel
theorem dX3_init_1 : decode cX3_init 1 = .ok (.invokespecial 3, 3) := by decide +kernel
theorem dX3_init_4 : decode cX3_init 4 = .ok (.aload_n 0, 1) := by decide +kernel
theorem dX3_init_5 : decode cX3_init 5 = .ok (.bipush 40, 2) := by decide +kernel
theorem dX3_init_7 : decode cX3_init 7 = .ok (.newarray .byte, 2) := by decide +kernel
theorem dX3_init_9 : decode cX3_init 9 = .ok (.putfield 9, 3) := by decide +kernel
theorem dX3_init_12 : decode cX3_init 12 = .ok (.return_, 1) := by decide +kernel
theorem dX3_put_0 : decode cX3_put 0 = .ok (.aload_n 0, 1) := by decide +kernel
theorem dX3_put_1 : decode cX3_put 1 = .ok (.getfield 15, 3) := by decide +kernel
theorem dX3_put_4 : decode cX3_put 4 = .ok (.bipush 40, 2) := by decide +kernel
theorem dX3_put_6 : decode cX3_put 6 = .ok (.if_icmp .lt 5, 3) := by decide +kernel
theorem dX3_put_9 : decode cX3_put 9 = .ok (.iconst 0, 1) := by decide +kernel
theorem dX3_put_10 : decode cX3_put 10 = .ok (.ireturn, 1) := by decide +kernel
theorem dX3_put_11 : decode cX3_put 11 = .ok (.aload_n 0, 1) := by decide +kernel
theorem dX3_put_12 : decode cX3_put 12 = .ok (.getfield 9, 3) := by decide +kernel
theorem dX3_put_15 : decode cX3_put 15 = .ok (.aload_n 0, 1) := by decide +kernel
theorem dX3_put_16 : decode cX3_put 16 = .ok (.getfield 15, 3) := by decide +kernel
theorem dX3_put_19 : decode cX3_put 19 = .ok (.iload_n 1, 1) := by decide +kernel
theorem dX3_put_20 : decode cX3_put 20 = .ok (.i2b, 1) := by decide +kernel
theorem dX3_put_21 : decode cX3_put 21 = .ok (.bastore, 1) := by decide +kernel
theorem dX3_put_22 : decode cX3_put 22 = .ok (.aload_n 0, 1) := by decide +kernel
theorem dX3_put_23 : decode cX3_put 23 = .ok (.dup, 1) := by decide +kernel
theorem dX3_put_24 : decode cX3_put 24 = .ok (.getfield 15, 3) := by decide +kernel
theorem dX3_put_27 : decode cX3_put 27 = .ok (.iconst 1, 1) := by decide +kernel
theorem dX3_put_28 : decode cX3_put 28 = .ok (.iadd, 1) := by decide +kernel
theorem dX3_put_29 : decode cX3_put 29 = .ok (.putfield 15, 3) := by decide +kernel
theorem dX3_put_32 : decode cX3_put 32 = .ok (.iconst 1, 1) := by decide +kernel
theorem dX3_put_33 : decode cX3_put 33 = .ok (.ireturn, 1) := by decide +kernel
theorem dX3_faultFor_0 : decode cX3_faultFor 0 = .ok (.iconst 2, 1) := by decide +kernel
theorem dX3_faultFor_1 : decode cX3_faultFor 1 = .ok (.iload_n 1, 1) := by decide +kernel
theorem dX3_faultFor_2 : decode cX3_faultFor 2 = .ok (.imul, 1) := by decide +kernel
theorem dX3_faultFor_3 : decode cX3_faultFor 3 = .ok (.iconst 1, 1) := by decide +kernel
theorem dX3_faultFor_4 : decode cX3_faultFor 4 = .ok (.isub, 1) := by decide +kernel
theorem dX3_faultFor_5 : decode cX3_faultFor 5 = .ok (.istore_n 2, 1) := by decide +kernel
theorem dX3_faultFor_6 : decode cX3_faultFor 6 = .ok (.iconst 0, 1) := by decide +kernel
theorem dX3_faultFor_7 : decode cX3_faultFor 7 = .ok (.istore_n 3, 1) := by decide +kernel
theorem dX3_faultFor_8 : decode cX3_faultFor 8 = .ok (.iconst 0, 1) := by decide +kernel
theorem dX3_faultFor_9 : decode cX3_faultFor 9 = .ok (.istore 4, 2) := by decide +kernel
theorem dX3_faultFor_11 : decode cX3_faultFor 11 = .ok (.iload 4, 2) := by decide +kernel
theorem dX3_faultFor_13 : decode cX3_faultFor 13 = .ok (.aload_n 0, 1) := by decide +kernel
theorem dX3_faultFor_14 : decode cX3_faultFor 14 = .ok (.getfield 15, 3) := by decide +kernel
theorem dX3_faultFor_17 : decode cX3_faultFor 17 = .ok (.if_icmp .ge 84, 3) := by decide +kernel
theorem dX3_faultFor_20 : decode cX3_faultFor 20 = .ok (.iload 4, 2) := by decide +kernel
theorem dX3_faultFor_22 : decode cX3_faultFor 22 = .ok (.iload_n 2, 1) := by decide +kernel
theorem dX3_faultFor_23 : decode cX3_faultFor 23 = .ok (.if_icmp .lt 6, 3) := by decide +kernel
theorem dX3_faultFor_26 : decode cX3_faultFor 26 = .ok (.iload 4, 2) := by decide +kernel
theorem dX3_faultFor_28 : decode cX3_faultFor 28 = .ok (.ireturn, 1) := by decide +kernel
theorem dX3_faultFor_29 : decode cX3_faultFor 29 = .ok (.iload 4, 2) := by decide +kernel
theorem dX3_faultFor_31 : decode cX3_faultFor 31 = .ok (.iconst 2, 1) := by decide +kernel
theorem dX3_faultFor_32 : decode cX3_faultFor 32 = .ok (.irem, 1) := by decide +kernel
theorem dX3_faultFor_33 : decode cX3_faultFor 33 = .ok (.iconst 1, 1) := by decide +kernel
theorem dX3_faultFor_34 : decode cX3_faultFor 34 = .ok (.if_icmp .ne 18, 3) := by decide +kernel
theorem dX3_faultFor_37 : decode cX3_faultFor 37 = .ok (.aload_n 0, 1) := by decide +kernel
theorem dX3_faultFor_38 : decode cX3_faultFor 38 = .ok (.getfield 9, 3) := by decide +kernel
theorem dX3_faultFor_41 : decode cX3_faultFor 41 = .ok (.iload 4, 2) := by decide +kernel
theorem dX3_faultFor_43 : decode cX3_faultFor 43 = .ok (.baload, 1) := by decide +kernel
theorem dX3_faultFor_44 : decode cX3_faultFor 44 = .ok (.bipush 45, 2) := by decide +kernel
theorem dX3_faultFor_46 : decode cX3_faultFor 46 = .ok (.if_icmp .eq 49, 3) := by decide +kernel
theorem dX3_faultFor_49 : decode cX3_faultFor 49 = .ok (.iload 4, 2) := by decide +kernel
theorem dX3_faultFor_51 : decode cX3_faultFor 51 = .ok (.ireturn, 1) := by decide +kernel
theorem dX3_faultFor_52 : decode cX3_faultFor 52 = .ok (.aload_n 0, 1) := by decide +kernel
theorem dX3_faultFor_53 : decode cX3_faultFor 53 = .ok (.getfield 9, 3) := by decide +kernel
theorem dX3_faultFor_56 : decode cX3_faultFor 56 = .ok (.iload 4, 2) := by decide +kernel
theorem dX3_faultFor_58 : decode cX3_faultFor 58 = .ok (.baload, 1) := by decide +kernel
theorem dX3_faultFor_59 : decode cX3_faultFor 59 = .ok (.bipush 49, 2) := by decide +kernel
theorem dX3_faultFor_61 : decode cX3_faultFor 61 = .ok (.isub, 1) := by decide +kernel
theorem dX3_faultFor_62 : decode cX3_faultFor 62 = .ok (.istore 5, 2) := by decide +kernel
theorem dX3_faultFor_64 : decode cX3_faultFor 64 = .ok (.iload 5, 2) := by decide +kernel
theorem dX3_faultFor_66 : decode cX3_faultFor 66 = .ok (.ifCond .lt 19, 3) := by decide +kernel
theorem dX3_faultFor_69 : decode cX3_faultFor 69 = .ok (.iload 5, 2) := by decide +kernel
theorem dX3_faultFor_71 : decode cX3_faultFor 71 = .ok (.iload_n 1, 1) := by decide +kernel
theorem dX3_faultFor_72 : decode cX3_faultFor 72 = .ok (.if_icmp .ge 13, 3) := by decide +kernel
theorem dX3_faultFor_75 : decode cX3_faultFor 75 = .ok (.iload_n 3, 1) := by decide +kernel
theorem dX3_faultFor_76 : decode cX3_faultFor 76 = .ok (.iload 5, 2) := by decide +kernel
theorem dX3_faultFor_78 : decode cX3_faultFor 78 = .ok (.ishr, 1) := by decide +kernel
theorem dX3_faultFor_79 : decode cX3_faultFor 79 = .ok (.iconst 1, 1) := by decide +kernel
theorem dX3_faultFor_80 : decode cX3_faultFor 80 = .ok (.iand, 1) := by decide +kernel
theorem dX3_faultFor_81 : decode cX3_faultFor 81 = .ok (.iconst 1, 1) := by decide +kernel
theorem dX3_faultFor_82 : decode cX3_faultFor 82 = .ok (.if_icmp .ne 6, 3) := by decide +kernel
theorem dX3_faultFor_85 : decode cX3_faultFor 85 = .ok (.iload 4, 2) := by decide +kernel
theorem dX3_faultFor_87 : decode cX3_faultFor 87 = .ok (.ireturn, 1) := by decide +kernel
theorem dX3_faultFor_88 : decode cX3_faultFor 88 = .ok (.iload_n 3, 1) := by decide +kernel
theorem dX3_faultFor_89 : decode cX3_faultFor 89 = .ok (.iconst 1, 1) := by decide +kernel
theorem dX3_faultFor_90 : decode cX3_faultFor 90 = .ok (.iload 5, 2) := by decide +kernel
theorem dX3_faultFor_92 : decode cX3_faultFor 92 = .ok (.ishl, 1) := by decide +kernel
theorem dX3_faultFor_93 : decode cX3_faultFor 93 = .ok (.ior, 1) := by decide +kernel
theorem dX3_faultFor_94 : decode cX3_faultFor 94 = .ok (.istore_n 3, 1) := by decide +kernel
theorem dX3_faultFor_95 : decode cX3_faultFor 95 = .ok (.iinc 4 1, 3) := by decide +kernel
theorem dX3_faultFor_98 : decode cX3_faultFor 98 = .ok (.goto (-87), 3) := by decide +kernel
theorem dX3_faultFor_101 : decode cX3_faultFor 101 = .ok (.aload_n 0, 1) := by decide +kernel
theorem dX3_faultFor_102 : decode cX3_faultFor 102 = .ok (.getfield 15, 3) := by decide +kernel
theorem dX3_faultFor_105 : decode cX3_faultFor 105 = .ok (.iload_n 2, 1) := by decide +kernel
theorem dX3_faultFor_106 : decode cX3_faultFor 106 = .ok (.if_icmp .ge 10, 3) := by decide +kernel
theorem dX3_faultFor_109 : decode cX3_faultFor 109 = .ok (.aload_n 0, 1) := by decide +kernel
theorem dX3_faultFor_110 : decode cX3_faultFor 110 = .ok (.getfield 15, 3) := by decide +kernel
theorem dX3_faultFor_113 : decode cX3_faultFor 113 = .ok (.goto 5, 3) := by decide +kernel
theorem dX3_faultFor_116 : decode cX3_faultFor 116 = .ok (.ldc 19, 2) := by decide +kernel
theorem dX3_faultFor_118 : decode cX3_faultFor 118 = .ok (.ireturn, 1) := by decide +kernel
theorem dX3_cylinderAt_0 : decode cX3_cylinderAt 0 = .ok (.aload_n 0, 1) := by decide +kernel
theorem dX3_cylinderAt_1 : decode cX3_cylinderAt 1 = .ok (.getfield 9, 3) := by decide +kernel
theorem dX3_cylinderAt_4 : decode cX3_cylinderAt 4 = .ok (.iconst 2, 1) := by decide +kernel
theorem dX3_cylinderAt_5 : decode cX3_cylinderAt 5 = .ok (.iload_n 1, 1) := by decide +kernel
theorem dX3_cylinderAt_6 : decode cX3_cylinderAt 6 = .ok (.imul, 1) := by decide +kernel
theorem dX3_cylinderAt_7 : decode cX3_cylinderAt 7 = .ok (.baload, 1) := by decide +kernel
theorem dX3_cylinderAt_8 : decode cX3_cylinderAt 8 = .ok (.bipush 49, 2) := by decide +kernel
theorem dX3_cylinderAt_10 : decode cX3_cylinderAt 10 = .ok (.isub, 1) := by decide +kernel
theorem dX3_cylinderAt_11 : decode cX3_cylinderAt 11 = .ok (.ireturn, 1) := by decide +kernel
theorem dX4_init_0 : decode cX4_init 0 = .ok (.aload_n 0, 1) := by decide +kernel
theorem dX4_init_1 : decode cX4_init 1 = .ok (.invokespecial 3, 3) := by decide +kernel
theorem dX4_init_4 : decode cX4_init 4 = .ok (.aload_n 0, 1) := by decide +kernel
theorem dX4_init_5 : decode cX4_init 5 = .ok (.bipush 8, 2) := by decide +kernel
theorem dX4_init_7 : decode cX4_init 7 = .ok (.newarray .int, 2) := by decide +kernel
theorem dX4_init_9 : decode cX4_init 9 = .ok (.putfield 9, 3) := by decide +kernel
theorem dX4_init_12 : decode cX4_init 12 = .ok (.aload_n 0, 1) := by decide +kernel
theorem dX4_init_13 : decode cX4_init 13 = .ok (.bipush 8, 2) := by decide +kernel
theorem dX4_init_15 : decode cX4_init 15 = .ok (.newarray .int, 2) := by decide +kernel
theorem dX4_init_17 : decode cX4_init 17 = .ok (.putfield 15, 3) := by decide +kernel
theorem dX4_init_20 : decode cX4_init 20 = .ok (.aload_n 0, 1) := by decide +kernel
theorem dX4_init_21 : decode cX4_init 21 = .ok (.bipush 8, 2) := by decide +kernel
theorem dX4_init_23 : decode cX4_init 23 = .ok (.newarray .int, 2) := by decide +kernel
theorem dX4_init_25 : decode cX4_init 25 = .ok (.putfield 18, 3) := by decide +kernel
theorem dX4_init_28 : decode cX4_init 28 = .ok (.return_, 1) := by decide +kernel
theorem dX4_put_0 : decode cX4_put 0 = .ok (.aload_n 0, 1) := by decide +kernel
theorem dX4_put_1 : decode cX4_put 1 = .ok (.iload_n 1, 1) := by decide +kernel
theorem dX4_put_2 : decode cX4_put 2 = .ok (.iload_n 2, 1) := by decide +kernel
theorem dX4_put_3 : decode cX4_put 3 = .ok (.invokevirtual 21, 3) := by decide +kernel
theorem dX4_put_6 : decode cX4_put 6 = .ok (.istore 4, 2) := by decide +kernel
theorem dX4_put_8 : decode cX4_put 8 = .ok (.aload_n 0, 1) := by decide +kernel
theorem dX4_put_9 : decode cX4_put 9 = .ok (.iload 4, 2) := by decide +kernel
theorem dX4_put_11 : decode cX4_put 11 = .ok (.iload_n 1, 1) := by decide +kernel
theorem dX4_put_12 : decode cX4_put 12 = .ok (.iload_n 2, 1) := by decide +kernel
theorem dX4_put_13 : decode cX4_put 13 = .ok (.invokevirtual 25, 3) := by decide +kernel
theorem dX4_put_16 : decode cX4_put 16 = .ok (.ifCond .ne 69, 3) := by decide +kernel
theorem dX4_put_19 : decode cX4_put 19 = .ok (.aload_n 0, 1) := by decide +kernel
theorem dX4_put_20 : decode cX4_put 20 = .ok (.getfield 29, 3) := by decide +kernel
theorem dX4_put_23 : decode cX4_put 23 = .ok (.bipush 8, 2) := by decide +kernel
theorem dX4_put_25 : decode cX4_put 25 = .ok (.if_icmp .lt 5, 3) := by decide +kernel
theorem dX4_put_28 : decode cX4_put 28 = .ok (.iconst 0, 1) := by decide +kernel
theorem dX4_put_29 : decode cX4_put 29 = .ok (.ireturn, 1) := by decide +kernel
theorem dX4_put_30 : decode cX4_put 30 = .ok (.aload_n 0, 1) := by decide +kernel
theorem dX4_put_31 : decode cX4_put 31 = .ok (.getfield 29, 3) := by decide +kernel
theorem dX4_put_34 : decode cX4_put 34 = .ok (.istore 5, 2) := by decide +kernel
theorem dX4_put_36 : decode cX4_put 36 = .ok (.iload 5, 2) := by decide +kernel
theorem dX4_put_38 : decode cX4_put 38 = .ok (.iload 4, 2) := by decide +kernel
theorem dX4_put_40 : decode cX4_put 40 = .ok (.if_icmp .le 19, 3) := by decide +kernel
theorem dX4_put_43 : decode cX4_put 43 = .ok (.aload_n 0, 1) := by decide +kernel
theorem dX4_put_44 : decode cX4_put 44 = .ok (.iload 5, 2) := by decide +kernel
theorem dX4_put_46 : decode cX4_put 46 = .ok (.iconst 1, 1) := by decide +kernel
theorem dX4_put_47 : decode cX4_put 47 = .ok (.isub, 1) := by decide +kernel
theorem dX4_put_48 : decode cX4_put 48 = .ok (.iload 5, 2) := by decide +kernel
theorem dX4_put_50 : decode cX4_put 50 = .ok (.invokevirtual 33, 3) := by decide +kernel
theorem dX4_put_53 : decode cX4_put 53 = .ok (.iinc 5 (-1), 3) := by decide +kernel
theorem dX4_put_56 : decode cX4_put 56 = .ok (.goto (-20), 3) := by decide +kernel
theorem dX4_put_59 : decode cX4_put 59 = .ok (.aload_n 0, 1) := by decide +kernel
theorem dX4_put_60 : decode cX4_put 60 = .ok (.getfield 9, 3) := by decide +kernel
theorem dX4_put_63 : decode cX4_put 63 = .ok (.iload 4, 2) := by decide +kernel
theorem dX4_put_65 : decode cX4_put 65 = .ok (.iload_n 1, 1) := by decide +kernel
theorem dX4_put_66 : decode cX4_put 66 = .ok (.iastore, 1) := by decide +kernel
theorem dX4_put_67 : decode cX4_put 67 = .ok (.aload_n 0, 1) := by decide +kernel
theorem dX4_put_68 : decode cX4_put 68 = .ok (.getfield 15, 3) := by decide +kernel
theorem dX4_put_71 : decode cX4_put 71 = .ok (.iload 4, 2) := by decide +kernel
theorem dX4_put_73 : decode cX4_put 73 = .ok (.iload_n 2, 1) := by decide +kernel
theorem dX4_put_74 : decode cX4_put 74 = .ok (.iastore, 1) := by decide +kernel
theorem dX4_put_75 : decode cX4_put 75 = .ok (.aload_n 0, 1) := by decide +kernel
theorem dX4_put_76 : decode cX4_put 76 = .ok (.dup, 1) := by decide +kernel
theorem dX4_put_77 : decode cX4_put 77 = .ok (.getfield 29, 3) := by decide +kernel
theorem dX4_put_80 : decode cX4_put 80 = .ok (.iconst 1, 1) := by decide +kernel
theorem dX4_put_81 : decode cX4_put 81 = .ok (.iadd, 1) := by decide +kernel
theorem dX4_put_82 : decode cX4_put 82 = .ok (.putfield 29, 3) := by decide +kernel
theorem dX4_put_85 : decode cX4_put 85 = .ok (.aload_n 0, 1) := by decide +kernel
theorem dX4_put_86 : decode cX4_put 86 = .ok (.getfield 18, 3) := by decide +kernel
theorem dX4_put_89 : decode cX4_put 89 = .ok (.iload 4, 2) := by decide +kernel
theorem dX4_put_91 : decode cX4_put 91 = .ok (.iload_n 3, 1) := by decide +kernel
theorem dX4_put_92 : decode cX4_put 92 = .ok (.iastore, 1) := by decide +kernel
theorem dX4_put_93 : decode cX4_put 93 = .ok (.iconst 1, 1) := by decide +kernel
theorem dX4_put_94 : decode cX4_put 94 = .ok (.ireturn, 1) := by decide +kernel
theorem dX4_remove_0 : decode cX4_remove 0 = .ok (.aload_n 0, 1) := by decide +kernel
theorem dX4_remove_1 : decode cX4_remove 1 = .ok (.iload_n 1, 1) := by decide +kernel
theorem dX4_remove_2 : decode cX4_remove 2 = .ok (.iload_n 2, 1) := by decide +kernel
theorem dX4_remove_3 : decode cX4_remove 3 = .ok (.invokevirtual 21, 3) := by decide +kernel
theorem dX4_remove_6 : decode cX4_remove 6 = .ok (.istore_n 3, 1) := by decide +kernel
theorem dX4_remove_7 : decode cX4_remove 7 = .ok (.aload_n 0, 1) := by decide +kernel
theorem dX4_remove_8 : decode cX4_remove 8 = .ok (.iload_n 3, 1) := by decide +kernel
theorem dX4_remove_9 : decode cX4_remove 9 = .ok (.iload_n 1, 1) := by decide +kernel
theorem dX4_remove_10 : decode cX4_remove 10 = .ok (.iload_n 2, 1) := by decide +kernel
theorem dX4_remove_11 : decode cX4_remove 11 = .ok (.invokevirtual 25, 3) := by decide +kernel
theorem dX4_remove_14 : decode cX4_remove 14 = .ok (.ifCond .eq 41, 3) := by decide +kernel
theorem dX4_remove_17 : decode cX4_remove 17 = .ok (.aload_n 0, 1) := by decide +kernel
theorem dX4_remove_18 : decode cX4_remove 18 = .ok (.dup, 1) := by decide +kernel
theorem dX4_remove_19 : decode cX4_remove 19 = .ok (.getfield 29, 3) := by decide +kernel
theorem dX4_remove_22 : decode cX4_remove 22 = .ok (.iconst 1, 1) := by decide +kernel
theorem dX4_remove_23 : decode cX4_remove 23 = .ok (.isub, 1) := by decide +kernel
theorem dX4_remove_24 : decode cX4_remove 24 = .ok (.putfield 29, 3) := by decide +kernel
theorem dX4_remove_27 : decode cX4_remove 27 = .ok (.iload_n 3, 1) := by decide +kernel
theorem dX4_remove_28 : decode cX4_remove 28 = .ok (.istore 4, 2) := by decide +kernel
theorem dX4_remove_30 : decode cX4_remove 30 = .ok (.iload 4, 2) := by decide +kernel
theorem dX4_remove_32 : decode cX4_remove 32 = .ok (.aload_n 0, 1) := by decide +kernel
theorem dX4_remove_33 : decode cX4_remove 33 = .ok (.getfield 29, 3) := by decide +kernel
theorem dX4_remove_36 : decode cX4_remove 36 = .ok (.if_icmp .ge 19, 3) := by decide +kernel
theorem dX4_remove_39 : decode cX4_remove 39 = .ok (.aload_n 0, 1) := by decide +kernel
theorem dX4_remove_40 : decode cX4_remove 40 = .ok (.iload 4, 2) := by decide +kernel
theorem dX4_remove_42 : decode cX4_remove 42 = .ok (.iconst 1, 1) := by decide +kernel
theorem dX4_remove_43 : decode cX4_remove 43 = .ok (.iadd, 1) := by decide +kernel
theorem dX4_remove_44 : decode cX4_remove 44 = .ok (.iload 4, 2) := by decide +kernel
theorem dX4_remove_46 : decode cX4_remove 46 = .ok (.invokevirtual 33, 3) := by decide +kernel
theorem dX4_remove_49 : decode cX4_remove 49 = .ok (.iinc 4 1, 3) := by decide +kernel
theorem dX4_remove_52 : decode cX4_remove 52 = .ok (.goto (-22), 3) := by decide +kernel
theorem dX4_remove_55 : decode cX4_remove 55 = .ok (.return_, 1) := by decide +kernel
theorem dX4_takeOver_0 : decode cX4_takeOver 0 = .ok (.aload_n 0, 1) := by decide +kernel
theorem dX4_takeOver_1 : decode cX4_takeOver 1 = .ok (.aload_n 1, 1) := by decide +kernel
theorem dX4_takeOver_2 : decode cX4_takeOver 2 = .ok (.getfield 29, 3) := by decide +kernel
theorem dX4_takeOver_5 : decode cX4_takeOver 5 = .ok (.putfield 29, 3) := by decide +kernel
theorem dX4_takeOver_8 : decode cX4_takeOver 8 = .ok (.aload_n 1, 1) := by decide +kernel
theorem dX4_takeOver_9 : decode cX4_takeOver 9 = .ok (.getfield 9, 3) := by decide +kernel
theorem dX4_takeOver_12 : decode cX4_takeOver 12 = .ok (.iconst 0, 1) := by decide +kernel
theorem dX4_takeOver_13 : decode cX4_takeOver 13 = .ok (.aload_n 0, 1) := by decide +kernel
theorem dX4_takeOver_14 : decode cX4_takeOver 14 = .ok (.getfield 9, 3) := by decide +kernel
theorem dX4_takeOver_17 : decode cX4_takeOver 17 = .ok (.iconst 0, 1) := by decide +kernel
theorem dX4_takeOver_18 : decode cX4_takeOver 18 = .ok (.bipush 8, 2) := by decide +kernel
theorem dX4_takeOver_20 : decode cX4_takeOver 20 = .ok (.invokestatic 37, 3) := by decide +kernel
theorem dX4_takeOver_23 : decode cX4_takeOver 23 = .ok (.aload_n 1, 1) := by decide +kernel
theorem dX4_takeOver_24 : decode cX4_takeOver 24 = .ok (.getfield 15, 3) := by decide +kernel
