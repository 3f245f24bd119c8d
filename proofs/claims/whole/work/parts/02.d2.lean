/-! decode rows, 2 of 5 -/
theorem dX4_takeOver_27 : decode cX4_takeOver 27 = .ok (.iconst 0, 1) := by decide +kernel
theorem dX4_takeOver_28 : decode cX4_takeOver 28 = .ok (.aload_n 0, 1) := by decide +kernel
theorem dX4_takeOver_29 : decode cX4_takeOver 29 = .ok (.getfield 15, 3) := by decide +kernel
theorem dX4_takeOver_32 : decode cX4_takeOver 32 = .ok (.iconst 0, 1) := by decide +kernel
theorem dX4_takeOver_33 : decode cX4_takeOver 33 = .ok (.bipush 8, 2) := by decide +kernel
theorem dX4_takeOver_35 : decode cX4_takeOver 35 = .ok (.invokestatic 37, 3) := by decide +kernel
theorem dX4_takeOver_38 : decode cX4_takeOver 38 = .ok (.aload_n 1, 1) := by decide +kernel
theorem dX4_takeOver_39 : decode cX4_takeOver 39 = .ok (.getfield 18, 3) := by decide +kernel
theorem dX4_takeOver_42 : decode cX4_takeOver 42 = .ok (.iconst 0, 1) := by decide +kernel
theorem dX4_takeOver_43 : decode cX4_takeOver 43 = .ok (.aload_n 0, 1) := by decide +kernel
theorem dX4_takeOver_44 : decode cX4_takeOver 44 = .ok (.getfield 18, 3) := by decide +kernel
theorem dX4_takeOver_47 : decode cX4_takeOver 47 = .ok (.iconst 0, 1) := by decide +kernel
theorem dX4_takeOver_48 : decode cX4_takeOver 48 = .ok (.bipush 8, 2) := by decide +kernel
theorem dX4_takeOver_50 : decode cX4_takeOver 50 = .ok (.invokestatic 37, 3) := by decide +kernel
theorem dX4_takeOver_53 : decode cX4_takeOver 53 = .ok (.return_, 1) := by decide +kernel
theorem dX4_copyWithin_0 : decode cX4_copyWithin 0 = .ok (.aload_n 0, 1) := by decide +kernel
theorem dX4_copyWithin_1 : decode cX4_copyWithin 1 = .ok (.getfield 9, 3) := by decide +kernel
theorem dX4_copyWithin_4 : decode cX4_copyWithin 4 = .ok (.iload_n 2, 1) := by decide +kernel
theorem dX4_copyWithin_5 : decode cX4_copyWithin 5 = .ok (.aload_n 0, 1) := by decide +kernel
theorem dX4_copyWithin_6 : decode cX4_copyWithin 6 = .ok (.getfield 9, 3) := by decide +kernel
theorem dX4_copyWithin_9 : decode cX4_copyWithin 9 = .ok (.iload_n 1, 1) := by decide +kernel
theorem dX4_copyWithin_10 : decode cX4_copyWithin 10 = .ok (.iaload, 1) := by decide +kernel
theorem dX4_copyWithin_11 : decode cX4_copyWithin 11 = .ok (.iastore, 1) := by decide +kernel
theorem dX4_copyWithin_12 : decode cX4_copyWithin 12 = .ok (.aload_n 0, 1) := by decide +kernel
theorem dX4_copyWithin_13 : decode cX4_copyWithin 13 = .ok (.getfield 15, 3) := by decide +kernel
theorem dX4_copyWithin_16 : decode cX4_copyWithin 16 = .ok (.iload_n 2, 1) := by decide +kernel
theorem dX4_copyWithin_17 : decode cX4_copyWithin 17 = .ok (.aload_n 0, 1) := by decide +kernel
theorem dX4_copyWithin_18 : decode cX4_copyWithin 18 = .ok (.getfield 15, 3) := by decide +kernel
theorem dX4_copyWithin_21 : decode cX4_copyWithin 21 = .ok (.iload_n 1, 1) := by decide +kernel
theorem dX4_copyWithin_22 : decode cX4_copyWithin 22 = .ok (.iaload, 1) := by decide +kernel
theorem dX4_copyWithin_23 : decode cX4_copyWithin 23 = .ok (.iastore, 1) := by decide +kernel
theorem dX4_copyWithin_24 : decode cX4_copyWithin 24 = .ok (.aload_n 0, 1) := by decide +kernel
theorem dX4_copyWithin_25 : decode cX4_copyWithin 25 = .ok (.getfield 18, 3) := by decide +kernel
theorem dX4_copyWithin_28 : decode cX4_copyWithin 28 = .ok (.iload_n 2, 1) := by decide +kernel
theorem dX4_copyWithin_29 : decode cX4_copyWithin 29 = .ok (.aload_n 0, 1) := by decide +kernel
theorem dX4_copyWithin_30 : decode cX4_copyWithin 30 = .ok (.getfield 18, 3) := by decide +kernel
theorem dX4_copyWithin_33 : decode cX4_copyWithin 33 = .ok (.iload_n 1, 1) := by decide +kernel
theorem dX4_copyWithin_34 : decode cX4_copyWithin 34 = .ok (.iaload, 1) := by decide +kernel
theorem dX4_copyWithin_35 : decode cX4_copyWithin 35 = .ok (.iastore, 1) := by decide +kernel
theorem dX4_copyWithin_36 : decode cX4_copyWithin 36 = .ok (.return_, 1) := by decide +kernel
theorem dX4_rankOf_0 : decode cX4_rankOf 0 = .ok (.iconst 0, 1) := by decide +kernel
theorem dX4_rankOf_1 : decode cX4_rankOf 1 = .ok (.istore_n 3, 1) := by decide +kernel
theorem dX4_rankOf_2 : decode cX4_rankOf 2 = .ok (.iconst 0, 1) := by decide +kernel
theorem dX4_rankOf_3 : decode cX4_rankOf 3 = .ok (.istore 4, 2) := by decide +kernel
theorem dX4_rankOf_5 : decode cX4_rankOf 5 = .ok (.iload 4, 2) := by decide +kernel
theorem dX4_rankOf_7 : decode cX4_rankOf 7 = .ok (.aload_n 0, 1) := by decide +kernel
theorem dX4_rankOf_8 : decode cX4_rankOf 8 = .ok (.getfield 29, 3) := by decide +kernel
theorem dX4_rankOf_11 : decode cX4_rankOf 11 = .ok (.if_icmp .ge 45, 3) := by decide +kernel
theorem dX4_rankOf_14 : decode cX4_rankOf 14 = .ok (.aload_n 0, 1) := by decide +kernel
theorem dX4_rankOf_15 : decode cX4_rankOf 15 = .ok (.getfield 9, 3) := by decide +kernel
theorem dX4_rankOf_18 : decode cX4_rankOf 18 = .ok (.iload 4, 2) := by decide +kernel
theorem dX4_rankOf_20 : decode cX4_rankOf 20 = .ok (.iaload, 1) := by decide +kernel
theorem dX4_rankOf_21 : decode cX4_rankOf 21 = .ok (.iload_n 1, 1) := by decide +kernel
theorem dX4_rankOf_22 : decode cX4_rankOf 22 = .ok (.if_icmp .lt 25, 3) := by decide +kernel
theorem dX4_rankOf_25 : decode cX4_rankOf 25 = .ok (.aload_n 0, 1) := by decide +kernel
theorem dX4_rankOf_26 : decode cX4_rankOf 26 = .ok (.getfield 9, 3) := by decide +kernel
theorem dX4_rankOf_29 : decode cX4_rankOf 29 = .ok (.iload 4, 2) := by decide +kernel
theorem dX4_rankOf_31 : decode cX4_rankOf 31 = .ok (.iaload, 1) := by decide +kernel
theorem dX4_rankOf_32 : decode cX4_rankOf 32 = .ok (.iload_n 1, 1) := by decide +kernel
theorem dX4_rankOf_33 : decode cX4_rankOf 33 = .ok (.if_icmp .ne 17, 3) := by decide +kernel
theorem dX4_rankOf_36 : decode cX4_rankOf 36 = .ok (.aload_n 0, 1) := by decide +kernel
theorem dX4_rankOf_37 : decode cX4_rankOf 37 = .ok (.getfield 15, 3) := by decide +kernel
theorem dX4_rankOf_40 : decode cX4_rankOf 40 = .ok (.iload 4, 2) := by decide +kernel
theorem dX4_rankOf_42 : decode cX4_rankOf 42 = .ok (.iaload, 1) := by decide +kernel
theorem dX4_rankOf_43 : decode cX4_rankOf 43 = .ok (.iload_n 2, 1) := by decide +kernel
theorem dX4_rankOf_44 : decode cX4_rankOf 44 = .ok (.if_icmp .ge 6, 3) := by decide +kernel
theorem dX4_rankOf_47 : decode cX4_rankOf 47 = .ok (.iinc 3 1, 3) := by decide +kernel
theorem dX4_rankOf_50 : decode cX4_rankOf 50 = .ok (.iinc 4 1, 3) := by decide +kernel
theorem dX4_rankOf_53 : decode cX4_rankOf 53 = .ok (.goto (-48), 3) := by decide +kernel
theorem dX4_rankOf_56 : decode cX4_rankOf 56 = .ok (.iload_n 3, 1) := by decide +kernel
theorem dX4_rankOf_57 : decode cX4_rankOf 57 = .ok (.ireturn, 1) := by decide +kernel
theorem dX4_standsAt_0 : decode cX4_standsAt 0 = .ok (.iload_n 1, 1) := by decide +kernel
theorem dX4_standsAt_1 : decode cX4_standsAt 1 = .ok (.aload_n 0, 1) := by decide +kernel
theorem dX4_standsAt_2 : decode cX4_standsAt 2 = .ok (.getfield 29, 3) := by decide +kernel
theorem dX4_standsAt_5 : decode cX4_standsAt 5 = .ok (.if_icmp .ge 27, 3) := by decide +kernel
theorem dX4_standsAt_8 : decode cX4_standsAt 8 = .ok (.aload_n 0, 1) := by decide +kernel
theorem dX4_standsAt_9 : decode cX4_standsAt 9 = .ok (.getfield 9, 3) := by decide +kernel
theorem dX4_standsAt_12 : decode cX4_standsAt 12 = .ok (.iload_n 1, 1) := by decide +kernel
theorem dX4_standsAt_13 : decode cX4_standsAt 13 = .ok (.iaload, 1) := by decide +kernel
theorem dX4_standsAt_14 : decode cX4_standsAt 14 = .ok (.iload_n 2, 1) := by decide +kernel
theorem dX4_standsAt_15 : decode cX4_standsAt 15 = .ok (.if_icmp .ne 17, 3) := by decide +kernel
theorem dX4_standsAt_18 : decode cX4_standsAt 18 = .ok (.aload_n 0, 1) := by decide +kernel
theorem dX4_standsAt_19 : decode cX4_standsAt 19 = .ok (.getfield 15, 3) := by decide +kernel
theorem dX4_standsAt_22 : decode cX4_standsAt 22 = .ok (.iload_n 1, 1) := by decide +kernel
theorem dX4_standsAt_23 : decode cX4_standsAt 23 = .ok (.iaload, 1) := by decide +kernel
theorem dX4_standsAt_24 : decode cX4_standsAt 24 = .ok (.iload_n 3, 1) := by decide +kernel
theorem dX4_standsAt_25 : decode cX4_standsAt 25 = .ok (.if_icmp .ne 7, 3) := by decide +kernel
theorem dX4_standsAt_28 : decode cX4_standsAt 28 = .ok (.iconst 1, 1) := by decide +kernel
theorem dX4_standsAt_29 : decode cX4_standsAt 29 = .ok (.goto 4, 3) := by decide +kernel
theorem dX4_standsAt_32 : decode cX4_standsAt 32 = .ok (.iconst 0, 1) := by decide +kernel
theorem dX4_standsAt_33 : decode cX4_standsAt 33 = .ok (.ireturn, 1) := by decide +kernel
theorem dX5_init_0 : decode cX5_init 0 = .ok (.aload_n 0, 1) := by decide +kernel
theorem dX5_init_1 : decode cX5_init 1 = .ok (.invokespecial 1, 3) := by decide +kernel
theorem dX5_init_4 : decode cX5_init 4 = .ok (.aload_n 0, 1) := by decide +kernel
theorem dX5_init_5 : decode cX5_init 5 = .ok (.new 7, 3) := by decide +kernel
theorem dX5_init_8 : decode cX5_init 8 = .ok (.dup, 1) := by decide +kernel
theorem dX5_init_9 : decode cX5_init 9 = .ok (.invokespecial 9, 3) := by decide +kernel
theorem dX5_init_12 : decode cX5_init 12 = .ok (.putfield 10, 3) := by decide +kernel
theorem dX5_init_15 : decode cX5_init 15 = .ok (.aload_n 0, 1) := by decide +kernel
theorem dX5_init_16 : decode cX5_init 16 = .ok (.new 16, 3) := by decide +kernel
theorem dX5_init_19 : decode cX5_init 19 = .ok (.dup, 1) := by decide +kernel
theorem dX5_init_20 : decode cX5_init 20 = .ok (.invokespecial 18, 3) := by decide +kernel
theorem dX5_init_23 : decode cX5_init 23 = .ok (.putfield 19, 3) := by decide +kernel
theorem dX5_init_26 : decode cX5_init 26 = .ok (.aload_n 0, 1) := by decide +kernel
theorem dX5_init_27 : decode cX5_init 27 = .ok (.new 23, 3) := by decide +kernel
theorem dX5_init_30 : decode cX5_init 30 = .ok (.dup, 1) := by decide +kernel
theorem dX5_init_31 : decode cX5_init 31 = .ok (.invokespecial 25, 3) := by decide +kernel
theorem dX5_init_34 : decode cX5_init 34 = .ok (.putfield 26, 3) := by decide +kernel
theorem dX5_init_37 : decode cX5_init 37 = .ok (.aload_n 0, 1) := by decide +kernel
theorem dX5_init_38 : decode cX5_init 38 = .ok (.new 30, 3) := by decide +kernel
theorem dX5_init_41 : decode cX5_init 41 = .ok (.dup, 1) := by decide +kernel
theorem dX5_init_42 : decode cX5_init 42 = .ok (.invokespecial 32, 3) := by decide +kernel
theorem dX5_init_45 : decode cX5_init 45 = .ok (.putfield 33, 3) := by decide +kernel
theorem dX5_init_48 : decode cX5_init 48 = .ok (.aload_n 0, 1) := by decide +kernel
theorem dX5_init_49 : decode cX5_init 49 = .ok (.new 7, 3) := by decide +kernel
theorem dX5_init_52 : decode cX5_init 52 = .ok (.dup, 1) := by decide +kernel
theorem dX5_init_53 : decode cX5_init 53 = .ok (.invokespecial 9, 3) := by decide +kernel
theorem dX5_init_56 : decode cX5_init 56 = .ok (.putfield 37, 3) := by decide +kernel
theorem dX5_init_59 : decode cX5_init 59 = .ok (.aload_n 0, 1) := by decide +kernel
theorem dX5_init_60 : decode cX5_init 60 = .ok (.new 7, 3) := by decide +kernel
theorem dX5_init_63 : decode cX5_init 63 = .ok (.dup, 1) := by decide +kernel
theorem dX5_init_64 : decode cX5_init 64 = .ok (.invokespecial 9, 3) := by decide +kernel
theorem dX5_init_67 : decode cX5_init 67 = .ok (.putfield 40, 3) := by decide +kernel
theorem dX5_init_70 : decode cX5_init 70 = .ok (.aload_n 0, 1) := by decide +kernel
theorem dX5_init_71 : decode cX5_init 71 = .ok (.getfield 19, 3) := by decide +kernel
theorem dX5_init_74 : decode cX5_init 74 = .ok (.aload_n 0, 1) := by decide +kernel
theorem dX5_init_75 : decode cX5_init 75 = .ok (.getfield 10, 3) := by decide +kernel
theorem dX5_init_78 : decode cX5_init 78 = .ok (.invokevirtual 43, 3) := by decide +kernel
theorem dX5_init_81 : decode cX5_init 81 = .ok (.return_, 1) := by decide +kernel
theorem dX5_setCylinders_0 : decode cX5_setCylinders 0 = .ok (.iload_n 1, 1) := by decide +kernel
theorem dX5_setCylinders_1 : decode cX5_setCylinders 1 = .ok (.iconst 1, 1) := by decide +kernel
theorem dX5_setCylinders_2 : decode cX5_setCylinders 2 = .ok (.if_icmp .lt 9, 3) := by decide +kernel
theorem dX5_setCylinders_5 : decode cX5_setCylinders 5 = .ok (.iload_n 1, 1) := by decide +kernel
theorem dX5_setCylinders_6 : decode cX5_setCylinders 6 = .ok (.bipush 8, 2) := by decide +kernel
theorem dX5_setCylinders_8 : decode cX5_setCylinders 8 = .ok (.if_icmp .le 6, 3) := by decide +kernel
theorem dX5_setCylinders_11 : decode cX5_setCylinders 11 = .ok (.ldc 47, 2) := by decide +kernel
theorem dX5_setCylinders_13 : decode cX5_setCylinders 13 = .ok (.ireturn, 1) := by decide +kernel
theorem dX5_setCylinders_14 : decode cX5_setCylinders 14 = .ok (.aload_n 0, 1) := by decide +kernel
theorem dX5_setCylinders_15 : decode cX5_setCylinders 15 = .ok (.getfield 10, 3) := by decide +kernel
theorem dX5_setCylinders_18 : decode cX5_setCylinders 18 = .ok (.getfield 48, 3) := by decide +kernel
theorem dX5_setCylinders_21 : decode cX5_setCylinders 21 = .ok (.istore_n 2, 1) := by decide +kernel
theorem dX5_setCylinders_22 : decode cX5_setCylinders 22 = .ok (.aload_n 0, 1) := by decide +kernel
theorem dX5_setCylinders_23 : decode cX5_setCylinders 23 = .ok (.getfield 10, 3) := by decide +kernel
theorem dX5_setCylinders_26 : decode cX5_setCylinders 26 = .ok (.iload_n 1, 1) := by decide +kernel
theorem dX5_setCylinders_27 : decode cX5_setCylinders 27 = .ok (.invokevirtual 52, 3) := by decide +kernel
theorem dX5_setCylinders_30 : decode cX5_setCylinders 30 = .ok (.aload_n 0, 1) := by decide +kernel
theorem dX5_setCylinders_31 : decode cX5_setCylinders 31 = .ok (.invokevirtual 56, 3) := by decide +kernel
theorem dX5_setCylinders_34 : decode cX5_setCylinders 34 = .ok (.iload_n 2, 1) := by decide +kernel
theorem dX5_setCylinders_35 : decode cX5_setCylinders 35 = .ok (.ireturn, 1) := by decide +kernel
theorem dX5_setStrokes_0 : decode cX5_setStrokes 0 = .ok (.iload_n 1, 1) := by decide +kernel
theorem dX5_setStrokes_1 : decode cX5_setStrokes 1 = .ok (.iconst 2, 1) := by decide +kernel
theorem dX5_setStrokes_2 : decode cX5_setStrokes 2 = .ok (.if_icmp .eq 11, 3) := by decide +kernel
theorem dX5_setStrokes_5 : decode cX5_setStrokes 5 = .ok (.iload_n 1, 1) := by decide +kernel
theorem dX5_setStrokes_6 : decode cX5_setStrokes 6 = .ok (.iconst 4, 1) := by decide +kernel
theorem dX5_setStrokes_7 : decode cX5_setStrokes 7 = .ok (.if_icmp .eq 6, 3) := by decide +kernel
theorem dX5_setStrokes_10 : decode cX5_setStrokes 10 = .ok (.ldc 47, 2) := by decide +kernel
theorem dX5_setStrokes_12 : decode cX5_setStrokes 12 = .ok (.ireturn, 1) := by decide +kernel
theorem dX5_setStrokes_13 : decode cX5_setStrokes 13 = .ok (.aload_n 0, 1) := by decide +kernel
theorem dX5_setStrokes_14 : decode cX5_setStrokes 14 = .ok (.getfield 10, 3) := by decide +kernel
theorem dX5_setStrokes_17 : decode cX5_setStrokes 17 = .ok (.getfield 59, 3) := by decide +kernel
theorem dX5_setStrokes_20 : decode cX5_setStrokes 20 = .ok (.istore_n 2, 1) := by decide +kernel
theorem dX5_setStrokes_21 : decode cX5_setStrokes 21 = .ok (.aload_n 0, 1) := by decide +kernel
theorem dX5_setStrokes_22 : decode cX5_setStrokes 22 = .ok (.getfield 10, 3) := by decide +kernel
theorem dX5_setStrokes_25 : decode cX5_setStrokes 25 = .ok (.iload_n 1, 1) := by decide +kernel
theorem dX5_setStrokes_26 : decode cX5_setStrokes 26 = .ok (.putfield 59, 3) := by decide +kernel
theorem dX5_setStrokes_29 : decode cX5_setStrokes 29 = .ok (.aload_n 0, 1) := by decide +kernel
theorem dX5_setStrokes_30 : decode cX5_setStrokes 30 = .ok (.invokevirtual 56, 3) := by decide +kernel
theorem dX5_setStrokes_33 : decode cX5_setStrokes 33 = .ok (.iload_n 2, 1) := by decide +kernel
theorem dX5_setStrokes_34 : decode cX5_setStrokes 34 = .ok (.ireturn, 1) := by decide +kernel
theorem dX5_setThrow_0 : decode cX5_setThrow 0 = .ok (.aload_n 0, 1) := by decide +kernel
theorem dX5_setThrow_1 : decode cX5_setThrow 1 = .ok (.iload_n 1, 1) := by decide +kernel
theorem dX5_setThrow_2 : decode cX5_setThrow 2 = .ok (.invokevirtual 62, 3) := by decide +kernel
theorem dX5_setThrow_5 : decode cX5_setThrow 5 = .ok (.ifCond .eq 6, 3) := by decide +kernel
theorem dX5_setThrow_8 : decode cX5_setThrow 8 = .ok (.ldc 66, 2) := by decide +kernel
theorem dX5_setThrow_10 : decode cX5_setThrow 10 = .ok (.ireturn, 1) := by decide +kernel
theorem dX5_setThrow_11 : decode cX5_setThrow 11 = .ok (.iload_n 2, 1) := by decide +kernel
theorem dX5_setThrow_12 : decode cX5_setThrow 12 = .ok (.invokestatic 67, 3) := by decide +kernel
theorem dX5_setThrow_15 : decode cX5_setThrow 15 = .ok (.ifCond .eq 6, 3) := by decide +kernel
theorem dX5_setThrow_18 : decode cX5_setThrow 18 = .ok (.ldc 47, 2) := by decide +kernel
theorem dX5_setThrow_20 : decode cX5_setThrow 20 = .ok (.ireturn, 1) := by decide +kernel
theorem dX5_setThrow_21 : decode cX5_setThrow 21 = .ok (.aload_n 0, 1) := by decide +kernel
theorem dX5_setThrow_22 : decode cX5_setThrow 22 = .ok (.getfield 10, 3) := by decide +kernel
theorem dX5_setThrow_25 : decode cX5_setThrow 25 = .ok (.getfield 70, 3) := by decide +kernel
theorem dX5_setThrow_28 : decode cX5_setThrow 28 = .ok (.iload_n 1, 1) := by decide +kernel
theorem dX5_setThrow_29 : decode cX5_setThrow 29 = .ok (.iaload, 1) := by decide +kernel
theorem dX5_setThrow_30 : decode cX5_setThrow 30 = .ok (.istore_n 3, 1) := by decide +kernel
theorem dX5_setThrow_31 : decode cX5_setThrow 31 = .ok (.aload_n 0, 1) := by decide +kernel
theorem dX5_setThrow_32 : decode cX5_setThrow 32 = .ok (.getfield 10, 3) := by decide +kernel
theorem dX5_setThrow_35 : decode cX5_setThrow 35 = .ok (.getfield 70, 3) := by decide +kernel
theorem dX5_setThrow_38 : decode cX5_setThrow 38 = .ok (.iload_n 1, 1) := by decide +kernel
theorem dX5_setThrow_39 : decode cX5_setThrow 39 = .ok (.iload_n 2, 1) := by decide +kernel
theorem dX5_setThrow_40 : decode cX5_setThrow 40 = .ok (.iastore, 1) := by decide +kernel
theorem dX5_setThrow_41 : decode cX5_setThrow 41 = .ok (.aload_n 0, 1) := by decide +kernel
theorem dX5_setThrow_42 : decode cX5_setThrow 42 = .ok (.invokevirtual 56, 3) := by decide +kernel
theorem dX5_setThrow_45 : decode cX5_setThrow 45 = .ok (.iload_n 3, 1) := by decide +kernel
theorem dX5_setThrow_46 : decode cX5_setThrow 46 = .ok (.ireturn, 1) := by decide +kernel
theorem dX5_setMass_0 : decode cX5_setMass 0 = .ok (.aload_n 0, 1) := by decide +kernel
theorem dX5_setMass_1 : decode cX5_setMass 1 = .ok (.iload_n 1, 1) := by decide +kernel
theorem dX5_setMass_2 : decode cX5_setMass 2 = .ok (.invokevirtual 62, 3) := by decide +kernel
theorem dX5_setMass_5 : decode cX5_setMass 5 = .ok (.ifCond .eq 6, 3) := by decide +kernel
theorem dX5_setMass_8 : decode cX5_setMass 8 = .ok (.ldc 66, 2) := by decide +kernel
theorem dX5_setMass_10 : decode cX5_setMass 10 = .ok (.ireturn, 1) := by decide +kernel
theorem dX5_setMass_11 : decode cX5_setMass 11 = .ok (.iload_n 2, 1) := by decide +kernel
theorem dX5_setMass_12 : decode cX5_setMass 12 = .ok (.ifCond .lt 9, 3) := by decide +kernel
theorem dX5_setMass_15 : decode cX5_setMass 15 = .ok (.iload_n 2, 1) := by decide +kernel
theorem dX5_setMass_16 : decode cX5_setMass 16 = .ok (.bipush 99, 2) := by decide +kernel
theorem dX5_setMass_18 : decode cX5_setMass 18 = .ok (.if_icmp .le 6, 3) := by decide +kernel
theorem dX5_setMass_21 : decode cX5_setMass 21 = .ok (.ldc 47, 2) := by decide +kernel
theorem dX5_setMass_23 : decode cX5_setMass 23 = .ok (.ireturn, 1) := by decide +kernel
theorem dX5_setMass_24 : decode cX5_setMass 24 = .ok (.aload_n 0, 1) := by decide +kernel
theorem dX5_setMass_25 : decode cX5_setMass 25 = .ok (.getfield 10, 3) := by decide +kernel
theorem dX5_setMass_28 : decode cX5_setMass 28 = .ok (.getfield 74, 3) := by decide +kernel
theorem dX5_setMass_31 : decode cX5_setMass 31 = .ok (.iload_n 1, 1) := by decide +kernel
theorem dX5_setMass_32 : decode cX5_setMass 32 = .ok (.iaload, 1) := by decide +kernel
theorem dX5_setMass_33 : decode cX5_setMass 33 = .ok (.istore_n 3, 1) := by decide +kernel
theorem dX5_setMass_34 : decode cX5_setMass 34 = .ok (.aload_n 0, 1) := by decide +kernel
theorem dX5_setMass_35 : decode cX5_setMass 35 = .ok (.getfield 10, 3) := by decide +kernel
theorem dX5_setMass_38 : decode cX5_setMass 38 = .ok (.getfield 74, 3) := by decide +kernel
theorem dX5_setMass_41 : decode cX5_setMass 41 = .ok (.iload_n 1, 1) := by decide +kernel
theorem dX5_setMass_42 : decode cX5_setMass 42 = .ok (.iload_n 2, 1) := by decide +kernel
theorem dX5_setMass_43 : decode cX5_setMass 43 = .ok (.iastore, 1) := by decide +kernel
theorem dX5_setMass_44 : decode cX5_setMass 44 = .ok (.iload_n 3, 1) := by decide +kernel
theorem dX5_setMass_45 : decode cX5_setMass 45 = .ok (.ireturn, 1) := by decide +kernel
theorem dX5_setPlace_0 : decode cX5_setPlace 0 = .ok (.aload_n 0, 1) := by decide +kernel
theorem dX5_setPlace_1 : decode cX5_setPlace 1 = .ok (.iload_n 1, 1) := by decide +kernel
theorem dX5_setPlace_2 : decode cX5_setPlace 2 = .ok (.invokevirtual 62, 3) := by decide +kernel
theorem dX5_setPlace_5 : decode cX5_setPlace 5 = .ok (.ifCond .eq 6, 3) := by decide +kernel
theorem dX5_setPlace_8 : decode cX5_setPlace 8 = .ok (.ldc 66, 2) := by decide +kernel
theorem dX5_setPlace_10 : decode cX5_setPlace 10 = .ok (.ireturn, 1) := by decide +kernel
theorem dX5_setPlace_11 : decode cX5_setPlace 11 = .ok (.iload_n 2, 1) := by decide +kernel
theorem dX5_setPlace_12 : decode cX5_setPlace 12 = .ok (.invokestatic 77, 3) := by decide +kernel
theorem dX5_setPlace_15 : decode cX5_setPlace 15 = .ok (.ifCond .eq 6, 3) := by decide +kernel
theorem dX5_setPlace_18 : decode cX5_setPlace 18 = .ok (.ldc 47, 2) := by decide +kernel
theorem dX5_setPlace_20 : decode cX5_setPlace 20 = .ok (.ireturn, 1) := by decide +kernel
theorem dX5_setPlace_21 : decode cX5_setPlace 21 = .ok (.aload_n 0, 1) := by decide +kernel
theorem dX5_setPlace_22 : decode cX5_setPlace 22 = .ok (.getfield 10, 3) := by decide +kernel
theorem dX5_setPlace_25 : decode cX5_setPlace 25 = .ok (.getfield 80, 3) := by decide +kernel
theorem dX5_setPlace_28 : decode cX5_setPlace 28 = .ok (.iload_n 1, 1) := by decide +kernel
theorem dX5_setPlace_29 : decode cX5_setPlace 29 = .ok (.iaload, 1) := by decide +kernel
theorem dX5_setPlace_30 : decode cX5_setPlace 30 = .ok (.istore_n 3, 1) := by decide +kernel
theorem dX5_setPlace_31 : decode cX5_setPlace 31 = .ok (.aload_n 0, 1) := by decide +kernel
theorem dX5_setPlace_32 : decode cX5_setPlace 32 = .ok (.getfield 10, 3) := by decide +kernel
theorem dX5_setPlace_35 : decode cX5_setPlace 35 = .ok (.getfield 80, 3) := by decide +kernel
theorem dX5_setPlace_38 : decode cX5_setPlace 38 = .ok (.iload_n 1, 1) := by decide +kernel
theorem dX5_setPlace_39 : decode cX5_setPlace 39 = .ok (.iload_n 2, 1) := by decide +kernel
theorem dX5_setPlace_40 : decode cX5_setPlace 40 = .ok (.iastore, 1) := by decide +kernel
theorem dX5_setPlace_41 : decode cX5_setPlace 41 = .ok (.iload_n 3, 1) := by decide +kernel
theorem dX5_setPlace_42 : decode cX5_setPlace 42 = .ok (.ireturn, 1) := by decide +kernel
theorem dX5_setWeight_0 : decode cX5_setWeight 0 = .ok (.iload_n 1, 1) := by decide +kernel
theorem dX5_setWeight_1 : decode cX5_setWeight 1 = .ok (.invokestatic 77, 3) := by decide +kernel
theorem dX5_setWeight_4 : decode cX5_setWeight 4 = .ok (.ifCond .ne 21, 3) := by decide +kernel
theorem dX5_setWeight_7 : decode cX5_setWeight 7 = .ok (.iload_n 2, 1) := by decide +kernel
theorem dX5_setWeight_8 : decode cX5_setWeight 8 = .ok (.invokestatic 67, 3) := by decide +kernel
theorem dX5_setWeight_11 : decode cX5_setWeight 11 = .ok (.ifCond .ne 14, 3) := by decide +kernel
theorem dX5_setWeight_14 : decode cX5_setWeight 14 = .ok (.iload_n 3, 1) := by decide +kernel
theorem dX5_setWeight_15 : decode cX5_setWeight 15 = .ok (.ifCond .lt 10, 3) := by decide +kernel
theorem dX5_setWeight_18 : decode cX5_setWeight 18 = .ok (.iload_n 3, 1) := by decide +kernel
theorem dX5_setWeight_19 : decode cX5_setWeight 19 = .ok (.sipush 999, 3) := by decide +kernel
theorem dX5_setWeight_22 : decode cX5_setWeight 22 = .ok (.if_icmp .le 6, 3) := by decide +kernel
theorem dX5_setWeight_25 : decode cX5_setWeight 25 = .ok (.ldc 47, 2) := by decide +kernel
theorem dX5_setWeight_27 : decode cX5_setWeight 27 = .ok (.ireturn, 1) := by decide +kernel
theorem dX5_setWeight_28 : decode cX5_setWeight 28 = .ok (.aload_n 0, 1) := by decide +kernel
theorem dX5_setWeight_29 : decode cX5_setWeight 29 = .ok (.getfield 10, 3) := by decide +kernel
theorem dX5_setWeight_32 : decode cX5_setWeight 32 = .ok (.getfield 83, 3) := by decide +kernel
theorem dX5_setWeight_35 : decode cX5_setWeight 35 = .ok (.astore 4, 2) := by decide +kernel
theorem dX5_setWeight_37 : decode cX5_setWeight 37 = .ok (.iload_n 3, 1) := by decide +kernel
theorem dX5_setWeight_38 : decode cX5_setWeight 38 = .ok (.ifCond .ne 16, 3) := by decide +kernel
theorem dX5_setWeight_41 : decode cX5_setWeight 41 = .ok (.aload 4, 2) := by decide +kernel
theorem dX5_setWeight_43 : decode cX5_setWeight 43 = .ok (.iload_n 1, 1) := by decide +kernel
theorem dX5_setWeight_44 : decode cX5_setWeight 44 = .ok (.iload_n 2, 1) := by decide +kernel
theorem dX5_setWeight_45 : decode cX5_setWeight 45 = .ok (.invokevirtual 87, 3) := by decide +kernel
theorem dX5_setWeight_48 : decode cX5_setWeight 48 = .ok (.aload 4, 2) := by decide +kernel
theorem dX5_setWeight_50 : decode cX5_setWeight 50 = .ok (.getfield 93, 3) := by decide +kernel
theorem dX5_setWeight_53 : decode cX5_setWeight 53 = .ok (.ireturn, 1) := by decide +kernel
theorem dX5_setWeight_54 : decode cX5_setWeight 54 = .ok (.aload 4, 2) := by decide +kernel
theorem dX5_setWeight_56 : decode cX5_setWeight 56 = .ok (.iload_n 1, 1) := by decide +kernel
theorem dX5_setWeight_57 : decode cX5_setWeight 57 = .ok (.iload_n 2, 1) := by decide +kernel
theorem dX5_setWeight_58 : decode cX5_setWeight 58 = .ok (.iload_n 3, 1) := by decide +kernel
theorem dX5_setWeight_59 : decode cX5_setWeight 59 = .ok (.invokevirtual 96, 3) := by decide +kernel
theorem dX5_setWeight_62 : decode cX5_setWeight 62 = .ok (.ifCond .eq 11, 3) := by decide +kernel
theorem dX5_setWeight_65 : decode cX5_setWeight 65 = .ok (.aload 4, 2) := by decide +kernel
theorem dX5_setWeight_67 : decode cX5_setWeight 67 = .ok (.getfield 93, 3) := by decide +kernel
theorem dX5_setWeight_70 : decode cX5_setWeight 70 = .ok (.goto 5, 3) := by decide +kernel
theorem dX5_setWeight_73 : decode cX5_setWeight 73 = .ok (.ldc 100, 2) := by decide +kernel
theorem dX5_setWeight_75 : decode cX5_setWeight 75 = .ok (.ireturn, 1) := by decide +kernel
theorem dX5_weight_0 : decode cX5_weight 0 = .ok (.aload_n 0, 1) := by decide +kernel
theorem dX5_weight_1 : decode cX5_weight 1 = .ok (.getfield 10, 3) := by decide +kernel
theorem dX5_weight_4 : decode cX5_weight 4 = .ok (.getfield 83, 3) := by decide +kernel
theorem dX5_weight_7 : decode cX5_weight 7 = .ok (.astore_n 3, 1) := by decide +kernel
theorem dX5_weight_8 : decode cX5_weight 8 = .ok (.iload_n 1, 1) := by decide +kernel
theorem dX5_weight_9 : decode cX5_weight 9 = .ok (.ifCond .lt 11, 3) := by decide +kernel
theorem dX5_weight_12 : decode cX5_weight 12 = .ok (.iload_n 1, 1) := by decide +kernel
theorem dX5_weight_13 : decode cX5_weight 13 = .ok (.aload_n 3, 1) := by decide +kernel
theorem dX5_weight_14 : decode cX5_weight 14 = .ok (.getfield 93, 3) := by decide +kernel
theorem dX5_weight_17 : decode cX5_weight 17 = .ok (.if_icmp .lt 6, 3) := by decide +kernel
theorem dX5_weight_20 : decode cX5_weight 20 = .ok (.ldc 66, 2) := by decide +kernel
theorem dX5_weight_22 : decode cX5_weight 22 = .ok (.ireturn, 1) := by decide +kernel
theorem dX5_weight_23 : decode cX5_weight 23 = .ok (.iload_n 2, 1) := by decide +kernel
theorem dX5_weight_24 : decode cX5_weight 24 = .ok (.tableswitch 49 0 2 #[28, 35, 42], 28) := by decide +kernel
theorem dX5_weight_52 : decode cX5_weight 52 = .ok (.aload_n 3, 1) := by decide +kernel
theorem dX5_weight_53 : decode cX5_weight 53 = .ok (.getfield 101, 3) := by decide +kernel
theorem dX5_weight_56 : decode cX5_weight 56 = .ok (.iload_n 1, 1) := by decide +kernel
theorem dX5_weight_57 : decode cX5_weight 57 = .ok (.iaload, 1) := by decide +kernel
theorem dX5_weight_58 : decode cX5_weight 58 = .ok (.ireturn, 1) := by decide +kernel
theorem dX5_weight_59 : decode cX5_weight 59 = .ok (.aload_n 3, 1) := by decide +kernel
theorem dX5_weight_60 : decode cX5_weight 60 = .ok (.getfield 102, 3) := by decide +kernel
theorem dX5_weight_63 : decode cX5_weight 63 = .ok (.iload_n 1, 1) := by decide +kernel
theorem dX5_weight_64 : decode cX5_weight 64 = .ok (.iaload, 1) := by decide +kernel
theorem dX5_weight_65 : decode cX5_weight 65 = .ok (.ireturn, 1) := by decide +kernel
theorem dX5_weight_66 : decode cX5_weight 66 = .ok (.aload_n 3, 1) := by decide +kernel
theorem dX5_weight_67 : decode cX5_weight 67 = .ok (.getfield 103, 3) := by decide +kernel
theorem dX5_weight_70 : decode cX5_weight 70 = .ok (.iload_n 1, 1) := by decide +kernel
theorem dX5_weight_71 : decode cX5_weight 71 = .ok (.iaload, 1) := by decide +kernel
theorem dX5_weight_72 : decode cX5_weight 72 = .ok (.ireturn, 1) := by decide +kernel
theorem dX5_weight_73 : decode cX5_weight 73 = .ok (.ldc 47, 2) := by decide +kernel
theorem dX5_weight_75 : decode cX5_weight 75 = .ok (.ireturn, 1) := by decide +kernel
theorem dX5_cylinder_0 : decode cX5_cylinder 0 = .ok (.aload_n 0, 1) := by decide +kernel
theorem dX5_cylinder_1 : decode cX5_cylinder 1 = .ok (.iload_n 1, 1) := by decide +kernel
theorem dX5_cylinder_2 : decode cX5_cylinder 2 = .ok (.invokevirtual 62, 3) := by decide +kernel
theorem dX5_cylinder_5 : decode cX5_cylinder 5 = .ok (.ifCond .eq 6, 3) := by decide +kernel
theorem dX5_cylinder_8 : decode cX5_cylinder 8 = .ok (.ldc 66, 2) := by decide +kernel
theorem dX5_cylinder_10 : decode cX5_cylinder 10 = .ok (.ireturn, 1) := by decide +kernel
theorem dX5_cylinder_11 : decode cX5_cylinder 11 = .ok (.iload_n 2, 1) := by decide +kernel
theorem dX5_cylinder_12 : decode cX5_cylinder 12 = .ok (.tableswitch 106 0 4 #[36, 46, 56, 66, 78], 36) := by decide +kernel
theorem dX5_cylinder_48 : decode cX5_cylinder 48 = .ok (.aload_n 0, 1) := by decide +kernel
theorem dX5_cylinder_49 : decode cX5_cylinder 49 = .ok (.getfield 10, 3) := by decide +kernel
theorem dX5_cylinder_52 : decode cX5_cylinder 52 = .ok (.getfield 70, 3) := by decide +kernel
theorem dX5_cylinder_55 : decode cX5_cylinder 55 = .ok (.iload_n 1, 1) := by decide +kernel
theorem dX5_cylinder_56 : decode cX5_cylinder 56 = .ok (.iaload, 1) := by decide +kernel
theorem dX5_cylinder_57 : decode cX5_cylinder 57 = .ok (.ireturn, 1) := by decide +kernel
theorem dX5_cylinder_58 : decode cX5_cylinder 58 = .ok (.aload_n 0, 1) := by decide +kernel
theorem dX5_cylinder_59 : decode cX5_cylinder 59 = .ok (.getfield 10, 3) := by decide +kernel
theorem dX5_cylinder_62 : decode cX5_cylinder 62 = .ok (.getfield 74, 3) := by decide +kernel
theorem dX5_cylinder_65 : decode cX5_cylinder 65 = .ok (.iload_n 1, 1) := by decide +kernel
theorem dX5_cylinder_66 : decode cX5_cylinder 66 = .ok (.iaload, 1) := by decide +kernel
theorem dX5_cylinder_67 : decode cX5_cylinder 67 = .ok (.ireturn, 1) := by decide +kernel
theorem dX5_cylinder_68 : decode cX5_cylinder 68 = .ok (.aload_n 0, 1) := by decide +kernel
theorem dX5_cylinder_69 : decode cX5_cylinder 69 = .ok (.getfield 10, 3) := by decide +kernel
theorem dX5_cylinder_72 : decode cX5_cylinder 72 = .ok (.getfield 80, 3) := by decide +kernel
theorem dX5_cylinder_75 : decode cX5_cylinder 75 = .ok (.iload_n 1, 1) := by decide +kernel
theorem dX5_cylinder_76 : decode cX5_cylinder 76 = .ok (.iaload, 1) := by decide +kernel
theorem dX5_cylinder_77 : decode cX5_cylinder 77 = .ok (.ireturn, 1) := by decide +kernel
theorem dX5_cylinder_78 : decode cX5_cylinder 78 = .ok (.aload_n 0, 1) := by decide +kernel
theorem dX5_cylinder_79 : decode cX5_cylinder 79 = .ok (.getfield 10, 3) := by decide +kernel
theorem dX5_cylinder_82 : decode cX5_cylinder 82 = .ok (.getfield 104, 3) := by decide +kernel
theorem dX5_cylinder_85 : decode cX5_cylinder 85 = .ok (.iload_n 1, 1) := by decide +kernel
theorem dX5_cylinder_86 : decode cX5_cylinder 86 = .ok (.ishr, 1) := by decide +kernel
theorem dX5_cylinder_87 : decode cX5_cylinder 87 = .ok (.iconst 1, 1) := by decide +kernel
theorem dX5_cylinder_88 : decode cX5_cylinder 88 = .ok (.iand, 1) := by decide +kernel
theorem dX5_cylinder_89 : decode cX5_cylinder 89 = .ok (.ireturn, 1) := by decide +kernel
theorem dX5_cylinder_90 : decode cX5_cylinder 90 = .ok (.aload_n 0, 1) := by decide +kernel
theorem dX5_cylinder_91 : decode cX5_cylinder 91 = .ok (.invokevirtual 107, 3) := by decide +kernel
theorem dX5_cylinder_94 : decode cX5_cylinder 94 = .ok (.ifCond .eq 21, 3) := by decide +kernel
theorem dX5_cylinder_97 : decode cX5_cylinder 97 = .ok (.aload_n 0, 1) := by decide +kernel
theorem dX5_cylinder_98 : decode cX5_cylinder 98 = .ok (.getfield 19, 3) := by decide +kernel
theorem dX5_cylinder_101 : decode cX5_cylinder 101 = .ok (.aload_n 0, 1) := by decide +kernel
theorem dX5_cylinder_102 : decode cX5_cylinder 102 = .ok (.getfield 10, 3) := by decide +kernel
theorem dX5_cylinder_105 : decode cX5_cylinder 105 = .ok (.getfield 111, 3) := by decide +kernel
theorem dX5_cylinder_108 : decode cX5_cylinder 108 = .ok (.iload_n 1, 1) := by decide +kernel
theorem dX5_cylinder_109 : decode cX5_cylinder 109 = .ok (.invokevirtual 114, 3) := by decide +kernel
theorem dX5_cylinder_112 : decode cX5_cylinder 112 = .ok (.goto 5, 3) := by decide +kernel
theorem dX5_cylinder_115 : decode cX5_cylinder 115 = .ok (.ldc 118, 2) := by decide +kernel
theorem dX5_cylinder_117 : decode cX5_cylinder 117 = .ok (.ireturn, 1) := by decide +kernel
theorem dX5_cylinder_118 : decode cX5_cylinder 118 = .ok (.ldc 47, 2) := by decide +kernel
theorem dX5_cylinder_120 : decode cX5_cylinder 120 = .ok (.ireturn, 1) := by decide +kernel
theorem dX5_vector_0 : decode cX5_vector 0 = .ok (.iload_n 1, 1) := by decide +kernel
theorem dX5_vector_1 : decode cX5_vector 1 = .ok (.ifCond .lt 8, 3) := by decide +kernel
theorem dX5_vector_4 : decode cX5_vector 4 = .ok (.iload_n 1, 1) := by decide +kernel
theorem dX5_vector_5 : decode cX5_vector 5 = .ok (.iconst 4, 1) := by decide +kernel
theorem dX5_vector_6 : decode cX5_vector 6 = .ok (.if_icmp .lt 6, 3) := by decide +kernel
theorem dX5_vector_9 : decode cX5_vector 9 = .ok (.ldc 66, 2) := by decide +kernel
theorem dX5_vector_11 : decode cX5_vector 11 = .ok (.ireturn, 1) := by decide +kernel
theorem dX5_vector_12 : decode cX5_vector 12 = .ok (.aload_n 0, 1) := by decide +kernel
theorem dX5_vector_13 : decode cX5_vector 13 = .ok (.iload_n 1, 1) := by decide +kernel
theorem dX5_vector_14 : decode cX5_vector 14 = .ok (.invokevirtual 119, 3) := by decide +kernel
theorem dX5_vector_17 : decode cX5_vector 17 = .ok (.aload_n 0, 1) := by decide +kernel
theorem dX5_vector_18 : decode cX5_vector 18 = .ok (.getfield 26, 3) := by decide +kernel
theorem dX5_vector_21 : decode cX5_vector 21 = .ok (.iload_n 2, 1) := by decide +kernel
theorem dX5_vector_22 : decode cX5_vector 22 = .ok (.iload_n 3, 1) := by decide +kernel
theorem dX5_vector_23 : decode cX5_vector 23 = .ok (.invokevirtual 122, 3) := by decide +kernel
theorem dX5_vector_26 : decode cX5_vector 26 = .ok (.ireturn, 1) := by decide +kernel
theorem dX5_balanced_0 : decode cX5_balanced 0 = .ok (.iconst 0, 1) := by decide +kernel
theorem dX5_balanced_1 : decode cX5_balanced 1 = .ok (.istore_n 1, 1) := by decide +kernel
theorem dX5_balanced_2 : decode cX5_balanced 2 = .ok (.iconst 0, 1) := by decide +kernel
theorem dX5_balanced_3 : decode cX5_balanced 3 = .ok (.istore_n 2, 1) := by decide +kernel
theorem dX5_balanced_4 : decode cX5_balanced 4 = .ok (.iload_n 2, 1) := by decide +kernel
theorem dX5_balanced_5 : decode cX5_balanced 5 = .ok (.iconst 4, 1) := by decide +kernel
theorem dX5_balanced_6 : decode cX5_balanced 6 = .ok (.if_icmp .ge 30, 3) := by decide +kernel
theorem dX5_balanced_9 : decode cX5_balanced 9 = .ok (.aload_n 0, 1) := by decide +kernel
theorem dX5_balanced_10 : decode cX5_balanced 10 = .ok (.iload_n 2, 1) := by decide +kernel
theorem dX5_balanced_11 : decode cX5_balanced 11 = .ok (.invokevirtual 119, 3) := by decide +kernel
theorem dX5_balanced_14 : decode cX5_balanced 14 = .ok (.aload_n 0, 1) := by decide +kernel
theorem dX5_balanced_15 : decode cX5_balanced 15 = .ok (.getfield 26, 3) := by decide +kernel
theorem dX5_balanced_18 : decode cX5_balanced 18 = .ok (.invokevirtual 126, 3) := by decide +kernel
theorem dX5_balanced_21 : decode cX5_balanced 21 = .ok (.ifCond .eq 9, 3) := by decide +kernel
theorem dX5_balanced_24 : decode cX5_balanced 24 = .ok (.iload_n 1, 1) := by decide +kernel
theorem dX5_balanced_25 : decode cX5_balanced 25 = .ok (.iconst 1, 1) := by decide +kernel
theorem dX5_balanced_26 : decode cX5_balanced 26 = .ok (.iload_n 2, 1) := by decide +kernel
theorem dX5_balanced_27 : decode cX5_balanced 27 = .ok (.ishl, 1) := by decide +kernel
theorem dX5_balanced_28 : decode cX5_balanced 28 = .ok (.ior, 1) := by decide +kernel
theorem dX5_balanced_29 : decode cX5_balanced 29 = .ok (.istore_n 1, 1) := by decide +kernel
theorem dX5_balanced_30 : decode cX5_balanced 30 = .ok (.iinc 2 1, 3) := by decide +kernel
theorem dX5_balanced_33 : decode cX5_balanced 33 = .ok (.goto (-29), 3) := by decide +kernel
theorem dX5_balanced_36 : decode cX5_balanced 36 = .ok (.iload_n 1, 1) := by decide +kernel
theorem dX5_balanced_37 : decode cX5_balanced 37 = .ok (.ireturn, 1) := by decide +kernel
theorem dX5_isMirrored_0 : decode cX5_isMirrored 0 = .ok (.aload_n 0, 1) := by decide +kernel
theorem dX5_isMirrored_1 : decode cX5_isMirrored 1 = .ok (.getfield 10, 3) := by decide +kernel
theorem dX5_isMirrored_4 : decode cX5_isMirrored 4 = .ok (.invokevirtual 129, 3) := by decide +kernel
theorem dX5_isMirrored_7 : decode cX5_isMirrored 7 = .ok (.ifCond .eq 7, 3) := by decide +kernel
theorem dX5_isMirrored_10 : decode cX5_isMirrored 10 = .ok (.iconst 1, 1) := by decide +kernel
theorem dX5_isMirrored_11 : decode cX5_isMirrored 11 = .ok (.goto 4, 3) := by decide +kernel
theorem dX5_isMirrored_14 : decode cX5_isMirrored 14 = .ok (.iconst 0, 1) := by decide +kernel
theorem dX5_isMirrored_15 : decode cX5_isMirrored 15 = .ok (.ireturn, 1) := by decide +kernel
theorem dX5_counterWeight_0 : decode cX5_counterWeight 0 = .ok (.aload_n 0, 1) := by decide +kernel
theorem dX5_counterWeight_1 : decode cX5_counterWeight 1 = .ok (.iconst 0, 1) := by decide +kernel
theorem dX5_counterWeight_2 : decode cX5_counterWeight 2 = .ok (.invokevirtual 119, 3) := by decide +kernel
theorem dX5_counterWeight_5 : decode cX5_counterWeight 5 = .ok (.aload_n 0, 1) := by decide +kernel
theorem dX5_counterWeight_6 : decode cX5_counterWeight 6 = .ok (.getfield 26, 3) := by decide +kernel
theorem dX5_counterWeight_9 : decode cX5_counterWeight 9 = .ok (.iconst 1, 1) := by decide +kernel
theorem dX5_counterWeight_10 : decode cX5_counterWeight 10 = .ok (.invokevirtual 132, 3) := by decide +kernel
theorem dX5_counterWeight_13 : decode cX5_counterWeight 13 = .ok (.ireturn, 1) := by decide +kernel
theorem dX5_counterPair_0 : decode cX5_counterPair 0 = .ok (.iload_n 1, 1) := by decide +kernel
theorem dX5_counterPair_1 : decode cX5_counterPair 1 = .ok (.invokestatic 77, 3) := by decide +kernel
theorem dX5_counterPair_4 : decode cX5_counterPair 4 = .ok (.ifCond .ne 15, 3) := by decide +kernel
theorem dX5_counterPair_7 : decode cX5_counterPair 7 = .ok (.iload_n 2, 1) := by decide +kernel
theorem dX5_counterPair_8 : decode cX5_counterPair 8 = .ok (.invokestatic 77, 3) := by decide +kernel
theorem dX5_counterPair_11 : decode cX5_counterPair 11 = .ok (.ifCond .ne 8, 3) := by decide +kernel
theorem dX5_counterPair_14 : decode cX5_counterPair 14 = .ok (.iload_n 1, 1) := by decide +kernel
theorem dX5_counterPair_15 : decode cX5_counterPair 15 = .ok (.iload_n 2, 1) := by decide +kernel
theorem dX5_counterPair_16 : decode cX5_counterPair 16 = .ok (.if_icmp .ne 6, 3) := by decide +kernel
theorem dX5_counterPair_19 : decode cX5_counterPair 19 = .ok (.ldc 47, 2) := by decide +kernel
theorem dX5_counterPair_21 : decode cX5_counterPair 21 = .ok (.ireturn, 1) := by decide +kernel
theorem dX5_counterPair_22 : decode cX5_counterPair 22 = .ok (.aload_n 0, 1) := by decide +kernel
theorem dX5_counterPair_23 : decode cX5_counterPair 23 = .ok (.iconst 1, 1) := by decide +kernel
theorem dX5_counterPair_24 : decode cX5_counterPair 24 = .ok (.invokevirtual 119, 3) := by decide +kernel
theorem dX5_counterPair_27 : decode cX5_counterPair 27 = .ok (.aload_n 0, 1) := by decide +kernel
theorem dX5_counterPair_28 : decode cX5_counterPair 28 = .ok (.getfield 26, 3) := by decide +kernel
theorem dX5_counterPair_31 : decode cX5_counterPair 31 = .ok (.iload_n 1, 1) := by decide +kernel
theorem dX5_counterPair_32 : decode cX5_counterPair 32 = .ok (.iload_n 2, 1) := by decide +kernel
theorem dX5_counterPair_33 : decode cX5_counterPair 33 = .ok (.isub, 1) := by decide +kernel
theorem dX5_counterPair_34 : decode cX5_counterPair 34 = .ok (.invokevirtual 132, 3) := by decide +kernel
theorem dX5_counterPair_37 : decode cX5_counterPair 37 = .ok (.ireturn, 1) := by decide +kernel
theorem dX5_orders_0 : decode cX5_orders 0 = .ok (.aload_n 0, 1) := by decide +kernel
theorem dX5_orders_1 : decode cX5_orders 1 = .ok (.getfield 19, 3) := by decide +kernel
theorem dX5_orders_4 : decode cX5_orders 4 = .ok (.getfield 136, 3) := by decide +kernel
theorem dX5_orders_7 : decode cX5_orders 7 = .ok (.ireturn, 1) := by decide +kernel
theorem dX5_order_0 : decode cX5_order 0 = .ok (.aload_n 0, 1) := by decide +kernel
theorem dX5_order_1 : decode cX5_order 1 = .ok (.iload_n 1, 1) := by decide +kernel
theorem dX5_order_2 : decode cX5_order 2 = .ok (.invokevirtual 137, 3) := by decide +kernel
theorem dX5_order_5 : decode cX5_order 5 = .ok (.ifCond .ne 18, 3) := by decide +kernel
theorem dX5_order_8 : decode cX5_order 8 = .ok (.iload_n 2, 1) := by decide +kernel
theorem dX5_order_9 : decode cX5_order 9 = .ok (.ifCond .lt 14, 3) := by decide +kernel
theorem dX5_order_12 : decode cX5_order 12 = .ok (.iload_n 2, 1) := by decide +kernel
theorem dX5_order_13 : decode cX5_order 13 = .ok (.aload_n 0, 1) := by decide +kernel
theorem dX5_order_14 : decode cX5_order 14 = .ok (.getfield 10, 3) := by decide +kernel
theorem dX5_order_17 : decode cX5_order 17 = .ok (.getfield 48, 3) := by decide +kernel
theorem dX5_order_20 : decode cX5_order 20 = .ok (.if_icmp .lt 6, 3) := by decide +kernel
theorem dX5_order_23 : decode cX5_order 23 = .ok (.ldc 66, 2) := by decide +kernel
theorem dX5_order_25 : decode cX5_order 25 = .ok (.ireturn, 1) := by decide +kernel
theorem dX5_order_26 : decode cX5_order 26 = .ok (.aload_n 0, 1) := by decide +kernel
theorem dX5_order_27 : decode cX5_order 27 = .ok (.getfield 19, 3) := by decide +kernel
theorem dX5_order_30 : decode cX5_order 30 = .ok (.iload_n 1, 1) := by decide +kernel
theorem dX5_order_31 : decode cX5_order 31 = .ok (.iload_n 2, 1) := by decide +kernel
theorem dX5_order_32 : decode cX5_order 32 = .ok (.invokevirtual 140, 3) := by decide +kernel
theorem dX5_order_35 : decode cX5_order 35 = .ok (.ireturn, 1) := by decide +kernel
theorem dX5_orderCost_0 : decode cX5_orderCost 0 = .ok (.aload_n 0, 1) := by decide +kernel
theorem dX5_orderCost_1 : decode cX5_orderCost 1 = .ok (.iload_n 1, 1) := by decide +kernel
theorem dX5_orderCost_2 : decode cX5_orderCost 2 = .ok (.invokevirtual 137, 3) := by decide +kernel
theorem dX5_orderCost_5 : decode cX5_orderCost 5 = .ok (.ifCond .eq 6, 3) := by decide +kernel
theorem dX5_orderCost_8 : decode cX5_orderCost 8 = .ok (.ldc 66, 2) := by decide +kernel
theorem dX5_orderCost_10 : decode cX5_orderCost 10 = .ok (.ireturn, 1) := by decide +kernel
theorem dX5_orderCost_11 : decode cX5_orderCost 11 = .ok (.iload_n 2, 1) := by decide +kernel
theorem dX5_orderCost_12 : decode cX5_orderCost 12 = .ok (.lookupswitch 46 #[(0, 28), (1, 37)], 28) := by decide +kernel
theorem dX5_orderCost_40 : decode cX5_orderCost 40 = .ok (.aload_n 0, 1) := by decide +kernel
theorem dX5_orderCost_41 : decode cX5_orderCost 41 = .ok (.getfield 19, 3) := by decide +kernel
theorem dX5_orderCost_44 : decode cX5_orderCost 44 = .ok (.iload_n 1, 1) := by decide +kernel
theorem dX5_orderCost_45 : decode cX5_orderCost 45 = .ok (.invokevirtual 143, 3) := by decide +kernel
theorem dX5_orderCost_48 : decode cX5_orderCost 48 = .ok (.ireturn, 1) := by decide +kernel
theorem dX5_orderCost_49 : decode cX5_orderCost 49 = .ok (.aload_n 0, 1) := by decide +kernel
theorem dX5_orderCost_50 : decode cX5_orderCost 50 = .ok (.getfield 19, 3) := by decide +kernel
theorem dX5_orderCost_53 : decode cX5_orderCost 53 = .ok (.iload_n 1, 1) := by decide +kernel
theorem dX5_orderCost_54 : decode cX5_orderCost 54 = .ok (.invokevirtual 146, 3) := by decide +kernel
theorem dX5_orderCost_57 : decode cX5_orderCost 57 = .ok (.ireturn, 1) := by decide +kernel
theorem dX5_orderCost_58 : decode cX5_orderCost 58 = .ok (.ldc 47, 2) := by decide +kernel
theorem dX5_orderCost_60 : decode cX5_orderCost 60 = .ok (.ireturn, 1) := by decide +kernel
theorem dX5_bestOrder_0 : decode cX5_bestOrder 0 = .ok (.ldc 118, 2) := by decide +kernel
theorem dX5_bestOrder_2 : decode cX5_bestOrder 2 = .ok (.istore_n 1, 1) := by decide +kernel
theorem dX5_bestOrder_3 : decode cX5_bestOrder 3 = .ok (.iconst 0, 1) := by decide +kernel
theorem dX5_bestOrder_4 : decode cX5_bestOrder 4 = .ok (.istore_n 2, 1) := by decide +kernel
theorem dX5_bestOrder_5 : decode cX5_bestOrder 5 = .ok (.iconst 0, 1) := by decide +kernel
theorem dX5_bestOrder_6 : decode cX5_bestOrder 6 = .ok (.istore_n 3, 1) := by decide +kernel
theorem dX5_bestOrder_7 : decode cX5_bestOrder 7 = .ok (.iload_n 3, 1) := by decide +kernel
theorem dX5_bestOrder_8 : decode cX5_bestOrder 8 = .ok (.aload_n 0, 1) := by decide +kernel
theorem dX5_bestOrder_9 : decode cX5_bestOrder 9 = .ok (.getfield 19, 3) := by decide +kernel
theorem dX5_bestOrder_12 : decode cX5_bestOrder 12 = .ok (.getfield 136, 3) := by decide +kernel
theorem dX5_bestOrder_15 : decode cX5_bestOrder 15 = .ok (.if_icmp .ge 48, 3) := by decide +kernel
theorem dX5_bestOrder_18 : decode cX5_bestOrder 18 = .ok (.bipush 100, 2) := by decide +kernel
theorem dX5_bestOrder_20 : decode cX5_bestOrder 20 = .ok (.aload_n 0, 1) := by decide +kernel
theorem dX5_bestOrder_21 : decode cX5_bestOrder 21 = .ok (.getfield 19, 3) := by decide +kernel
theorem dX5_bestOrder_24 : decode cX5_bestOrder 24 = .ok (.iload_n 3, 1) := by decide +kernel
theorem dX5_bestOrder_25 : decode cX5_bestOrder 25 = .ok (.invokevirtual 146, 3) := by decide +kernel
theorem dX5_bestOrder_28 : decode cX5_bestOrder 28 = .ok (.imul, 1) := by decide +kernel
theorem dX5_bestOrder_29 : decode cX5_bestOrder 29 = .ok (.aload_n 0, 1) := by decide +kernel
theorem dX5_bestOrder_30 : decode cX5_bestOrder 30 = .ok (.getfield 19, 3) := by decide +kernel
theorem dX5_bestOrder_33 : decode cX5_bestOrder 33 = .ok (.iload_n 3, 1) := by decide +kernel
theorem dX5_bestOrder_34 : decode cX5_bestOrder 34 = .ok (.invokevirtual 143, 3) := by decide +kernel
theorem dX5_bestOrder_37 : decode cX5_bestOrder 37 = .ok (.iadd, 1) := by decide +kernel
theorem dX5_bestOrder_38 : decode cX5_bestOrder 38 = .ok (.istore 4, 2) := by decide +kernel
theorem dX5_bestOrder_40 : decode cX5_bestOrder 40 = .ok (.iload_n 1, 1) := by decide +kernel
theorem dX5_bestOrder_41 : decode cX5_bestOrder 41 = .ok (.ldc 118, 2) := by decide +kernel
theorem dX5_bestOrder_43 : decode cX5_bestOrder 43 = .ok (.if_icmp .eq 9, 3) := by decide +kernel
theorem dX5_bestOrder_46 : decode cX5_bestOrder 46 = .ok (.iload 4, 2) := by decide +kernel
theorem dX5_bestOrder_48 : decode cX5_bestOrder 48 = .ok (.iload_n 2, 1) := by decide +kernel
theorem dX5_bestOrder_49 : decode cX5_bestOrder 49 = .ok (.if_icmp .ge 8, 3) := by decide +kernel
theorem dX5_bestOrder_52 : decode cX5_bestOrder 52 = .ok (.iload_n 3, 1) := by decide +kernel
theorem dX5_bestOrder_53 : decode cX5_bestOrder 53 = .ok (.istore_n 1, 1) := by decide +kernel
theorem dX5_bestOrder_54 : decode cX5_bestOrder 54 = .ok (.iload 4, 2) := by decide +kernel
theorem dX5_bestOrder_56 : decode cX5_bestOrder 56 = .ok (.istore_n 2, 1) := by decide +kernel
theorem dX5_bestOrder_57 : decode cX5_bestOrder 57 = .ok (.iinc 3 1, 3) := by decide +kernel
theorem dX5_bestOrder_60 : decode cX5_bestOrder 60 = .ok (.goto (-53), 3) := by decide +kernel
theorem dX5_bestOrder_63 : decode cX5_bestOrder 63 = .ok (.iload_n 1, 1) := by decide +kernel
theorem dX5_bestOrder_64 : decode cX5_bestOrder 64 = .ok (.ireturn, 1) := by decide +kernel
theorem dX5_choose_0 : decode cX5_choose 0 = .ok (.aload_n 0, 1) := by decide +kernel
theorem dX5_choose_1 : decode cX5_choose 1 = .ok (.iload_n 1, 1) := by decide +kernel
theorem dX5_choose_2 : decode cX5_choose 2 = .ok (.invokevirtual 137, 3) := by decide +kernel
theorem dX5_choose_5 : decode cX5_choose 5 = .ok (.ifCond .eq 6, 3) := by decide +kernel
theorem dX5_choose_8 : decode cX5_choose 8 = .ok (.ldc 66, 2) := by decide +kernel
theorem dX5_choose_10 : decode cX5_choose 10 = .ok (.ireturn, 1) := by decide +kernel
theorem dX5_choose_11 : decode cX5_choose 11 = .ok (.aload_n 0, 1) := by decide +kernel
theorem dX5_choose_12 : decode cX5_choose 12 = .ok (.getfield 10, 3) := by decide +kernel
theorem dX5_choose_15 : decode cX5_choose 15 = .ok (.iload_n 1, 1) := by decide +kernel
theorem dX5_choose_16 : decode cX5_choose 16 = .ok (.putfield 111, 3) := by decide +kernel
theorem dX5_choose_19 : decode cX5_choose 19 = .ok (.aload_n 0, 1) := by decide +kernel
theorem dX5_choose_20 : decode cX5_choose 20 = .ok (.getfield 19, 3) := by decide +kernel
theorem dX5_choose_23 : decode cX5_choose 23 = .ok (.iload_n 1, 1) := by decide +kernel
theorem dX5_choose_24 : decode cX5_choose 24 = .ok (.iconst 0, 1) := by decide +kernel
theorem dX5_choose_25 : decode cX5_choose 25 = .ok (.invokevirtual 114, 3) := by decide +kernel
theorem dX5_choose_28 : decode cX5_choose 28 = .ok (.ireturn, 1) := by decide +kernel
theorem dX5_append_0 : decode cX5_append 0 = .ok (.iload_n 1, 1) := by decide +kernel
theorem dX5_append_1 : decode cX5_append 1 = .ok (.ifCond .lt 9, 3) := by decide +kernel
theorem dX5_append_4 : decode cX5_append 4 = .ok (.iload_n 1, 1) := by decide +kernel
theorem dX5_append_5 : decode cX5_append 5 = .ok (.bipush 127, 2) := by decide +kernel
theorem dX5_append_7 : decode cX5_append 7 = .ok (.if_icmp .le 6, 3) := by decide +kernel
theorem dX5_append_10 : decode cX5_append 10 = .ok (.ldc 47, 2) := by decide +kernel
theorem dX5_append_12 : decode cX5_append 12 = .ok (.ireturn, 1) := by decide +kernel
theorem dX5_append_13 : decode cX5_append 13 = .ok (.aload_n 0, 1) := by decide +kernel
theorem dX5_append_14 : decode cX5_append 14 = .ok (.getfield 33, 3) := by decide +kernel
theorem dX5_append_17 : decode cX5_append 17 = .ok (.iload_n 1, 1) := by decide +kernel
theorem dX5_append_18 : decode cX5_append 18 = .ok (.invokevirtual 149, 3) := by decide +kernel
theorem dX5_append_21 : decode cX5_append 21 = .ok (.ifCond .eq 13, 3) := by decide +kernel
theorem dX5_append_24 : decode cX5_append 24 = .ok (.aload_n 0, 1) := by decide +kernel
theorem dX5_append_25 : decode cX5_append 25 = .ok (.getfield 33, 3) := by decide +kernel
theorem dX5_append_28 : decode cX5_append 28 = .ok (.getfield 151, 3) := by decide +kernel
theorem dX5_append_31 : decode cX5_append 31 = .ok (.goto 5, 3) := by decide +kernel
theorem dX5_append_34 : decode cX5_append 34 = .ok (.ldc 100, 2) := by decide +kernel
theorem dX5_append_36 : decode cX5_append 36 = .ok (.ireturn, 1) := by decide +kernel
theorem dX5_clearText_0 : decode cX5_clearText 0 = .ok (.aload_n 0, 1) := by decide +kernel
theorem dX5_clearText_1 : decode cX5_clearText 1 = .ok (.getfield 33, 3) := by decide +kernel
theorem dX5_clearText_4 : decode cX5_clearText 4 = .ok (.getfield 151, 3) := by decide +kernel
theorem dX5_clearText_7 : decode cX5_clearText 7 = .ok (.istore_n 1, 1) := by decide +kernel
theorem dX5_clearText_8 : decode cX5_clearText 8 = .ok (.aload_n 0, 1) := by decide +kernel
theorem dX5_clearText_9 : decode cX5_clearText 9 = .ok (.getfield 33, 3) := by decide +kernel
theorem dX5_clearText_12 : decode cX5_clearText 12 = .ok (.iconst 0, 1) := by decide +kernel
theorem dX5_clearText_13 : decode cX5_clearText 13 = .ok (.putfield 151, 3) := by decide +kernel
theorem dX5_clearText_16 : decode cX5_clearText 16 = .ok (.iload_n 1, 1) := by decide +kernel
theorem dX5_clearText_17 : decode cX5_clearText 17 = .ok (.ireturn, 1) := by decide +kernel
theorem dX5_faultPosition_0 : decode cX5_faultPosition 0 = .ok (.aload_n 0, 1) := by decide +kernel
theorem dX5_faultPosition_1 : decode cX5_faultPosition 1 = .ok (.getfield 33, 3) := by decide +kernel
theorem dX5_faultPosition_4 : decode cX5_faultPosition 4 = .ok (.aload_n 0, 1) := by decide +kernel
theorem dX5_faultPosition_5 : decode cX5_faultPosition 5 = .ok (.getfield 10, 3) := by decide +kernel
theorem dX5_faultPosition_8 : decode cX5_faultPosition 8 = .ok (.getfield 48, 3) := by decide +kernel
theorem dX5_faultPosition_11 : decode cX5_faultPosition 11 = .ok (.invokevirtual 154, 3) := by decide +kernel
theorem dX5_faultPosition_14 : decode cX5_faultPosition 14 = .ok (.ireturn, 1) := by decide +kernel
theorem dX5_find_0 : decode cX5_find 0 = .ok (.aload_n 0, 1) := by decide +kernel
theorem dX5_find_1 : decode cX5_find 1 = .ok (.getfield 33, 3) := by decide +kernel
theorem dX5_find_4 : decode cX5_find 4 = .ok (.aload_n 0, 1) := by decide +kernel
theorem dX5_find_5 : decode cX5_find 5 = .ok (.getfield 10, 3) := by decide +kernel
theorem dX5_find_8 : decode cX5_find 8 = .ok (.getfield 48, 3) := by decide +kernel
theorem dX5_find_11 : decode cX5_find 11 = .ok (.invokevirtual 154, 3) := by decide +kernel
theorem dX5_find_14 : decode cX5_find 14 = .ok (.ldc 118, 2) := by decide +kernel
theorem dX5_find_16 : decode cX5_find 16 = .ok (.if_icmp .eq 6, 3) := by decide +kernel
theorem dX5_find_19 : decode cX5_find 19 = .ok (.ldc 157, 2) := by decide +kernel
theorem dX5_find_21 : decode cX5_find 21 = .ok (.ireturn, 1) := by decide +kernel
theorem dX5_find_22 : decode cX5_find 22 = .ok (.iconst 0, 1) := by decide +kernel
theorem dX5_find_23 : decode cX5_find 23 = .ok (.istore_n 1, 1) := by decide +kernel
theorem dX5_find_24 : decode cX5_find 24 = .ok (.iload_n 1, 1) := by decide +kernel
theorem dX5_find_25 : decode cX5_find 25 = .ok (.aload_n 0, 1) := by decide +kernel
theorem dX5_find_26 : decode cX5_find 26 = .ok (.getfield 19, 3) := by decide +kernel
theorem dX5_find_29 : decode cX5_find 29 = .ok (.getfield 136, 3) := by decide +kernel
theorem dX5_find_32 : decode cX5_find 32 = .ok (.if_icmp .ge 19, 3) := by decide +kernel
theorem dX5_find_35 : decode cX5_find 35 = .ok (.aload_n 0, 1) := by decide +kernel
theorem dX5_find_36 : decode cX5_find 36 = .ok (.iload_n 1, 1) := by decide +kernel
theorem dX5_find_37 : decode cX5_find 37 = .ok (.invokevirtual 158, 3) := by decide +kernel
theorem dX5_find_40 : decode cX5_find 40 = .ok (.ifCond .eq 5, 3) := by decide +kernel
theorem dX5_find_43 : decode cX5_find 43 = .ok (.iload_n 1, 1) := by decide +kernel
theorem dX5_find_44 : decode cX5_find 44 = .ok (.ireturn, 1) := by decide +kernel
theorem dX5_find_45 : decode cX5_find 45 = .ok (.iinc 1 1, 3) := by decide +kernel
theorem dX5_find_48 : decode cX5_find 48 = .ok (.goto (-24), 3) := by decide +kernel
theorem dX5_find_51 : decode cX5_find 51 = .ok (.ldc 118, 2) := by decide +kernel
theorem dX5_find_53 : decode cX5_find 53 = .ok (.ireturn, 1) := by decide +kernel
theorem dX5_turn_0 : decode cX5_turn 0 = .ok (.aload_n 0, 1) := by decide +kernel
theorem dX5_turn_1 : decode cX5_turn 1 = .ok (.iload_n 1, 1) := by decide +kernel
theorem dX5_turn_2 : decode cX5_turn 2 = .ok (.invokevirtual 62, 3) := by decide +kernel
theorem dX5_turn_5 : decode cX5_turn 5 = .ok (.ifCond .eq 6, 3) := by decide +kernel
theorem dX5_turn_8 : decode cX5_turn 8 = .ok (.ldc 66, 2) := by decide +kernel
theorem dX5_turn_10 : decode cX5_turn 10 = .ok (.ireturn, 1) := by decide +kernel
theorem dX5_turn_11 : decode cX5_turn 11 = .ok (.aload_n 0, 1) := by decide +kernel
theorem dX5_turn_12 : decode cX5_turn 12 = .ok (.invokevirtual 107, 3) := by decide +kernel
theorem dX5_turn_15 : decode cX5_turn 15 = .ok (.ifCond .ne 6, 3) := by decide +kernel
theorem dX5_turn_18 : decode cX5_turn 18 = .ok (.ldc 157, 2) := by decide +kernel
theorem dX5_turn_20 : decode cX5_turn 20 = .ok (.ireturn, 1) := by decide +kernel
theorem dX5_turn_21 : decode cX5_turn 21 = .ok (.iload_n 2, 1) := by decide +kernel
theorem dX5_turn_22 : decode cX5_turn 22 = .ok (.ifCond .eq 21, 3) := by decide +kernel
theorem dX5_turn_25 : decode cX5_turn 25 = .ok (.aload_n 0, 1) := by decide +kernel
theorem dX5_turn_26 : decode cX5_turn 26 = .ok (.getfield 10, 3) := by decide +kernel
theorem dX5_turn_29 : decode cX5_turn 29 = .ok (.dup, 1) := by decide +kernel
theorem dX5_turn_30 : decode cX5_turn 30 = .ok (.getfield 104, 3) := by decide +kernel
theorem dX5_turn_33 : decode cX5_turn 33 = .ok (.iconst 1, 1) := by decide +kernel
theorem dX5_turn_34 : decode cX5_turn 34 = .ok (.iload_n 1, 1) := by decide +kernel
theorem dX5_turn_35 : decode cX5_turn 35 = .ok (.ishl, 1) := by decide +kernel
theorem dX5_turn_36 : decode cX5_turn 36 = .ok (.ior, 1) := by decide +kernel
theorem dX5_turn_37 : decode cX5_turn 37 = .ok (.putfield 104, 3) := by decide +kernel
theorem dX5_turn_40 : decode cX5_turn 40 = .ok (.goto 20, 3) := by decide +kernel
theorem dX5_turn_43 : decode cX5_turn 43 = .ok (.aload_n 0, 1) := by decide +kernel
theorem dX5_turn_44 : decode cX5_turn 44 = .ok (.getfield 10, 3) := by decide +kernel
theorem dX5_turn_47 : decode cX5_turn 47 = .ok (.dup, 1) := by decide +kernel
theorem dX5_turn_48 : decode cX5_turn 48 = .ok (.getfield 104, 3) := by decide +kernel
theorem dX5_turn_51 : decode cX5_turn 51 = .ok (.iconst 1, 1) := by decide +kernel
theorem dX5_turn_52 : decode cX5_turn 52 = .ok (.iload_n 1, 1) := by decide +kernel
theorem dX5_turn_53 : decode cX5_turn 53 = .ok (.ishl, 1) := by decide +kernel
theorem dX5_turn_54 : decode cX5_turn 54 = .ok (.iconst (-1), 1) := by decide +kernel
theorem dX5_turn_55 : decode cX5_turn 55 = .ok (.ixor, 1) := by decide +kernel
theorem dX5_turn_56 : decode cX5_turn 56 = .ok (.iand, 1) := by decide +kernel
theorem dX5_turn_57 : decode cX5_turn 57 = .ok (.putfield 104, 3) := by decide +kernel
theorem dX5_turn_60 : decode cX5_turn 60 = .ok (.aload_n 0, 1) := by decide +kernel
theorem dX5_turn_61 : decode cX5_turn 61 = .ok (.getfield 10, 3) := by decide +kernel
theorem dX5_turn_64 : decode cX5_turn 64 = .ok (.getfield 104, 3) := by decide +kernel
theorem dX5_turn_67 : decode cX5_turn 67 = .ok (.invokestatic 161, 3) := by decide +kernel
theorem dX5_turn_70 : decode cX5_turn 70 = .ok (.ireturn, 1) := by decide +kernel
theorem dX5_longestGap_0 : decode cX5_longestGap 0 = .ok (.aload_n 0, 1) := by decide +kernel
theorem dX5_longestGap_1 : decode cX5_longestGap 1 = .ok (.invokevirtual 107, 3) := by decide +kernel
theorem dX5_longestGap_4 : decode cX5_longestGap 4 = .ok (.ifCond .ne 6, 3) := by decide +kernel
theorem dX5_longestGap_7 : decode cX5_longestGap 7 = .ok (.ldc 157, 2) := by decide +kernel
theorem dX5_longestGap_9 : decode cX5_longestGap 9 = .ok (.ireturn, 1) := by decide +kernel
theorem dX5_longestGap_10 : decode cX5_longestGap 10 = .ok (.aload_n 0, 1) := by decide +kernel
theorem dX5_longestGap_11 : decode cX5_longestGap 11 = .ok (.getfield 10, 3) := by decide +kernel
theorem dX5_longestGap_14 : decode cX5_longestGap 14 = .ok (.getfield 104, 3) := by decide +kernel
theorem dX5_longestGap_17 : decode cX5_longestGap 17 = .ok (.ifCond .ne 8, 3) := by decide +kernel
theorem dX5_longestGap_20 : decode cX5_longestGap 20 = .ok (.ldc 118, 2) := by decide +kernel
theorem dX5_longestGap_22 : decode cX5_longestGap 22 = .ok (.goto 24, 3) := by decide +kernel
theorem dX5_longestGap_25 : decode cX5_longestGap 25 = .ok (.aload_n 0, 1) := by decide +kernel
theorem dX5_longestGap_26 : decode cX5_longestGap 26 = .ok (.getfield 19, 3) := by decide +kernel
theorem dX5_longestGap_29 : decode cX5_longestGap 29 = .ok (.aload_n 0, 1) := by decide +kernel
theorem dX5_longestGap_30 : decode cX5_longestGap 30 = .ok (.getfield 10, 3) := by decide +kernel
theorem dX5_longestGap_33 : decode cX5_longestGap 33 = .ok (.getfield 111, 3) := by decide +kernel
theorem dX5_longestGap_36 : decode cX5_longestGap 36 = .ok (.aload_n 0, 1) := by decide +kernel
theorem dX5_longestGap_37 : decode cX5_longestGap 37 = .ok (.getfield 10, 3) := by decide +kernel
theorem dX5_longestGap_40 : decode cX5_longestGap 40 = .ok (.getfield 104, 3) := by decide +kernel
theorem dX5_longestGap_43 : decode cX5_longestGap 43 = .ok (.invokevirtual 166, 3) := by decide +kernel
theorem dX5_longestGap_46 : decode cX5_longestGap 46 = .ok (.ireturn, 1) := by decide +kernel
theorem dX5_load_0 : decode cX5_load 0 = .ok (.aload_n 0, 1) := by decide +kernel
theorem dX5_load_1 : decode cX5_load 1 = .ok (.iload_n 1, 1) := by decide +kernel
theorem dX5_load_2 : decode cX5_load 2 = .ok (.invokevirtual 169, 3) := by decide +kernel
theorem dX5_load_5 : decode cX5_load 5 = .ok (.ifCond .ne 18, 3) := by decide +kernel
theorem dX5_load_8 : decode cX5_load 8 = .ok (.iload_n 2, 1) := by decide +kernel
theorem dX5_load_9 : decode cX5_load 9 = .ok (.ifCond .lt 14, 3) := by decide +kernel
theorem dX5_load_12 : decode cX5_load 12 = .ok (.iload_n 2, 1) := by decide +kernel
theorem dX5_load_13 : decode cX5_load 13 = .ok (.aload_n 0, 1) := by decide +kernel
theorem dX5_load_14 : decode cX5_load 14 = .ok (.getfield 10, 3) := by decide +kernel
theorem dX5_load_17 : decode cX5_load 17 = .ok (.invokevirtual 172, 3) := by decide +kernel
theorem dX5_load_20 : decode cX5_load 20 = .ok (.if_icmp .lt 6, 3) := by decide +kernel
theorem dX5_load_23 : decode cX5_load 23 = .ok (.ldc 66, 2) := by decide +kernel
theorem dX5_load_25 : decode cX5_load 25 = .ok (.ireturn, 1) := by decide +kernel
theorem dX5_load_26 : decode cX5_load 26 = .ok (.aload_n 0, 1) := by decide +kernel
theorem dX5_load_27 : decode cX5_load 27 = .ok (.invokevirtual 107, 3) := by decide +kernel
theorem dX5_load_30 : decode cX5_load 30 = .ok (.ifCond .ne 6, 3) := by decide +kernel
theorem dX5_load_33 : decode cX5_load 33 = .ok (.ldc 157, 2) := by decide +kernel
theorem dX5_load_35 : decode cX5_load 35 = .ok (.ireturn, 1) := by decide +kernel
theorem dX5_load_36 : decode cX5_load 36 = .ok (.aload_n 0, 1) := by decide +kernel
theorem dX5_load_37 : decode cX5_load 37 = .ok (.getfield 19, 3) := by decide +kernel
theorem dX5_load_40 : decode cX5_load 40 = .ok (.aload_n 0, 1) := by decide +kernel
theorem dX5_load_41 : decode cX5_load 41 = .ok (.getfield 10, 3) := by decide +kernel
theorem dX5_load_44 : decode cX5_load 44 = .ok (.getfield 111, 3) := by decide +kernel
theorem dX5_load_47 : decode cX5_load 47 = .ok (.aload_n 0, 1) := by decide +kernel
theorem dX5_load_48 : decode cX5_load 48 = .ok (.getfield 10, 3) := by decide +kernel
theorem dX5_load_51 : decode cX5_load 51 = .ok (.getfield 104, 3) := by decide +kernel
theorem dX5_load_54 : decode cX5_load 54 = .ok (.iload_n 1, 1) := by decide +kernel
theorem dX5_load_55 : decode cX5_load 55 = .ok (.iload_n 2, 1) := by decide +kernel
theorem dX5_load_56 : decode cX5_load 56 = .ok (.invokevirtual 176, 3) := by decide +kernel
theorem dX5_load_59 : decode cX5_load 59 = .ok (.ireturn, 1) := by decide +kernel
theorem dX5_peak_0 : decode cX5_peak 0 = .ok (.aload_n 0, 1) := by decide +kernel
theorem dX5_peak_1 : decode cX5_peak 1 = .ok (.iload_n 1, 1) := by decide +kernel
theorem dX5_peak_2 : decode cX5_peak 2 = .ok (.invokevirtual 169, 3) := by decide +kernel
theorem dX5_peak_5 : decode cX5_peak 5 = .ok (.ifCond .eq 6, 3) := by decide +kernel
theorem dX5_peak_8 : decode cX5_peak 8 = .ok (.ldc 66, 2) := by decide +kernel
theorem dX5_peak_10 : decode cX5_peak 10 = .ok (.ireturn, 1) := by decide +kernel
theorem dX5_peak_11 : decode cX5_peak 11 = .ok (.aload_n 0, 1) := by decide +kernel
theorem dX5_peak_12 : decode cX5_peak 12 = .ok (.invokevirtual 107, 3) := by decide +kernel
theorem dX5_peak_15 : decode cX5_peak 15 = .ok (.ifCond .ne 6, 3) := by decide +kernel
theorem dX5_peak_18 : decode cX5_peak 18 = .ok (.ldc 157, 2) := by decide +kernel
theorem dX5_peak_20 : decode cX5_peak 20 = .ok (.ireturn, 1) := by decide +kernel
theorem dX5_peak_21 : decode cX5_peak 21 = .ok (.aload_n 0, 1) := by decide +kernel
theorem dX5_peak_22 : decode cX5_peak 22 = .ok (.getfield 19, 3) := by decide +kernel
theorem dX5_peak_25 : decode cX5_peak 25 = .ok (.aload_n 0, 1) := by decide +kernel
theorem dX5_peak_26 : decode cX5_peak 26 = .ok (.getfield 10, 3) := by decide +kernel
theorem dX5_peak_29 : decode cX5_peak 29 = .ok (.getfield 111, 3) := by decide +kernel
theorem dX5_peak_32 : decode cX5_peak 32 = .ok (.aload_n 0, 1) := by decide +kernel
theorem dX5_peak_33 : decode cX5_peak 33 = .ok (.getfield 10, 3) := by decide +kernel
theorem dX5_peak_36 : decode cX5_peak 36 = .ok (.getfield 104, 3) := by decide +kernel
theorem dX5_peak_39 : decode cX5_peak 39 = .ok (.iload_n 1, 1) := by decide +kernel
theorem dX5_peak_40 : decode cX5_peak 40 = .ok (.invokevirtual 180, 3) := by decide +kernel
theorem dX5_peak_43 : decode cX5_peak 43 = .ok (.ireturn, 1) := by decide +kernel
theorem dX5_bestOff_0 : decode cX5_bestOff 0 = .ok (.aload_n 0, 1) := by decide +kernel
theorem dX5_bestOff_1 : decode cX5_bestOff 1 = .ok (.invokevirtual 107, 3) := by decide +kernel
theorem dX5_bestOff_4 : decode cX5_bestOff 4 = .ok (.ifCond .ne 6, 3) := by decide +kernel
theorem dX5_bestOff_7 : decode cX5_bestOff 7 = .ok (.ldc 157, 2) := by decide +kernel
theorem dX5_bestOff_9 : decode cX5_bestOff 9 = .ok (.ireturn, 1) := by decide +kernel
theorem dX5_bestOff_10 : decode cX5_bestOff 10 = .ok (.aload_n 0, 1) := by decide +kernel
theorem dX5_bestOff_11 : decode cX5_bestOff 11 = .ok (.getfield 10, 3) := by decide +kernel
theorem dX5_bestOff_14 : decode cX5_bestOff 14 = .ok (.getfield 104, 3) := by decide +kernel
theorem dX5_bestOff_17 : decode cX5_bestOff 17 = .ok (.invokestatic 161, 3) := by decide +kernel
theorem dX5_bestOff_20 : decode cX5_bestOff 20 = .ok (.iconst 2, 1) := by decide +kernel
theorem dX5_bestOff_21 : decode cX5_bestOff 21 = .ok (.if_icmp .ge 6, 3) := by decide +kernel
theorem dX5_bestOff_24 : decode cX5_bestOff 24 = .ok (.ldc 118, 2) := by decide +kernel
theorem dX5_bestOff_26 : decode cX5_bestOff 26 = .ok (.ireturn, 1) := by decide +kernel
theorem dX5_bestOff_27 : decode cX5_bestOff 27 = .ok (.ldc 118, 2) := by decide +kernel
theorem dX5_bestOff_29 : decode cX5_bestOff 29 = .ok (.istore_n 1, 1) := by decide +kernel
theorem dX5_bestOff_30 : decode cX5_bestOff 30 = .ok (.iconst 0, 1) := by decide +kernel
theorem dX5_bestOff_31 : decode cX5_bestOff 31 = .ok (.istore_n 2, 1) := by decide +kernel
theorem dX5_bestOff_32 : decode cX5_bestOff 32 = .ok (.iconst 0, 1) := by decide +kernel
theorem dX5_bestOff_33 : decode cX5_bestOff 33 = .ok (.istore_n 3, 1) := by decide +kernel
theorem dX5_bestOff_34 : decode cX5_bestOff 34 = .ok (.iload_n 3, 1) := by decide +kernel
theorem dX5_bestOff_35 : decode cX5_bestOff 35 = .ok (.aload_n 0, 1) := by decide +kernel
theorem dX5_bestOff_36 : decode cX5_bestOff 36 = .ok (.getfield 10, 3) := by decide +kernel
theorem dX5_bestOff_39 : decode cX5_bestOff 39 = .ok (.getfield 48, 3) := by decide +kernel
theorem dX5_bestOff_42 : decode cX5_bestOff 42 = .ok (.if_icmp .ge 70, 3) := by decide +kernel
theorem dX5_bestOff_45 : decode cX5_bestOff 45 = .ok (.aload_n 0, 1) := by decide +kernel
theorem dX5_bestOff_46 : decode cX5_bestOff 46 = .ok (.getfield 10, 3) := by decide +kernel
theorem dX5_bestOff_49 : decode cX5_bestOff 49 = .ok (.getfield 104, 3) := by decide +kernel
theorem dX5_bestOff_52 : decode cX5_bestOff 52 = .ok (.iload_n 3, 1) := by decide +kernel
theorem dX5_bestOff_53 : decode cX5_bestOff 53 = .ok (.ishr, 1) := by decide +kernel
theorem dX5_bestOff_54 : decode cX5_bestOff 54 = .ok (.iconst 1, 1) := by decide +kernel
theorem dX5_bestOff_55 : decode cX5_bestOff 55 = .ok (.iand, 1) := by decide +kernel
theorem dX5_bestOff_56 : decode cX5_bestOff 56 = .ok (.iconst 1, 1) := by decide +kernel
theorem dX5_bestOff_57 : decode cX5_bestOff 57 = .ok (.if_icmp .ne 49, 3) := by decide +kernel
theorem dX5_bestOff_60 : decode cX5_bestOff 60 = .ok (.aload_n 0, 1) := by decide +kernel
theorem dX5_bestOff_61 : decode cX5_bestOff 61 = .ok (.getfield 19, 3) := by decide +kernel
theorem dX5_bestOff_64 : decode cX5_bestOff 64 = .ok (.aload_n 0, 1) := by decide +kernel
theorem dX5_bestOff_65 : decode cX5_bestOff 65 = .ok (.getfield 10, 3) := by decide +kernel
theorem dX5_bestOff_68 : decode cX5_bestOff 68 = .ok (.getfield 111, 3) := by decide +kernel
theorem dX5_bestOff_71 : decode cX5_bestOff 71 = .ok (.aload_n 0, 1) := by decide +kernel
theorem dX5_bestOff_72 : decode cX5_bestOff 72 = .ok (.getfield 10, 3) := by decide +kernel
theorem dX5_bestOff_75 : decode cX5_bestOff 75 = .ok (.getfield 104, 3) := by decide +kernel
theorem dX5_bestOff_78 : decode cX5_bestOff 78 = .ok (.iconst 1, 1) := by decide +kernel
theorem dX5_bestOff_79 : decode cX5_bestOff 79 = .ok (.iload_n 3, 1) := by decide +kernel
theorem dX5_bestOff_80 : decode cX5_bestOff 80 = .ok (.ishl, 1) := by decide +kernel
theorem dX5_bestOff_81 : decode cX5_bestOff 81 = .ok (.iconst (-1), 1) := by decide +kernel
theorem dX5_bestOff_82 : decode cX5_bestOff 82 = .ok (.ixor, 1) := by decide +kernel
theorem dX5_bestOff_83 : decode cX5_bestOff 83 = .ok (.iand, 1) := by decide +kernel
theorem dX5_bestOff_84 : decode cX5_bestOff 84 = .ok (.invokevirtual 166, 3) := by decide +kernel
theorem dX5_bestOff_87 : decode cX5_bestOff 87 = .ok (.istore 4, 2) := by decide +kernel
theorem dX5_bestOff_89 : decode cX5_bestOff 89 = .ok (.iload_n 1, 1) := by decide +kernel
theorem dX5_bestOff_90 : decode cX5_bestOff 90 = .ok (.ldc 118, 2) := by decide +kernel
theorem dX5_bestOff_92 : decode cX5_bestOff 92 = .ok (.if_icmp .eq 9, 3) := by decide +kernel
theorem dX5_bestOff_95 : decode cX5_bestOff 95 = .ok (.iload 4, 2) := by decide +kernel
theorem dX5_bestOff_97 : decode cX5_bestOff 97 = .ok (.iload_n 2, 1) := by decide +kernel
theorem dX5_bestOff_98 : decode cX5_bestOff 98 = .ok (.if_icmp .ge 8, 3) := by decide +kernel
theorem dX5_bestOff_101 : decode cX5_bestOff 101 = .ok (.iload_n 3, 1) := by decide +kernel
theorem dX5_bestOff_102 : decode cX5_bestOff 102 = .ok (.istore_n 1, 1) := by decide +kernel
theorem dX5_bestOff_103 : decode cX5_bestOff 103 = .ok (.iload 4, 2) := by decide +kernel
theorem dX5_bestOff_105 : decode cX5_bestOff 105 = .ok (.istore_n 2, 1) := by decide +kernel
theorem dX5_bestOff_106 : decode cX5_bestOff 106 = .ok (.iinc 3 1, 3) := by decide +kernel
theorem dX5_bestOff_109 : decode cX5_bestOff 109 = .ok (.goto (-75), 3) := by decide +kernel
theorem dX5_bestOff_112 : decode cX5_bestOff 112 = .ok (.iload_n 1, 1) := by decide +kernel
theorem dX5_bestOff_113 : decode cX5_bestOff 113 = .ok (.ireturn, 1) := by decide +kernel
theorem dX5_save_0 : decode cX5_save 0 = .ok (.iload_n 1, 1) := by decide +kernel
theorem dX5_save_1 : decode cX5_save 1 = .ok (.ifCond .ne 22, 3) := by decide +kernel
theorem dX5_save_4 : decode cX5_save 4 = .ok (.aload_n 0, 1) := by decide +kernel
theorem dX5_save_5 : decode cX5_save 5 = .ok (.getfield 37, 3) := by decide +kernel
theorem dX5_save_8 : decode cX5_save 8 = .ok (.aload_n 0, 1) := by decide +kernel
theorem dX5_save_9 : decode cX5_save 9 = .ok (.getfield 10, 3) := by decide +kernel
theorem dX5_save_12 : decode cX5_save 12 = .ok (.invokevirtual 184, 3) := by decide +kernel
theorem dX5_save_15 : decode cX5_save 15 = .ok (.aload_n 0, 1) := by decide +kernel
theorem dX5_save_16 : decode cX5_save 16 = .ok (.iconst 1, 1) := by decide +kernel
theorem dX5_save_17 : decode cX5_save 17 = .ok (.putfield 187, 3) := by decide +kernel
theorem dX5_save_20 : decode cX5_save 20 = .ok (.goto 30, 3) := by decide +kernel
theorem dX5_save_23 : decode cX5_save 23 = .ok (.iload_n 1, 1) := by decide +kernel
theorem dX5_save_24 : decode cX5_save 24 = .ok (.iconst 1, 1) := by decide +kernel
theorem dX5_save_25 : decode cX5_save 25 = .ok (.if_icmp .ne 22, 3) := by decide +kernel
theorem dX5_save_28 : decode cX5_save 28 = .ok (.aload_n 0, 1) := by decide +kernel
theorem dX5_save_29 : decode cX5_save 29 = .ok (.getfield 40, 3) := by decide +kernel
theorem dX5_save_32 : decode cX5_save 32 = .ok (.aload_n 0, 1) := by decide +kernel
theorem dX5_save_33 : decode cX5_save 33 = .ok (.getfield 10, 3) := by decide +kernel
theorem dX5_save_36 : decode cX5_save 36 = .ok (.invokevirtual 184, 3) := by decide +kernel
theorem dX5_save_39 : decode cX5_save 39 = .ok (.aload_n 0, 1) := by decide +kernel
theorem dX5_save_40 : decode cX5_save 40 = .ok (.iconst 1, 1) := by decide +kernel
theorem dX5_save_41 : decode cX5_save 41 = .ok (.putfield 191, 3) := by decide +kernel
theorem dX5_save_44 : decode cX5_save 44 = .ok (.goto 6, 3) := by decide +kernel
theorem dX5_save_47 : decode cX5_save 47 = .ok (.ldc 66, 2) := by decide +kernel
theorem dX5_save_49 : decode cX5_save 49 = .ok (.ireturn, 1) := by decide +kernel
theorem dX5_save_50 : decode cX5_save 50 = .ok (.aload_n 0, 1) := by decide +kernel
theorem dX5_save_51 : decode cX5_save 51 = .ok (.getfield 10, 3) := by decide +kernel
theorem dX5_save_54 : decode cX5_save 54 = .ok (.getfield 48, 3) := by decide +kernel
theorem dX5_save_57 : decode cX5_save 57 = .ok (.ireturn, 1) := by decide +kernel
theorem dX5_restore_0 : decode cX5_restore 0 = .ok (.iload_n 1, 1) := by decide +kernel
theorem dX5_restore_1 : decode cX5_restore 1 = .ok (.ifCond .eq 11, 3) := by decide +kernel
theorem dX5_restore_4 : decode cX5_restore 4 = .ok (.iload_n 1, 1) := by decide +kernel
theorem dX5_restore_5 : decode cX5_restore 5 = .ok (.iconst 1, 1) := by decide +kernel
theorem dX5_restore_6 : decode cX5_restore 6 = .ok (.if_icmp .eq 6, 3) := by decide +kernel
theorem dX5_restore_9 : decode cX5_restore 9 = .ok (.ldc 66, 2) := by decide +kernel
theorem dX5_restore_11 : decode cX5_restore 11 = .ok (.ireturn, 1) := by decide +kernel
theorem dX5_restore_12 : decode cX5_restore 12 = .ok (.iload_n 1, 1) := by decide +kernel
theorem dX5_restore_13 : decode cX5_restore 13 = .ok (.ifCond .ne 13, 3) := by decide +kernel
theorem dX5_restore_16 : decode cX5_restore 16 = .ok (.aload_n 0, 1) := by decide +kernel
theorem dX5_restore_17 : decode cX5_restore 17 = .ok (.getfield 187, 3) := by decide +kernel
theorem dX5_restore_20 : decode cX5_restore 20 = .ok (.ifCond .ne 16, 3) := by decide +kernel
theorem dX5_restore_23 : decode cX5_restore 23 = .ok (.goto 10, 3) := by decide +kernel
theorem dX5_restore_26 : decode cX5_restore 26 = .ok (.aload_n 0, 1) := by decide +kernel
theorem dX5_restore_27 : decode cX5_restore 27 = .ok (.getfield 191, 3) := by decide +kernel
theorem dX5_restore_30 : decode cX5_restore 30 = .ok (.ifCond .ne 6, 3) := by decide +kernel
theorem dX5_restore_33 : decode cX5_restore 33 = .ok (.ldc 157, 2) := by decide +kernel
theorem dX5_restore_35 : decode cX5_restore 35 = .ok (.ireturn, 1) := by decide +kernel
theorem dX5_restore_36 : decode cX5_restore 36 = .ok (.aload_n 0, 1) := by decide +kernel
theorem dX5_restore_37 : decode cX5_restore 37 = .ok (.getfield 10, 3) := by decide +kernel
theorem dX5_restore_40 : decode cX5_restore 40 = .ok (.iload_n 1, 1) := by decide +kernel
theorem dX5_restore_41 : decode cX5_restore 41 = .ok (.ifCond .ne 10, 3) := by decide +kernel
theorem dX5_restore_44 : decode cX5_restore 44 = .ok (.aload_n 0, 1) := by decide +kernel
theorem dX5_restore_45 : decode cX5_restore 45 = .ok (.getfield 37, 3) := by decide +kernel
theorem dX5_restore_48 : decode cX5_restore 48 = .ok (.goto 7, 3) := by decide +kernel
theorem dX5_restore_51 : decode cX5_restore 51 = .ok (.aload_n 0, 1) := by decide +kernel
theorem dX5_restore_52 : decode cX5_restore 52 = .ok (.getfield 40, 3) := by decide +kernel
theorem dX5_restore_55 : decode cX5_restore 55 = .ok (.invokevirtual 184, 3) := by decide +kernel
theorem dX5_restore_58 : decode cX5_restore 58 = .ok (.aload_n 0, 1) := by decide +kernel
theorem dX5_restore_59 : decode cX5_restore 59 = .ok (.getfield 19, 3) := by decide +kernel
theorem dX5_restore_62 : decode cX5_restore 62 = .ok (.aload_n 0, 1) := by decide +kernel
theorem dX5_restore_63 : decode cX5_restore 63 = .ok (.getfield 10, 3) := by decide +kernel
theorem dX5_restore_66 : decode cX5_restore 66 = .ok (.invokevirtual 43, 3) := by decide +kernel
theorem dX5_restore_69 : decode cX5_restore 69 = .ok (.aload_n 0, 1) := by decide +kernel
theorem dX5_restore_70 : decode cX5_restore 70 = .ok (.getfield 10, 3) := by decide +kernel
theorem dX5_restore_73 : decode cX5_restore 73 = .ok (.getfield 48, 3) := by decide +kernel
theorem dX5_restore_76 : decode cX5_restore 76 = .ok (.ireturn, 1) := by decide +kernel
theorem dX5_checksum_0 : decode cX5_checksum 0 = .ok (.ldc2_w 194, 3) := by decide +kernel
theorem dX5_checksum_3 : decode cX5_checksum 3 = .ok (.aload_n 0, 1) := by decide +kernel
theorem dX5_checksum_4 : decode cX5_checksum 4 = .ok (.getfield 10, 3) := by decide +kernel
theorem dX5_checksum_7 : decode cX5_checksum 7 = .ok (.getfield 48, 3) := by decide +kernel
theorem dX5_checksum_10 : decode cX5_checksum 10 = .ok (.i2l, 1) := by decide +kernel
theorem dX5_checksum_11 : decode cX5_checksum 11 = .ok (.invokestatic 196, 3) := by decide +kernel
theorem dX5_checksum_14 : decode cX5_checksum 14 = .ok (.lstore_n 1, 1) := by decide +kernel
theorem dX5_checksum_15 : decode cX5_checksum 15 = .ok (.iconst 0, 1) := by decide +kernel
theorem dX5_checksum_16 : decode cX5_checksum 16 = .ok (.istore_n 3, 1) := by decide +kernel
theorem dX5_checksum_17 : decode cX5_checksum 17 = .ok (.iload_n 3, 1) := by decide +kernel
theorem dX5_checksum_18 : decode cX5_checksum 18 = .ok (.aload_n 0, 1) := by decide +kernel
theorem dX5_checksum_19 : decode cX5_checksum 19 = .ok (.getfield 10, 3) := by decide +kernel
theorem dX5_checksum_22 : decode cX5_checksum 22 = .ok (.getfield 48, 3) := by decide +kernel
theorem dX5_checksum_25 : decode cX5_checksum 25 = .ok (.if_icmp .ge 37, 3) := by decide +kernel
theorem dX5_checksum_28 : decode cX5_checksum 28 = .ok (.iconst 0, 1) := by decide +kernel
theorem dX5_checksum_29 : decode cX5_checksum 29 = .ok (.istore 4, 2) := by decide +kernel
theorem dX5_checksum_31 : decode cX5_checksum 31 = .ok (.iload 4, 2) := by decide +kernel
theorem dX5_checksum_33 : decode cX5_checksum 33 = .ok (.iconst 4, 1) := by decide +kernel
theorem dX5_checksum_34 : decode cX5_checksum 34 = .ok (.if_icmp .gt 22, 3) := by decide +kernel
theorem dX5_checksum_37 : decode cX5_checksum 37 = .ok (.lload_n 1, 1) := by decide +kernel
theorem dX5_checksum_38 : decode cX5_checksum 38 = .ok (.aload_n 0, 1) := by decide +kernel
theorem dX5_checksum_39 : decode cX5_checksum 39 = .ok (.iload_n 3, 1) := by decide +kernel
theorem dX5_checksum_40 : decode cX5_checksum 40 = .ok (.iload 4, 2) := by decide +kernel
theorem dX5_checksum_42 : decode cX5_checksum 42 = .ok (.invokevirtual 200, 3) := by decide +kernel
theorem dX5_checksum_45 : decode cX5_checksum 45 = .ok (.i2l, 1) := by decide +kernel
theorem dX5_checksum_46 : decode cX5_checksum 46 = .ok (.invokestatic 196, 3) := by decide +kernel
theorem dX5_checksum_49 : decode cX5_checksum 49 = .ok (.lstore_n 1, 1) := by decide +kernel
theorem dX5_checksum_50 : decode cX5_checksum 50 = .ok (.iinc 4 1, 3) := by decide +kernel
theorem dX5_checksum_53 : decode cX5_checksum 53 = .ok (.goto (-22), 3) := by decide +kernel
theorem dX5_checksum_56 : decode cX5_checksum 56 = .ok (.iinc 3 1, 3) := by decide +kernel
theorem dX5_checksum_59 : decode cX5_checksum 59 = .ok (.goto (-42), 3) := by decide +kernel
theorem dX5_checksum_62 : decode cX5_checksum 62 = .ok (.iconst 0, 1) := by decide +kernel
theorem dX5_checksum_63 : decode cX5_checksum 63 = .ok (.istore_n 3, 1) := by decide +kernel
theorem dX5_checksum_64 : decode cX5_checksum 64 = .ok (.iload_n 3, 1) := by decide +kernel
theorem dX5_checksum_65 : decode cX5_checksum 65 = .ok (.aload_n 0, 1) := by decide +kernel
theorem dX5_checksum_66 : decode cX5_checksum 66 = .ok (.getfield 10, 3) := by decide +kernel
theorem dX5_checksum_69 : decode cX5_checksum 69 = .ok (.getfield 83, 3) := by decide +kernel
theorem dX5_checksum_72 : decode cX5_checksum 72 = .ok (.getfield 93, 3) := by decide +kernel
theorem dX5_checksum_75 : decode cX5_checksum 75 = .ok (.if_icmp .ge 37, 3) := by decide +kernel
theorem dX5_checksum_78 : decode cX5_checksum 78 = .ok (.iconst 0, 1) := by decide +kernel
theorem dX5_checksum_79 : decode cX5_checksum 79 = .ok (.istore 4, 2) := by decide +kernel
theorem dX5_checksum_81 : decode cX5_checksum 81 = .ok (.iload 4, 2) := by decide +kernel
theorem dX5_checksum_83 : decode cX5_checksum 83 = .ok (.iconst 2, 1) := by decide +kernel
theorem dX5_checksum_84 : decode cX5_checksum 84 = .ok (.if_icmp .gt 22, 3) := by decide +kernel
theorem dX5_checksum_87 : decode cX5_checksum 87 = .ok (.lload_n 1, 1) := by decide +kernel
theorem dX5_checksum_88 : decode cX5_checksum 88 = .ok (.aload_n 0, 1) := by decide +kernel
theorem dX5_checksum_89 : decode cX5_checksum 89 = .ok (.iload_n 3, 1) := by decide +kernel
theorem dX5_checksum_90 : decode cX5_checksum 90 = .ok (.iload 4, 2) := by decide +kernel
theorem dX5_checksum_92 : decode cX5_checksum 92 = .ok (.invokevirtual 203, 3) := by decide +kernel
theorem dX5_checksum_95 : decode cX5_checksum 95 = .ok (.i2l, 1) := by decide +kernel
theorem dX5_checksum_96 : decode cX5_checksum 96 = .ok (.invokestatic 196, 3) := by decide +kernel
theorem dX5_checksum_99 : decode cX5_checksum 99 = .ok (.lstore_n 1, 1) := by decide +kernel
theorem dX5_checksum_100 : decode cX5_checksum 100 = .ok (.iinc 4 1, 3) := by decide +kernel
theorem dX5_checksum_103 : decode cX5_checksum 103 = .ok (.goto (-22), 3) := by decide +kernel
theorem dX5_checksum_106 : decode cX5_checksum 106 = .ok (.iinc 3 1, 3) := by decide +kernel
theorem dX5_checksum_109 : decode cX5_checksum 109 = .ok (.goto (-45), 3) := by decide +kernel
theorem dX5_checksum_112 : decode cX5_checksum 112 = .ok (.aload_n 0, 1) := by decide +kernel
theorem dX5_checksum_113 : decode cX5_checksum 113 = .ok (.lload_n 1, 1) := by decide +kernel
theorem dX5_checksum_114 : decode cX5_checksum 114 = .ok (.invokevirtual 206, 3) := by decide +kernel
theorem dX5_checksum_117 : decode cX5_checksum 117 = .ok (.lstore_n 1, 1) := by decide +kernel
theorem dX5_checksum_118 : decode cX5_checksum 118 = .ok (.lload_n 1, 1) := by decide +kernel
theorem dX5_checksum_119 : decode cX5_checksum 119 = .ok (.aload_n 0, 1) := by decide +kernel
theorem dX5_checksum_120 : decode cX5_checksum 120 = .ok (.invokevirtual 210, 3) := by decide +kernel
theorem dX5_checksum_123 : decode cX5_checksum 123 = .ok (.i2l, 1) := by decide +kernel
theorem dX5_checksum_124 : decode cX5_checksum 124 = .ok (.invokestatic 196, 3) := by decide +kernel
theorem dX5_checksum_127 : decode cX5_checksum 127 = .ok (.lstore_n 1, 1) := by decide +kernel
theorem dX5_checksum_128 : decode cX5_checksum 128 = .ok (.lload_n 1, 1) := by decide +kernel
theorem dX5_checksum_129 : decode cX5_checksum 129 = .ok (.aload_n 0, 1) := by decide +kernel
theorem dX5_checksum_130 : decode cX5_checksum 130 = .ok (.invokevirtual 213, 3) := by decide +kernel
theorem dX5_checksum_133 : decode cX5_checksum 133 = .ok (.i2l, 1) := by decide +kernel
theorem dX5_checksum_134 : decode cX5_checksum 134 = .ok (.invokestatic 196, 3) := by decide +kernel
theorem dX5_checksum_137 : decode cX5_checksum 137 = .ok (.lstore_n 1, 1) := by decide +kernel
theorem dX5_checksum_138 : decode cX5_checksum 138 = .ok (.aload_n 0, 1) := by decide +kernel
theorem dX5_checksum_139 : decode cX5_checksum 139 = .ok (.invokevirtual 107, 3) := by decide +kernel
theorem dX5_checksum_142 : decode cX5_checksum 142 = .ok (.ifCond .eq 11, 3) := by decide +kernel
theorem dX5_checksum_145 : decode cX5_checksum 145 = .ok (.aload_n 0, 1) := by decide +kernel
theorem dX5_checksum_146 : decode cX5_checksum 146 = .ok (.lload_n 1, 1) := by decide +kernel
theorem dX5_checksum_147 : decode cX5_checksum 147 = .ok (.invokevirtual 216, 3) := by decide +kernel
theorem dX5_checksum_150 : decode cX5_checksum 150 = .ok (.goto 4, 3) := by decide +kernel
theorem dX5_checksum_153 : decode cX5_checksum 153 = .ok (.lload_n 1, 1) := by decide +kernel
theorem dX5_checksum_154 : decode cX5_checksum 154 = .ok (.lreturn, 1) := by decide +kernel
theorem dX5_mixBalance_0 : decode cX5_mixBalance 0 = .ok (.lload_n 1, 1) := by decide +kernel
theorem dX5_mixBalance_1 : decode cX5_mixBalance 1 = .ok (.lstore_n 3, 1) := by decide +kernel
theorem dX5_mixBalance_2 : decode cX5_mixBalance 2 = .ok (.iconst 0, 1) := by decide +kernel
theorem dX5_mixBalance_3 : decode cX5_mixBalance 3 = .ok (.istore 5, 2) := by decide +kernel
theorem dX5_mixBalance_5 : decode cX5_mixBalance 5 = .ok (.iload 5, 2) := by decide +kernel
theorem dX5_mixBalance_7 : decode cX5_mixBalance 7 = .ok (.iconst 4, 1) := by decide +kernel
theorem dX5_mixBalance_8 : decode cX5_mixBalance 8 = .ok (.if_icmp .ge 75, 3) := by decide +kernel
theorem dX5_mixBalance_11 : decode cX5_mixBalance 11 = .ok (.aload_n 0, 1) := by decide +kernel
theorem dX5_mixBalance_12 : decode cX5_mixBalance 12 = .ok (.iload 5, 2) := by decide +kernel
theorem dX5_mixBalance_14 : decode cX5_mixBalance 14 = .ok (.invokevirtual 119, 3) := by decide +kernel
theorem dX5_mixBalance_17 : decode cX5_mixBalance 17 = .ok (.lload_n 3, 1) := by decide +kernel
theorem dX5_mixBalance_18 : decode cX5_mixBalance 18 = .ok (.aload_n 0, 1) := by decide +kernel
theorem dX5_mixBalance_19 : decode cX5_mixBalance 19 = .ok (.getfield 26, 3) := by decide +kernel
theorem dX5_mixBalance_22 : decode cX5_mixBalance 22 = .ok (.iconst 0, 1) := by decide +kernel
theorem dX5_mixBalance_23 : decode cX5_mixBalance 23 = .ok (.iconst 0, 1) := by decide +kernel
theorem dX5_mixBalance_24 : decode cX5_mixBalance 24 = .ok (.invokevirtual 122, 3) := by decide +kernel
theorem dX5_mixBalance_27 : decode cX5_mixBalance 27 = .ok (.i2l, 1) := by decide +kernel
theorem dX5_mixBalance_28 : decode cX5_mixBalance 28 = .ok (.invokestatic 196, 3) := by decide +kernel
theorem dX5_mixBalance_31 : decode cX5_mixBalance 31 = .ok (.lstore_n 3, 1) := by decide +kernel
theorem dX5_mixBalance_32 : decode cX5_mixBalance 32 = .ok (.lload_n 3, 1) := by decide +kernel
theorem dX5_mixBalance_33 : decode cX5_mixBalance 33 = .ok (.aload_n 0, 1) := by decide +kernel
theorem dX5_mixBalance_34 : decode cX5_mixBalance 34 = .ok (.getfield 26, 3) := by decide +kernel
theorem dX5_mixBalance_37 : decode cX5_mixBalance 37 = .ok (.iconst 0, 1) := by decide +kernel
theorem dX5_mixBalance_38 : decode cX5_mixBalance 38 = .ok (.iconst 1, 1) := by decide +kernel
theorem dX5_mixBalance_39 : decode cX5_mixBalance 39 = .ok (.invokevirtual 122, 3) := by decide +kernel
theorem dX5_mixBalance_42 : decode cX5_mixBalance 42 = .ok (.i2l, 1) := by decide +kernel
theorem dX5_mixBalance_43 : decode cX5_mixBalance 43 = .ok (.invokestatic 196, 3) := by decide +kernel
theorem dX5_mixBalance_46 : decode cX5_mixBalance 46 = .ok (.lstore_n 3, 1) := by decide +kernel
theorem dX5_mixBalance_47 : decode cX5_mixBalance 47 = .ok (.lload_n 3, 1) := by decide +kernel
theorem dX5_mixBalance_48 : decode cX5_mixBalance 48 = .ok (.aload_n 0, 1) := by decide +kernel
theorem dX5_mixBalance_49 : decode cX5_mixBalance 49 = .ok (.getfield 26, 3) := by decide +kernel
theorem dX5_mixBalance_52 : decode cX5_mixBalance 52 = .ok (.iconst 1, 1) := by decide +kernel
theorem dX5_mixBalance_53 : decode cX5_mixBalance 53 = .ok (.iconst 0, 1) := by decide +kernel
theorem dX5_mixBalance_54 : decode cX5_mixBalance 54 = .ok (.invokevirtual 122, 3) := by decide +kernel
theorem dX5_mixBalance_57 : decode cX5_mixBalance 57 = .ok (.i2l, 1) := by decide +kernel
theorem dX5_mixBalance_58 : decode cX5_mixBalance 58 = .ok (.invokestatic 196, 3) := by decide +kernel
theorem dX5_mixBalance_61 : decode cX5_mixBalance 61 = .ok (.lstore_n 3, 1) := by decide +kernel
theorem dX5_mixBalance_62 : decode cX5_mixBalance 62 = .ok (.lload_n 3, 1) := by decide +kernel
theorem dX5_mixBalance_63 : decode cX5_mixBalance 63 = .ok (.aload_n 0, 1) := by decide +kernel
theorem dX5_mixBalance_64 : decode cX5_mixBalance 64 = .ok (.getfield 26, 3) := by decide +kernel
theorem dX5_mixBalance_67 : decode cX5_mixBalance 67 = .ok (.iconst 1, 1) := by decide +kernel
theorem dX5_mixBalance_68 : decode cX5_mixBalance 68 = .ok (.iconst 1, 1) := by decide +kernel
theorem dX5_mixBalance_69 : decode cX5_mixBalance 69 = .ok (.invokevirtual 122, 3) := by decide +kernel
theorem dX5_mixBalance_72 : decode cX5_mixBalance 72 = .ok (.i2l, 1) := by decide +kernel
theorem dX5_mixBalance_73 : decode cX5_mixBalance 73 = .ok (.invokestatic 196, 3) := by decide +kernel
theorem dX5_mixBalance_76 : decode cX5_mixBalance 76 = .ok (.lstore_n 3, 1) := by decide +kernel
theorem dX5_mixBalance_77 : decode cX5_mixBalance 77 = .ok (.iinc 5 1, 3) := by decide +kernel
theorem dX5_mixBalance_80 : decode cX5_mixBalance 80 = .ok (.goto (-75), 3) := by decide +kernel
theorem dX5_mixBalance_83 : decode cX5_mixBalance 83 = .ok (.lload_n 3, 1) := by decide +kernel
theorem dX5_mixBalance_84 : decode cX5_mixBalance 84 = .ok (.aload_n 0, 1) := by decide +kernel
theorem dX5_mixBalance_85 : decode cX5_mixBalance 85 = .ok (.invokevirtual 219, 3) := by decide +kernel
theorem dX5_mixBalance_88 : decode cX5_mixBalance 88 = .ok (.i2l, 1) := by decide +kernel
theorem dX5_mixBalance_89 : decode cX5_mixBalance 89 = .ok (.invokestatic 196, 3) := by decide +kernel
theorem dX5_mixBalance_92 : decode cX5_mixBalance 92 = .ok (.lstore_n 3, 1) := by decide +kernel
theorem dX5_mixBalance_93 : decode cX5_mixBalance 93 = .ok (.lload_n 3, 1) := by decide +kernel
theorem dX5_mixBalance_94 : decode cX5_mixBalance 94 = .ok (.aload_n 0, 1) := by decide +kernel
theorem dX5_mixBalance_95 : decode cX5_mixBalance 95 = .ok (.invokevirtual 222, 3) := by decide +kernel
theorem dX5_mixBalance_98 : decode cX5_mixBalance 98 = .ok (.i2l, 1) := by decide +kernel
theorem dX5_mixBalance_99 : decode cX5_mixBalance 99 = .ok (.invokestatic 196, 3) := by decide +kernel
theorem dX5_mixBalance_102 : decode cX5_mixBalance 102 = .ok (.lstore_n 3, 1) := by decide +kernel
theorem dX5_mixBalance_103 : decode cX5_mixBalance 103 = .ok (.lload_n 3, 1) := by decide +kernel
theorem dX5_mixBalance_104 : decode cX5_mixBalance 104 = .ok (.aload_n 0, 1) := by decide +kernel
theorem dX5_mixBalance_105 : decode cX5_mixBalance 105 = .ok (.invokevirtual 225, 3) := by decide +kernel
theorem dX5_mixBalance_108 : decode cX5_mixBalance 108 = .ok (.i2l, 1) := by decide +kernel
theorem dX5_mixBalance_109 : decode cX5_mixBalance 109 = .ok (.invokestatic 196, 3) := by decide +kernel
theorem dX5_mixBalance_112 : decode cX5_mixBalance 112 = .ok (.lreturn, 1) := by decide +kernel
theorem dX5_mixChosen_0 : decode cX5_mixChosen 0 = .ok (.lload_n 1, 1) := by decide +kernel
theorem dX5_mixChosen_1 : decode cX5_mixChosen 1 = .ok (.aload_n 0, 1) := by decide +kernel
theorem dX5_mixChosen_2 : decode cX5_mixChosen 2 = .ok (.invokevirtual 228, 3) := by decide +kernel
theorem dX5_mixChosen_5 : decode cX5_mixChosen 5 = .ok (.i2l, 1) := by decide +kernel
theorem dX5_mixChosen_6 : decode cX5_mixChosen 6 = .ok (.invokestatic 196, 3) := by decide +kernel
theorem dX5_mixChosen_9 : decode cX5_mixChosen 9 = .ok (.lstore_n 3, 1) := by decide +kernel
theorem dX5_mixChosen_10 : decode cX5_mixChosen 10 = .ok (.lload_n 3, 1) := by decide +kernel
theorem dX5_mixChosen_11 : decode cX5_mixChosen 11 = .ok (.aload_n 0, 1) := by decide +kernel
theorem dX5_mixChosen_12 : decode cX5_mixChosen 12 = .ok (.invokevirtual 231, 3) := by decide +kernel
theorem dX5_mixChosen_15 : decode cX5_mixChosen 15 = .ok (.i2l, 1) := by decide +kernel
theorem dX5_mixChosen_16 : decode cX5_mixChosen 16 = .ok (.invokestatic 196, 3) := by decide +kernel
theorem dX5_mixChosen_19 : decode cX5_mixChosen 19 = .ok (.lstore_n 3, 1) := by decide +kernel
theorem dX5_mixChosen_20 : decode cX5_mixChosen 20 = .ok (.iconst 0, 1) := by decide +kernel
theorem dX5_mixChosen_21 : decode cX5_mixChosen 21 = .ok (.istore 5, 2) := by decide +kernel
theorem dX5_mixChosen_23 : decode cX5_mixChosen 23 = .ok (.iload 5, 2) := by decide +kernel
theorem dX5_mixChosen_25 : decode cX5_mixChosen 25 = .ok (.aload_n 0, 1) := by decide +kernel
theorem dX5_mixChosen_26 : decode cX5_mixChosen 26 = .ok (.getfield 10, 3) := by decide +kernel
theorem dX5_mixChosen_29 : decode cX5_mixChosen 29 = .ok (.getfield 48, 3) := by decide +kernel
theorem dX5_mixChosen_32 : decode cX5_mixChosen 32 = .ok (.if_icmp .gt 21, 3) := by decide +kernel
theorem dX5_mixChosen_35 : decode cX5_mixChosen 35 = .ok (.lload_n 3, 1) := by decide +kernel
theorem dX5_mixChosen_36 : decode cX5_mixChosen 36 = .ok (.aload_n 0, 1) := by decide +kernel
theorem dX5_mixChosen_37 : decode cX5_mixChosen 37 = .ok (.iload 5, 2) := by decide +kernel
theorem dX5_mixChosen_39 : decode cX5_mixChosen 39 = .ok (.invokevirtual 234, 3) := by decide +kernel
theorem dX5_mixChosen_42 : decode cX5_mixChosen 42 = .ok (.i2l, 1) := by decide +kernel
theorem dX5_mixChosen_43 : decode cX5_mixChosen 43 = .ok (.invokestatic 196, 3) := by decide +kernel
theorem dX5_mixChosen_46 : decode cX5_mixChosen 46 = .ok (.lstore_n 3, 1) := by decide +kernel
theorem dX5_mixChosen_47 : decode cX5_mixChosen 47 = .ok (.iinc 5 1, 3) := by decide +kernel
theorem dX5_mixChosen_50 : decode cX5_mixChosen 50 = .ok (.goto (-27), 3) := by decide +kernel
theorem dX5_mixChosen_53 : decode cX5_mixChosen 53 = .ok (.lload_n 3, 1) := by decide +kernel
theorem dX5_mixChosen_54 : decode cX5_mixChosen 54 = .ok (.lreturn, 1) := by decide +kernel
theorem dX5_mix_0 : decode cX5_mix 0 = .ok (.ldc2_w 237, 3) := by decide +kernel
theorem dX5_mix_3 : decode cX5_mix 3 = .ok (.lload_n 0, 1) := by decide +kernel
theorem dX5_mix_4 : decode cX5_mix 4 = .ok (.lmul, 1) := by decide +kernel
theorem dX5_mix_5 : decode cX5_mix 5 = .ok (.lload_n 2, 1) := by decide +kernel
theorem dX5_mix_6 : decode cX5_mix 6 = .ok (.ladd, 1) := by decide +kernel
theorem dX5_mix_7 : decode cX5_mix 7 = .ok (.lreturn, 1) := by decide +kernel
theorem dX5_isNoCylinder_0 : decode cX5_isNoCylinder 0 = .ok (.iload_n 1, 1) := by decide +kernel
theorem dX5_isNoCylinder_1 : decode cX5_isNoCylinder 1 = .ok (.ifCond .lt 14, 3) := by decide +kernel
theorem dX5_isNoCylinder_4 : decode cX5_isNoCylinder 4 = .ok (.iload_n 1, 1) := by decide +kernel
theorem dX5_isNoCylinder_5 : decode cX5_isNoCylinder 5 = .ok (.aload_n 0, 1) := by decide +kernel
theorem dX5_isNoCylinder_6 : decode cX5_isNoCylinder 6 = .ok (.getfield 10, 3) := by decide +kernel
theorem dX5_isNoCylinder_9 : decode cX5_isNoCylinder 9 = .ok (.getfield 48, 3) := by decide +kernel
theorem dX5_isNoCylinder_12 : decode cX5_isNoCylinder 12 = .ok (.if_icmp .lt 7, 3) := by decide +kernel
theorem dX5_isNoCylinder_15 : decode cX5_isNoCylinder 15 = .ok (.iconst 1, 1) := by decide +kernel
theorem dX5_isNoCylinder_16 : decode cX5_isNoCylinder 16 = .ok (.goto 4, 3) := by decide +kernel
theorem dX5_isNoCylinder_19 : decode cX5_isNoCylinder 19 = .ok (.iconst 0, 1) := by decide +kernel
theorem dX5_isNoCylinder_20 : decode cX5_isNoCylinder 20 = .ok (.ireturn, 1) := by decide +kernel
theorem dX5_isNoBearing_0 : decode cX5_isNoBearing 0 = .ok (.iload_n 1, 1) := by decide +kernel
theorem dX5_isNoBearing_1 : decode cX5_isNoBearing 1 = .ok (.ifCond .lt 14, 3) := by decide +kernel
theorem dX5_isNoBearing_4 : decode cX5_isNoBearing 4 = .ok (.iload_n 1, 1) := by decide +kernel
theorem dX5_isNoBearing_5 : decode cX5_isNoBearing 5 = .ok (.aload_n 0, 1) := by decide +kernel
theorem dX5_isNoBearing_6 : decode cX5_isNoBearing 6 = .ok (.getfield 10, 3) := by decide +kernel
theorem dX5_isNoBearing_9 : decode cX5_isNoBearing 9 = .ok (.getfield 48, 3) := by decide +kernel
theorem dX5_isNoBearing_12 : decode cX5_isNoBearing 12 = .ok (.if_icmp .le 7, 3) := by decide +kernel
theorem dX5_isNoBearing_15 : decode cX5_isNoBearing 15 = .ok (.iconst 1, 1) := by decide +kernel
theorem dX5_isNoBearing_16 : decode cX5_isNoBearing 16 = .ok (.goto 4, 3) := by decide +kernel
theorem dX5_isNoBearing_19 : decode cX5_isNoBearing 19 = .ok (.iconst 0, 1) := by decide +kernel
theorem dX5_isNoBearing_20 : decode cX5_isNoBearing 20 = .ok (.ireturn, 1) := by decide +kernel
theorem dX5_isNoOrder_0 : decode cX5_isNoOrder 0 = .ok (.iload_n 1, 1) := by decide +kernel
theorem dX5_isNoOrder_1 : decode cX5_isNoOrder 1 = .ok (.ifCond .lt 14, 3) := by decide +kernel
theorem dX5_isNoOrder_4 : decode cX5_isNoOrder 4 = .ok (.iload_n 1, 1) := by decide +kernel
theorem dX5_isNoOrder_5 : decode cX5_isNoOrder 5 = .ok (.aload_n 0, 1) := by decide +kernel
theorem dX5_isNoOrder_6 : decode cX5_isNoOrder 6 = .ok (.getfield 19, 3) := by decide +kernel
theorem dX5_isNoOrder_9 : decode cX5_isNoOrder 9 = .ok (.getfield 136, 3) := by decide +kernel
theorem dX5_isNoOrder_12 : decode cX5_isNoOrder 12 = .ok (.if_icmp .lt 7, 3) := by decide +kernel
theorem dX5_isNoOrder_15 : decode cX5_isNoOrder 15 = .ok (.iconst 1, 1) := by decide +kernel
theorem dX5_isNoOrder_16 : decode cX5_isNoOrder 16 = .ok (.goto 4, 3) := by decide +kernel
theorem dX5_isNoOrder_19 : decode cX5_isNoOrder 19 = .ok (.iconst 0, 1) := by decide +kernel
theorem dX5_isNoOrder_20 : decode cX5_isNoOrder 20 = .ok (.ireturn, 1) := by decide +kernel
theorem dX5_isNoTurn_0 : decode cX5_isNoTurn 0 = .ok (.iload_n 0, 1) := by decide +kernel
