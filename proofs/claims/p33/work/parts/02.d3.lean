/-! decode rows, 3 of 5 -/
theorem dX5_counterWeight_2 : decode cX5_counterWeight 2 = .ok (.invokevirtual 119, 3) := by decide +kernel
theorem dX5_counterWeight_5 : decode cX5_counterWeight 5 = .ok (.aload_n 0, 1) := by decide +kernel
theorem dX5_counterWeight_6 : decode cX5_counterWeight 6 = .ok (.getfield 26, 3) := by decide +kernel
theorem dX5_counterWeight_9 : decode cX5_counterWeight 9 = .ok (.iconst 1, 1) := by decide +kernel
theorem dX5_counterWeight_10 : decode cX5_counterWeight 10 = .ok (.invokevirtual 132, 3) := by decide +kernel
theorem dX5_counterWeight_13 : decode cX5_counterWeight 13 = .ok (.ireturn, 1) := by decide +kernel
theorem dX5_counterPair_0 : decode cX5_counterPair 0 = .ok (.iload_n 1, 1) := by decide +kernel
theorem dX5_counterPair_1 : decode cX5_counterPair 1 = .ok (.invokestatic 77, 3) := by decide +kernel
theorem dX5_counterPair_4 : decode cX5_counterPair 4 = .ok (.ifCond .ne 15, 3) := by decide +kernel
theorem dX5_counterPair_7 : decode cX5_counterPair 7 = .ok (.iload_n 2, 1) := by decide +kernel
theorem dX5_counterPair_8 : decode cX5_counterPair 8 = .ok (.invokestatic 77, 3) := by decide +kernel
theorem dX5_counterPair_11 : decode cX5_counterPair 11 = .ok (.ifCond .ne 8, 3) := by decide +kernel
theorem dX5_counterPair_14 : decode cX5_counterPair 14 = .ok (.iload_n 1, 1) := by decide +kernel
theorem dX5_counterPair_15 : decode cX5_counterPair 15 = .ok (.iload_n 2, 1) := by decide +kernel
theorem dX5_counterPair_16 : decode cX5_counterPair 16 = .ok (.if_icmp .ne 6, 3) := by decide +kernel
theorem dX5_counterPair_19 : decode cX5_counterPair 19 = .ok (.ldc 47, 2) := by decide +kernel
theorem dX5_counterPair_21 : decode cX5_counterPair 21 = .ok (.ireturn, 1) := by decide +kernel
theorem dX5_counterPair_22 : decode cX5_counterPair 22 = .ok (.aload_n 0, 1) := by decide +kernel
theorem dX5_counterPair_23 : decode cX5_counterPair 23 = .ok (.iconst 1, 1) := by decide +kernel
theorem dX5_counterPair_24 : decode cX5_counterPair 24 = .ok (.invokevirtual 119, 3) := by decide +kernel
theorem dX5_counterPair_27 : decode cX5_counterPair 27 = .ok (.aload_n 0, 1) := by decide +kernel
theorem dX5_counterPair_28 : decode cX5_counterPair 28 = .ok (.getfield 26, 3) := by decide +kernel
theorem dX5_counterPair_31 : decode cX5_counterPair 31 = .ok (.iload_n 1, 1) := by decide +kernel
theorem dX5_counterPair_32 : decode cX5_counterPair 32 = .ok (.iload_n 2, 1) := by decide +kernel
theorem dX5_counterPair_33 : decode cX5_counterPair 33 = .ok (.isub, 1) := by decide +kernel
theorem dX5_counterPair_34 : decode cX5_counterPair 34 = .ok (.invokevirtual 132, 3) := by decide +kernel
theorem dX5_counterPair_37 : decode cX5_counterPair 37 = .ok (.ireturn, 1) := by decide +kernel
theorem dX5_orders_0 : decode cX5_orders 0 = .ok (.aload_n 0, 1) := by decide +kernel
theorem dX5_orders_1 : decode cX5_orders 1 = .ok (.getfield 19, 3) := by decide +kernel
theorem dX5_orders_4 : decode cX5_orders 4 = .ok (.getfield 136, 3) := by decide +kernel
theorem dX5_orders_7 : decode cX5_orders 7 = .ok (.ireturn, 1) := by decide +kernel
theorem dX5_order_0 : decode cX5_order 0 = .ok (.aload_n 0, 1) := by decide +kernel
theorem dX5_order_1 : decode cX5_order 1 = .ok (.iload_n 1, 1) := by decide +kernel
theorem dX5_order_2 : decode cX5_order 2 = .ok (.invokevirtual 137, 3) := by decide +kernel
theorem dX5_order_5 : decode cX5_order 5 = .ok (.ifCond .ne 18, 3) := by decide +kernel
theorem dX5_order_8 : decode cX5_order 8 = .ok (.iload_n 2, 1) := by decide +kernel
theorem dX5_order_9 : decode cX5_order 9 = .ok (.ifCond .lt 14, 3) := by decide +kernel
theorem dX5_order_12 : decode cX5_order 12 = .ok (.iload_n 2, 1) := by decide +kernel
theorem dX5_order_13 : decode cX5_order 13 = .ok (.aload_n 0, 1) := by decide +kernel
theorem dX5_order_14 : decode cX5_order 14 = .ok (.getfield 10, 3) := by decide +kernel
theorem dX5_order_17 : decode cX5_order 17 = .ok (.getfield 48, 3) := by decide +kernel
theorem dX5_order_20 : decode cX5_order 20 = .ok (.if_icmp .lt 6, 3) := by decide +kernel
theorem dX5_order_23 : decode cX5_order 23 = .ok (.ldc 66, 2) := by decide +kernel
theorem dX5_order_25 : decode cX5_order 25 = .ok (.ireturn, 1) := by decide +kernel
theorem dX5_order_26 : decode cX5_order 26 = .ok (.aload_n 0, 1) := by decide +kernel
theorem dX5_order_27 : decode cX5_order 27 = .ok (.getfield 19, 3) := by decide +kernel
theorem dX5_order_30 : decode cX5_order 30 = .ok (.iload_n 1, 1) := by decide +kernel
theorem dX5_order_31 : decode cX5_order 31 = .ok (.iload_n 2, 1) := by decide +kernel
theorem dX5_order_32 : decode cX5_order 32 = .ok (.invokevirtual 140, 3) := by decide +kernel
theorem dX5_order_35 : decode cX5_order 35 = .ok (.ireturn, 1) := by decide +kernel
theorem dX5_orderCost_0 : decode cX5_orderCost 0 = .ok (.aload_n 0, 1) := by decide +kernel
theorem dX5_orderCost_1 : decode cX5_orderCost 1 = .ok (.iload_n 1, 1) := by decide +kernel
theorem dX5_orderCost_2 : decode cX5_orderCost 2 = .ok (.invokevirtual 137, 3) := by decide +kernel
theorem dX5_orderCost_5 : decode cX5_orderCost 5 = .ok (.ifCond .eq 6, 3) := by decide +kernel
theorem dX5_orderCost_8 : decode cX5_orderCost 8 = .ok (.ldc 66, 2) := by decide +kernel
theorem dX5_orderCost_10 : decode cX5_orderCost 10 = .ok (.ireturn, 1) := by decide +kernel
theorem dX5_orderCost_11 : decode cX5_orderCost 11 = .ok (.iload_n 2, 1) := by decide +kernel
theorem dX5_orderCost_12 : decode cX5_orderCost 12 = .ok (.lookupswitch 46 #[(0, 28), (1, 37)], 28) := by decide +kernel
theorem dX5_orderCost_40 : decode cX5_orderCost 40 = .ok (.aload_n 0, 1) := by decide +kernel
theorem dX5_orderCost_41 : decode cX5_orderCost 41 = .ok (.getfield 19, 3) := by decide +kernel
theorem dX5_orderCost_44 : decode cX5_orderCost 44 = .ok (.iload_n 1, 1) := by decide +kernel
theorem dX5_orderCost_45 : decode cX5_orderCost 45 = .ok (.invokevirtual 143, 3) := by decide +kernel
theorem dX5_orderCost_48 : decode cX5_orderCost 48 = .ok (.ireturn, 1) := by decide +kernel
theorem dX5_orderCost_49 : decode cX5_orderCost 49 = .ok (.aload_n 0, 1) := by decide +kernel
theorem dX5_orderCost_50 : decode cX5_orderCost 50 = .ok (.getfield 19, 3) := by decide +kernel
theorem dX5_orderCost_53 : decode cX5_orderCost 53 = .ok (.iload_n 1, 1) := by decide +kernel
theorem dX5_orderCost_54 : decode cX5_orderCost 54 = .ok (.invokevirtual 146, 3) := by decide +kernel
theorem dX5_orderCost_57 : decode cX5_orderCost 57 = .ok (.ireturn, 1) := by decide +kernel
theorem dX5_orderCost_58 : decode cX5_orderCost 58 = .ok (.ldc 47, 2) := by decide +kernel
theorem dX5_orderCost_60 : decode cX5_orderCost 60 = .ok (.ireturn, 1) := by decide +kernel
theorem dX5_bestOrder_0 : decode cX5_bestOrder 0 = .ok (.ldc 118, 2) := by decide +kernel
theorem dX5_bestOrder_2 : decode cX5_bestOrder 2 = .ok (.istore_n 1, 1) := by decide +kernel
theorem dX5_bestOrder_3 : decode cX5_bestOrder 3 = .ok (.iconst 0, 1) := by decide +kernel
theorem dX5_bestOrder_4 : decode cX5_bestOrder 4 = .ok (.istore_n 2, 1) := by decide +kernel
theorem dX5_bestOrder_5 : decode cX5_bestOrder 5 = .ok (.iconst 0, 1) := by decide +kernel
theorem dX5_bestOrder_6 : decode cX5_bestOrder 6 = .ok (.istore_n 3, 1) := by decide +kernel
theorem dX5_bestOrder_7 : decode cX5_bestOrder 7 = .ok (.iload_n 3, 1) := by decide +kernel
theorem dX5_bestOrder_8 : decode cX5_bestOrder 8 = .ok (.aload_n 0, 1) := by decide +kernel
theorem dX5_bestOrder_9 : decode cX5_bestOrder 9 = .ok (.getfield 19, 3) := by decide +kernel
theorem dX5_bestOrder_12 : decode cX5_bestOrder 12 = .ok (.getfield 136, 3) := by decide +kernel
theorem dX5_bestOrder_15 : decode cX5_bestOrder 15 = .ok (.if_icmp .ge 48, 3) := by decide +kernel
theorem dX5_bestOrder_18 : decode cX5_bestOrder 18 = .ok (.bipush 100, 2) := by decide +kernel
theorem dX5_bestOrder_20 : decode cX5_bestOrder 20 = .ok (.aload_n 0, 1) := by decide +kernel
theorem dX5_bestOrder_21 : decode cX5_bestOrder 21 = .ok (.getfield 19, 3) := by decide +kernel
theorem dX5_bestOrder_24 : decode cX5_bestOrder 24 = .ok (.iload_n 3, 1) := by decide +kernel
theorem dX5_bestOrder_25 : decode cX5_bestOrder 25 = .ok (.invokevirtual 146, 3) := by decide +kernel
theorem dX5_bestOrder_28 : decode cX5_bestOrder 28 = .ok (.imul, 1) := by decide +kernel
theorem dX5_bestOrder_29 : decode cX5_bestOrder 29 = .ok (.aload_n 0, 1) := by decide +kernel
theorem dX5_bestOrder_30 : decode cX5_bestOrder 30 = .ok (.getfield 19, 3) := by decide +kernel
theorem dX5_bestOrder_33 : decode cX5_bestOrder 33 = .ok (.iload_n 3, 1) := by decide +kernel
theorem dX5_bestOrder_34 : decode cX5_bestOrder 34 = .ok (.invokevirtual 143, 3) := by decide +kernel
theorem dX5_bestOrder_37 : decode cX5_bestOrder 37 = .ok (.iadd, 1) := by decide +kernel
theorem dX5_bestOrder_38 : decode cX5_bestOrder 38 = .ok (.istore 4, 2) := by decide +kernel
theorem dX5_bestOrder_40 : decode cX5_bestOrder 40 = .ok (.iload_n 1, 1) := by decide +kernel
theorem dX5_bestOrder_41 : decode cX5_bestOrder 41 = .ok (.ldc 118, 2) := by decide +kernel
theorem dX5_bestOrder_43 : decode cX5_bestOrder 43 = .ok (.if_icmp .eq 9, 3) := by decide +kernel
theorem dX5_bestOrder_46 : decode cX5_bestOrder 46 = .ok (.iload 4, 2) := by decide +kernel
theorem dX5_bestOrder_48 : decode cX5_bestOrder 48 = .ok (.iload_n 2, 1) := by decide +kernel
theorem dX5_bestOrder_49 : decode cX5_bestOrder 49 = .ok (.if_icmp .ge 8, 3) := by decide +kernel
theorem dX5_bestOrder_52 : decode cX5_bestOrder 52 = .ok (.iload_n 3, 1) := by decide +kernel
theorem dX5_bestOrder_53 : decode cX5_bestOrder 53 = .ok (.istore_n 1, 1) := by decide +kernel
theorem dX5_bestOrder_54 : decode cX5_bestOrder 54 = .ok (.iload 4, 2) := by decide +kernel
theorem dX5_bestOrder_56 : decode cX5_bestOrder 56 = .ok (.istore_n 2, 1) := by decide +kernel
theorem dX5_bestOrder_57 : decode cX5_bestOrder 57 = .ok (.iinc 3 1, 3) := by decide +kernel
theorem dX5_bestOrder_60 : decode cX5_bestOrder 60 = .ok (.goto (-53), 3) := by decide +kernel
theorem dX5_bestOrder_63 : decode cX5_bestOrder 63 = .ok (.iload_n 1, 1) := by decide +kernel
theorem dX5_bestOrder_64 : decode cX5_bestOrder 64 = .ok (.ireturn, 1) := by decide +kernel
theorem dX5_choose_0 : decode cX5_choose 0 = .ok (.aload_n 0, 1) := by decide +kernel
theorem dX5_choose_1 : decode cX5_choose 1 = .ok (.iload_n 1, 1) := by decide +kernel
theorem dX5_choose_2 : decode cX5_choose 2 = .ok (.invokevirtual 137, 3) := by decide +kernel
theorem dX5_choose_5 : decode cX5_choose 5 = .ok (.ifCond .eq 6, 3) := by decide +kernel
theorem dX5_choose_8 : decode cX5_choose 8 = .ok (.ldc 66, 2) := by decide +kernel
theorem dX5_choose_10 : decode cX5_choose 10 = .ok (.ireturn, 1) := by decide +kernel
theorem dX5_choose_11 : decode cX5_choose 11 = .ok (.aload_n 0, 1) := by decide +kernel
theorem dX5_choose_12 : decode cX5_choose 12 = .ok (.getfield 10, 3) := by decide +kernel
theorem dX5_choose_15 : decode cX5_choose 15 = .ok (.iload_n 1, 1) := by decide +kernel
theorem dX5_choose_16 : decode cX5_choose 16 = .ok (.putfield 111, 3) := by decide +kernel
theorem dX5_choose_19 : decode cX5_choose 19 = .ok (.aload_n 0, 1) := by decide +kernel
theorem dX5_choose_20 : decode cX5_choose 20 = .ok (.getfield 19, 3) := by decide +kernel
theorem dX5_choose_23 : decode cX5_choose 23 = .ok (.iload_n 1, 1) := by decide +kernel
theorem dX5_choose_24 : decode cX5_choose 24 = .ok (.iconst 0, 1) := by decide +kernel
theorem dX5_choose_25 : decode cX5_choose 25 = .ok (.invokevirtual 114, 3) := by decide +kernel
theorem dX5_choose_28 : decode cX5_choose 28 = .ok (.ireturn, 1) := by decide +kernel
theorem dX5_append_0 : decode cX5_append 0 = .ok (.iload_n 1, 1) := by decide +kernel
theorem dX5_append_1 : decode cX5_append 1 = .ok (.ifCond .lt 9, 3) := by decide +kernel
theorem dX5_append_4 : decode cX5_append 4 = .ok (.iload_n 1, 1) := by decide +kernel
theorem dX5_append_5 : decode cX5_append 5 = .ok (.bipush 127, 2) := by decide +kernel
theorem dX5_append_7 : decode cX5_append 7 = .ok (.if_icmp .le 6, 3) := by decide +kernel
theorem dX5_append_10 : decode cX5_append 10 = .ok (.ldc 47, 2) := by decide +kernel
theorem dX5_append_12 : decode cX5_append 12 = .ok (.ireturn, 1) := by decide +kernel
theorem dX5_append_13 : decode cX5_append 13 = .ok (.aload_n 0, 1) := by decide +kernel
theorem dX5_append_14 : decode cX5_append 14 = .ok (.getfield 33, 3) := by decide +kernel
theorem dX5_append_17 : decode cX5_append 17 = .ok (.iload_n 1, 1) := by decide +kernel
theorem dX5_append_18 : decode cX5_append 18 = .ok (.invokevirtual 149, 3) := by decide +kernel
theorem dX5_append_21 : decode cX5_append 21 = .ok (.ifCond .eq 13, 3) := by decide +kernel
theorem dX5_append_24 : decode cX5_append 24 = .ok (.aload_n 0, 1) := by decide +kernel
theorem dX5_append_25 : decode cX5_append 25 = .ok (.getfield 33, 3) := by decide +kernel
theorem dX5_append_28 : decode cX5_append 28 = .ok (.getfield 151, 3) := by decide +kernel
theorem dX5_append_31 : decode cX5_append 31 = .ok (.goto 5, 3) := by decide +kernel
theorem dX5_append_34 : decode cX5_append 34 = .ok (.ldc 100, 2) := by decide +kernel
theorem dX5_append_36 : decode cX5_append 36 = .ok (.ireturn, 1) := by decide +kernel
theorem dX5_turn_0 : decode cX5_turn 0 = .ok (.aload_n 0, 1) := by decide +kernel
theorem dX5_turn_1 : decode cX5_turn 1 = .ok (.iload_n 1, 1) := by decide +kernel
theorem dX5_turn_2 : decode cX5_turn 2 = .ok (.invokevirtual 62, 3) := by decide +kernel
theorem dX5_turn_5 : decode cX5_turn 5 = .ok (.ifCond .eq 6, 3) := by decide +kernel
theorem dX5_turn_8 : decode cX5_turn 8 = .ok (.ldc 66, 2) := by decide +kernel
theorem dX5_turn_10 : decode cX5_turn 10 = .ok (.ireturn, 1) := by decide +kernel
theorem dX5_turn_11 : decode cX5_turn 11 = .ok (.aload_n 0, 1) := by decide +kernel
theorem dX5_turn_12 : decode cX5_turn 12 = .ok (.invokevirtual 107, 3) := by decide +kernel
theorem dX5_turn_15 : decode cX5_turn 15 = .ok (.ifCond .ne 6, 3) := by decide +kernel
theorem dX5_turn_18 : decode cX5_turn 18 = .ok (.ldc 157, 2) := by decide +kernel
theorem dX5_turn_20 : decode cX5_turn 20 = .ok (.ireturn, 1) := by decide +kernel
theorem dX5_turn_21 : decode cX5_turn 21 = .ok (.iload_n 2, 1) := by decide +kernel
theorem dX5_turn_22 : decode cX5_turn 22 = .ok (.ifCond .eq 21, 3) := by decide +kernel
theorem dX5_turn_25 : decode cX5_turn 25 = .ok (.aload_n 0, 1) := by decide +kernel
theorem dX5_turn_26 : decode cX5_turn 26 = .ok (.getfield 10, 3) := by decide +kernel
theorem dX5_turn_29 : decode cX5_turn 29 = .ok (.dup, 1) := by decide +kernel
theorem dX5_turn_30 : decode cX5_turn 30 = .ok (.getfield 104, 3) := by decide +kernel
theorem dX5_turn_33 : decode cX5_turn 33 = .ok (.iconst 1, 1) := by decide +kernel
theorem dX5_turn_34 : decode cX5_turn 34 = .ok (.iload_n 1, 1) := by decide +kernel
theorem dX5_turn_35 : decode cX5_turn 35 = .ok (.ishl, 1) := by decide +kernel
theorem dX5_turn_36 : decode cX5_turn 36 = .ok (.ior, 1) := by decide +kernel
theorem dX5_turn_37 : decode cX5_turn 37 = .ok (.putfield 104, 3) := by decide +kernel
theorem dX5_turn_40 : decode cX5_turn 40 = .ok (.goto 20, 3) := by decide +kernel
theorem dX5_turn_43 : decode cX5_turn 43 = .ok (.aload_n 0, 1) := by decide +kernel
theorem dX5_turn_44 : decode cX5_turn 44 = .ok (.getfield 10, 3) := by decide +kernel
theorem dX5_turn_47 : decode cX5_turn 47 = .ok (.dup, 1) := by decide +kernel
theorem dX5_turn_48 : decode cX5_turn 48 = .ok (.getfield 104, 3) := by decide +kernel
theorem dX5_turn_51 : decode cX5_turn 51 = .ok (.iconst 1, 1) := by decide +kernel
theorem dX5_turn_52 : decode cX5_turn 52 = .ok (.iload_n 1, 1) := by decide +kernel
theorem dX5_turn_53 : decode cX5_turn 53 = .ok (.ishl, 1) := by decide +kernel
theorem dX5_turn_54 : decode cX5_turn 54 = .ok (.iconst (-1), 1) := by decide +kernel
theorem dX5_turn_55 : decode cX5_turn 55 = .ok (.ixor, 1) := by decide +kernel
theorem dX5_turn_56 : decode cX5_turn 56 = .ok (.iand, 1) := by decide +kernel
theorem dX5_turn_57 : decode cX5_turn 57 = .ok (.putfield 104, 3) := by decide +kernel
theorem dX5_turn_60 : decode cX5_turn 60 = .ok (.aload_n 0, 1) := by decide +kernel
theorem dX5_turn_61 : decode cX5_turn 61 = .ok (.getfield 10, 3) := by decide +kernel
theorem dX5_turn_64 : decode cX5_turn 64 = .ok (.getfield 104, 3) := by decide +kernel
theorem dX5_turn_67 : decode cX5_turn 67 = .ok (.invokestatic 161, 3) := by decide +kernel
theorem dX5_turn_70 : decode cX5_turn 70 = .ok (.ireturn, 1) := by decide +kernel
theorem dX5_longestGap_0 : decode cX5_longestGap 0 = .ok (.aload_n 0, 1) := by decide +kernel
theorem dX5_longestGap_1 : decode cX5_longestGap 1 = .ok (.invokevirtual 107, 3) := by decide +kernel
theorem dX5_longestGap_4 : decode cX5_longestGap 4 = .ok (.ifCond .ne 6, 3) := by decide +kernel
theorem dX5_longestGap_7 : decode cX5_longestGap 7 = .ok (.ldc 157, 2) := by decide +kernel
theorem dX5_longestGap_9 : decode cX5_longestGap 9 = .ok (.ireturn, 1) := by decide +kernel
theorem dX5_longestGap_10 : decode cX5_longestGap 10 = .ok (.aload_n 0, 1) := by decide +kernel
theorem dX5_longestGap_11 : decode cX5_longestGap 11 = .ok (.getfield 10, 3) := by decide +kernel
theorem dX5_longestGap_14 : decode cX5_longestGap 14 = .ok (.getfield 104, 3) := by decide +kernel
theorem dX5_longestGap_17 : decode cX5_longestGap 17 = .ok (.ifCond .ne 8, 3) := by decide +kernel
theorem dX5_longestGap_20 : decode cX5_longestGap 20 = .ok (.ldc 118, 2) := by decide +kernel
theorem dX5_longestGap_22 : decode cX5_longestGap 22 = .ok (.goto 24, 3) := by decide +kernel
theorem dX5_longestGap_25 : decode cX5_longestGap 25 = .ok (.aload_n 0, 1) := by decide +kernel
theorem dX5_longestGap_26 : decode cX5_longestGap 26 = .ok (.getfield 19, 3) := by decide +kernel
theorem dX5_longestGap_29 : decode cX5_longestGap 29 = .ok (.aload_n 0, 1) := by decide +kernel
theorem dX5_longestGap_30 : decode cX5_longestGap 30 = .ok (.getfield 10, 3) := by decide +kernel
theorem dX5_longestGap_33 : decode cX5_longestGap 33 = .ok (.getfield 111, 3) := by decide +kernel
theorem dX5_longestGap_36 : decode cX5_longestGap 36 = .ok (.aload_n 0, 1) := by decide +kernel
theorem dX5_longestGap_37 : decode cX5_longestGap 37 = .ok (.getfield 10, 3) := by decide +kernel
theorem dX5_longestGap_40 : decode cX5_longestGap 40 = .ok (.getfield 104, 3) := by decide +kernel
theorem dX5_longestGap_43 : decode cX5_longestGap 43 = .ok (.invokevirtual 166, 3) := by decide +kernel
theorem dX5_longestGap_46 : decode cX5_longestGap 46 = .ok (.ireturn, 1) := by decide +kernel
theorem dX5_load_0 : decode cX5_load 0 = .ok (.aload_n 0, 1) := by decide +kernel
theorem dX5_load_1 : decode cX5_load 1 = .ok (.iload_n 1, 1) := by decide +kernel
theorem dX5_load_2 : decode cX5_load 2 = .ok (.invokevirtual 169, 3) := by decide +kernel
theorem dX5_load_5 : decode cX5_load 5 = .ok (.ifCond .ne 18, 3) := by decide +kernel
theorem dX5_load_8 : decode cX5_load 8 = .ok (.iload_n 2, 1) := by decide +kernel
theorem dX5_load_9 : decode cX5_load 9 = .ok (.ifCond .lt 14, 3) := by decide +kernel
theorem dX5_load_12 : decode cX5_load 12 = .ok (.iload_n 2, 1) := by decide +kernel
theorem dX5_load_13 : decode cX5_load 13 = .ok (.aload_n 0, 1) := by decide +kernel
theorem dX5_load_14 : decode cX5_load 14 = .ok (.getfield 10, 3) := by decide +kernel
theorem dX5_load_17 : decode cX5_load 17 = .ok (.invokevirtual 172, 3) := by decide +kernel
theorem dX5_load_20 : decode cX5_load 20 = .ok (.if_icmp .lt 6, 3) := by decide +kernel
theorem dX5_load_23 : decode cX5_load 23 = .ok (.ldc 66, 2) := by decide +kernel
theorem dX5_load_25 : decode cX5_load 25 = .ok (.ireturn, 1) := by decide +kernel
theorem dX5_load_26 : decode cX5_load 26 = .ok (.aload_n 0, 1) := by decide +kernel
theorem dX5_load_27 : decode cX5_load 27 = .ok (.invokevirtual 107, 3) := by decide +kernel
theorem dX5_load_30 : decode cX5_load 30 = .ok (.ifCond .ne 6, 3) := by decide +kernel
theorem dX5_load_33 : decode cX5_load 33 = .ok (.ldc 157, 2) := by decide +kernel
theorem dX5_load_35 : decode cX5_load 35 = .ok (.ireturn, 1) := by decide +kernel
theorem dX5_load_36 : decode cX5_load 36 = .ok (.aload_n 0, 1) := by decide +kernel
theorem dX5_load_37 : decode cX5_load 37 = .ok (.getfield 19, 3) := by decide +kernel
theorem dX5_load_40 : decode cX5_load 40 = .ok (.aload_n 0, 1) := by decide +kernel
theorem dX5_load_41 : decode cX5_load 41 = .ok (.getfield 10, 3) := by decide +kernel
theorem dX5_load_44 : decode cX5_load 44 = .ok (.getfield 111, 3) := by decide +kernel
theorem dX5_load_47 : decode cX5_load 47 = .ok (.aload_n 0, 1) := by decide +kernel
theorem dX5_load_48 : decode cX5_load 48 = .ok (.getfield 10, 3) := by decide +kernel
theorem dX5_load_51 : decode cX5_load 51 = .ok (.getfield 104, 3) := by decide +kernel
theorem dX5_load_54 : decode cX5_load 54 = .ok (.iload_n 1, 1) := by decide +kernel
theorem dX5_load_55 : decode cX5_load 55 = .ok (.iload_n 2, 1) := by decide +kernel
theorem dX5_load_56 : decode cX5_load 56 = .ok (.invokevirtual 176, 3) := by decide +kernel
theorem dX5_load_59 : decode cX5_load 59 = .ok (.ireturn, 1) := by decide +kernel
theorem dX5_peak_0 : decode cX5_peak 0 = .ok (.aload_n 0, 1) := by decide +kernel
theorem dX5_peak_1 : decode cX5_peak 1 = .ok (.iload_n 1, 1) := by decide +kernel
theorem dX5_peak_2 : decode cX5_peak 2 = .ok (.invokevirtual 169, 3) := by decide +kernel
theorem dX5_peak_5 : decode cX5_peak 5 = .ok (.ifCond .eq 6, 3) := by decide +kernel
theorem dX5_peak_8 : decode cX5_peak 8 = .ok (.ldc 66, 2) := by decide +kernel
theorem dX5_peak_10 : decode cX5_peak 10 = .ok (.ireturn, 1) := by decide +kernel
theorem dX5_peak_11 : decode cX5_peak 11 = .ok (.aload_n 0, 1) := by decide +kernel
theorem dX5_peak_12 : decode cX5_peak 12 = .ok (.invokevirtual 107, 3) := by decide +kernel
theorem dX5_peak_15 : decode cX5_peak 15 = .ok (.ifCond .ne 6, 3) := by decide +kernel
theorem dX5_peak_18 : decode cX5_peak 18 = .ok (.ldc 157, 2) := by decide +kernel
theorem dX5_peak_20 : decode cX5_peak 20 = .ok (.ireturn, 1) := by decide +kernel
theorem dX5_peak_21 : decode cX5_peak 21 = .ok (.aload_n 0, 1) := by decide +kernel
theorem dX5_peak_22 : decode cX5_peak 22 = .ok (.getfield 19, 3) := by decide +kernel
theorem dX5_peak_25 : decode cX5_peak 25 = .ok (.aload_n 0, 1) := by decide +kernel
theorem dX5_peak_26 : decode cX5_peak 26 = .ok (.getfield 10, 3) := by decide +kernel
theorem dX5_peak_29 : decode cX5_peak 29 = .ok (.getfield 111, 3) := by decide +kernel
theorem dX5_peak_32 : decode cX5_peak 32 = .ok (.aload_n 0, 1) := by decide +kernel
theorem dX5_peak_33 : decode cX5_peak 33 = .ok (.getfield 10, 3) := by decide +kernel
theorem dX5_peak_36 : decode cX5_peak 36 = .ok (.getfield 104, 3) := by decide +kernel
theorem dX5_peak_39 : decode cX5_peak 39 = .ok (.iload_n 1, 1) := by decide +kernel
theorem dX5_peak_40 : decode cX5_peak 40 = .ok (.invokevirtual 180, 3) := by decide +kernel
theorem dX5_peak_43 : decode cX5_peak 43 = .ok (.ireturn, 1) := by decide +kernel
theorem dX5_bestOff_0 : decode cX5_bestOff 0 = .ok (.aload_n 0, 1) := by decide +kernel
theorem dX5_bestOff_1 : decode cX5_bestOff 1 = .ok (.invokevirtual 107, 3) := by decide +kernel
theorem dX5_bestOff_4 : decode cX5_bestOff 4 = .ok (.ifCond .ne 6, 3) := by decide +kernel
theorem dX5_bestOff_7 : decode cX5_bestOff 7 = .ok (.ldc 157, 2) := by decide +kernel
theorem dX5_bestOff_9 : decode cX5_bestOff 9 = .ok (.ireturn, 1) := by decide +kernel
theorem dX5_bestOff_10 : decode cX5_bestOff 10 = .ok (.aload_n 0, 1) := by decide +kernel
theorem dX5_bestOff_11 : decode cX5_bestOff 11 = .ok (.getfield 10, 3) := by decide +kernel
theorem dX5_bestOff_14 : decode cX5_bestOff 14 = .ok (.getfield 104, 3) := by decide +kernel
theorem dX5_bestOff_17 : decode cX5_bestOff 17 = .ok (.invokestatic 161, 3) := by decide +kernel
theorem dX5_bestOff_20 : decode cX5_bestOff 20 = .ok (.iconst 2, 1) := by decide +kernel
theorem dX5_bestOff_21 : decode cX5_bestOff 21 = .ok (.if_icmp .ge 6, 3) := by decide +kernel
theorem dX5_bestOff_24 : decode cX5_bestOff 24 = .ok (.ldc 118, 2) := by decide +kernel
theorem dX5_bestOff_26 : decode cX5_bestOff 26 = .ok (.ireturn, 1) := by decide +kernel
theorem dX5_bestOff_27 : decode cX5_bestOff 27 = .ok (.ldc 118, 2) := by decide +kernel
theorem dX5_bestOff_29 : decode cX5_bestOff 29 = .ok (.istore_n 1, 1) := by decide +kernel
theorem dX5_bestOff_30 : decode cX5_bestOff 30 = .ok (.iconst 0, 1) := by decide +kernel
theorem dX5_bestOff_31 : decode cX5_bestOff 31 = .ok (.istore_n 2, 1) := by decide +kernel
theorem dX5_bestOff_32 : decode cX5_bestOff 32 = .ok (.iconst 0, 1) := by decide +kernel
theorem dX5_bestOff_33 : decode cX5_bestOff 33 = .ok (.istore_n 3, 1) := by decide +kernel
theorem dX5_bestOff_34 : decode cX5_bestOff 34 = .ok (.iload_n 3, 1) := by decide +kernel
theorem dX5_bestOff_35 : decode cX5_bestOff 35 = .ok (.aload_n 0, 1) := by decide +kernel
theorem dX5_bestOff_36 : decode cX5_bestOff 36 = .ok (.getfield 10, 3) := by decide +kernel
theorem dX5_bestOff_39 : decode cX5_bestOff 39 = .ok (.getfield 48, 3) := by decide +kernel
theorem dX5_bestOff_42 : decode cX5_bestOff 42 = .ok (.if_icmp .ge 70, 3) := by decide +kernel
theorem dX5_bestOff_45 : decode cX5_bestOff 45 = .ok (.aload_n 0, 1) := by decide +kernel
theorem dX5_bestOff_46 : decode cX5_bestOff 46 = .ok (.getfield 10, 3) := by decide +kernel
theorem dX5_bestOff_49 : decode cX5_bestOff 49 = .ok (.getfield 104, 3) := by decide +kernel
theorem dX5_bestOff_52 : decode cX5_bestOff 52 = .ok (.iload_n 3, 1) := by decide +kernel
theorem dX5_bestOff_53 : decode cX5_bestOff 53 = .ok (.ishr, 1) := by decide +kernel
theorem dX5_bestOff_54 : decode cX5_bestOff 54 = .ok (.iconst 1, 1) := by decide +kernel
theorem dX5_bestOff_55 : decode cX5_bestOff 55 = .ok (.iand, 1) := by decide +kernel
theorem dX5_bestOff_56 : decode cX5_bestOff 56 = .ok (.iconst 1, 1) := by decide +kernel
theorem dX5_bestOff_57 : decode cX5_bestOff 57 = .ok (.if_icmp .ne 49, 3) := by decide +kernel
theorem dX5_bestOff_60 : decode cX5_bestOff 60 = .ok (.aload_n 0, 1) := by decide +kernel
theorem dX5_bestOff_61 : decode cX5_bestOff 61 = .ok (.getfield 19, 3) := by decide +kernel
theorem dX5_bestOff_64 : decode cX5_bestOff 64 = .ok (.aload_n 0, 1) := by decide +kernel
theorem dX5_bestOff_65 : decode cX5_bestOff 65 = .ok (.getfield 10, 3) := by decide +kernel
theorem dX5_bestOff_68 : decode cX5_bestOff 68 = .ok (.getfield 111, 3) := by decide +kernel
theorem dX5_bestOff_71 : decode cX5_bestOff 71 = .ok (.aload_n 0, 1) := by decide +kernel
theorem dX5_bestOff_72 : decode cX5_bestOff 72 = .ok (.getfield 10, 3) := by decide +kernel
theorem dX5_bestOff_75 : decode cX5_bestOff 75 = .ok (.getfield 104, 3) := by decide +kernel
theorem dX5_bestOff_78 : decode cX5_bestOff 78 = .ok (.iconst 1, 1) := by decide +kernel
theorem dX5_bestOff_79 : decode cX5_bestOff 79 = .ok (.iload_n 3, 1) := by decide +kernel
theorem dX5_bestOff_80 : decode cX5_bestOff 80 = .ok (.ishl, 1) := by decide +kernel
theorem dX5_bestOff_81 : decode cX5_bestOff 81 = .ok (.iconst (-1), 1) := by decide +kernel
theorem dX5_bestOff_82 : decode cX5_bestOff 82 = .ok (.ixor, 1) := by decide +kernel
theorem dX5_bestOff_83 : decode cX5_bestOff 83 = .ok (.iand, 1) := by decide +kernel
theorem dX5_bestOff_84 : decode cX5_bestOff 84 = .ok (.invokevirtual 166, 3) := by decide +kernel
theorem dX5_bestOff_87 : decode cX5_bestOff 87 = .ok (.istore 4, 2) := by decide +kernel
theorem dX5_bestOff_89 : decode cX5_bestOff 89 = .ok (.iload_n 1, 1) := by decide +kernel
theorem dX5_bestOff_90 : decode cX5_bestOff 90 = .ok (.ldc 118, 2) := by decide +kernel
theorem dX5_bestOff_92 : decode cX5_bestOff 92 = .ok (.if_icmp .eq 9, 3) := by decide +kernel
theorem dX5_bestOff_95 : decode cX5_bestOff 95 = .ok (.iload 4, 2) := by decide +kernel
theorem dX5_bestOff_97 : decode cX5_bestOff 97 = .ok (.iload_n 2, 1) := by decide +kernel
theorem dX5_bestOff_98 : decode cX5_bestOff 98 = .ok (.if_icmp .ge 8, 3) := by decide +kernel
theorem dX5_bestOff_101 : decode cX5_bestOff 101 = .ok (.iload_n 3, 1) := by decide +kernel
theorem dX5_bestOff_102 : decode cX5_bestOff 102 = .ok (.istore_n 1, 1) := by decide +kernel
theorem dX5_bestOff_103 : decode cX5_bestOff 103 = .ok (.iload 4, 2) := by decide +kernel
theorem dX5_bestOff_105 : decode cX5_bestOff 105 = .ok (.istore_n 2, 1) := by decide +kernel
theorem dX5_bestOff_106 : decode cX5_bestOff 106 = .ok (.iinc 3 1, 3) := by decide +kernel
theorem dX5_bestOff_109 : decode cX5_bestOff 109 = .ok (.goto (-75), 3) := by decide +kernel
theorem dX5_bestOff_112 : decode cX5_bestOff 112 = .ok (.iload_n 1, 1) := by decide +kernel
theorem dX5_bestOff_113 : decode cX5_bestOff 113 = .ok (.ireturn, 1) := by decide +kernel
theorem dX5_save_0 : decode cX5_save 0 = .ok (.iload_n 1, 1) := by decide +kernel
theorem dX5_save_1 : decode cX5_save 1 = .ok (.ifCond .ne 22, 3) := by decide +kernel
theorem dX5_save_4 : decode cX5_save 4 = .ok (.aload_n 0, 1) := by decide +kernel
theorem dX5_save_5 : decode cX5_save 5 = .ok (.getfield 37, 3) := by decide +kernel
theorem dX5_save_8 : decode cX5_save 8 = .ok (.aload_n 0, 1) := by decide +kernel
theorem dX5_save_9 : decode cX5_save 9 = .ok (.getfield 10, 3) := by decide +kernel
theorem dX5_save_12 : decode cX5_save 12 = .ok (.invokevirtual 184, 3) := by decide +kernel
theorem dX5_save_15 : decode cX5_save 15 = .ok (.aload_n 0, 1) := by decide +kernel
theorem dX5_save_16 : decode cX5_save 16 = .ok (.iconst 1, 1) := by decide +kernel
theorem dX5_save_17 : decode cX5_save 17 = .ok (.putfield 187, 3) := by decide +kernel
theorem dX5_save_20 : decode cX5_save 20 = .ok (.goto 30, 3) := by decide +kernel
theorem dX5_save_23 : decode cX5_save 23 = .ok (.iload_n 1, 1) := by decide +kernel
theorem dX5_save_24 : decode cX5_save 24 = .ok (.iconst 1, 1) := by decide +kernel
theorem dX5_save_25 : decode cX5_save 25 = .ok (.if_icmp .ne 22, 3) := by decide +kernel
theorem dX5_save_28 : decode cX5_save 28 = .ok (.aload_n 0, 1) := by decide +kernel
theorem dX5_save_29 : decode cX5_save 29 = .ok (.getfield 40, 3) := by decide +kernel
theorem dX5_save_32 : decode cX5_save 32 = .ok (.aload_n 0, 1) := by decide +kernel
theorem dX5_save_33 : decode cX5_save 33 = .ok (.getfield 10, 3) := by decide +kernel
theorem dX5_save_36 : decode cX5_save 36 = .ok (.invokevirtual 184, 3) := by decide +kernel
theorem dX5_save_39 : decode cX5_save 39 = .ok (.aload_n 0, 1) := by decide +kernel
theorem dX5_save_40 : decode cX5_save 40 = .ok (.iconst 1, 1) := by decide +kernel
theorem dX5_save_41 : decode cX5_save 41 = .ok (.putfield 191, 3) := by decide +kernel
theorem dX5_save_44 : decode cX5_save 44 = .ok (.goto 6, 3) := by decide +kernel
theorem dX5_save_47 : decode cX5_save 47 = .ok (.ldc 66, 2) := by decide +kernel
theorem dX5_save_49 : decode cX5_save 49 = .ok (.ireturn, 1) := by decide +kernel
theorem dX5_save_50 : decode cX5_save 50 = .ok (.aload_n 0, 1) := by decide +kernel
theorem dX5_save_51 : decode cX5_save 51 = .ok (.getfield 10, 3) := by decide +kernel
theorem dX5_save_54 : decode cX5_save 54 = .ok (.getfield 48, 3) := by decide +kernel
theorem dX5_save_57 : decode cX5_save 57 = .ok (.ireturn, 1) := by decide +kernel
theorem dX5_restore_0 : decode cX5_restore 0 = .ok (.iload_n 1, 1) := by decide +kernel
theorem dX5_restore_1 : decode cX5_restore 1 = .ok (.ifCond .eq 11, 3) := by decide +kernel
theorem dX5_restore_4 : decode cX5_restore 4 = .ok (.iload_n 1, 1) := by decide +kernel
theorem dX5_restore_5 : decode cX5_restore 5 = .ok (.iconst 1, 1) := by decide +kernel
theorem dX5_restore_6 : decode cX5_restore 6 = .ok (.if_icmp .eq 6, 3) := by decide +kernel
theorem dX5_restore_9 : decode cX5_restore 9 = .ok (.ldc 66, 2) := by decide +kernel
theorem dX5_restore_11 : decode cX5_restore 11 = .ok (.ireturn, 1) := by decide +kernel
theorem dX5_restore_12 : decode cX5_restore 12 = .ok (.iload_n 1, 1) := by decide +kernel
theorem dX5_restore_13 : decode cX5_restore 13 = .ok (.ifCond .ne 13, 3) := by decide +kernel
theorem dX5_restore_16 : decode cX5_restore 16 = .ok (.aload_n 0, 1) := by decide +kernel
theorem dX5_restore_17 : decode cX5_restore 17 = .ok (.getfield 187, 3) := by decide +kernel
theorem dX5_restore_20 : decode cX5_restore 20 = .ok (.ifCond .ne 16, 3) := by decide +kernel
theorem dX5_restore_23 : decode cX5_restore 23 = .ok (.goto 10, 3) := by decide +kernel
theorem dX5_restore_26 : decode cX5_restore 26 = .ok (.aload_n 0, 1) := by decide +kernel
theorem dX5_restore_27 : decode cX5_restore 27 = .ok (.getfield 191, 3) := by decide +kernel
theorem dX5_restore_30 : decode cX5_restore 30 = .ok (.ifCond .ne 6, 3) := by decide +kernel
theorem dX5_restore_33 : decode cX5_restore 33 = .ok (.ldc 157, 2) := by decide +kernel
theorem dX5_restore_35 : decode cX5_restore 35 = .ok (.ireturn, 1) := by decide +kernel
theorem dX5_restore_36 : decode cX5_restore 36 = .ok (.aload_n 0, 1) := by decide +kernel
theorem dX5_restore_37 : decode cX5_restore 37 = .ok (.getfield 10, 3) := by decide +kernel
theorem dX5_restore_40 : decode cX5_restore 40 = .ok (.iload_n 1, 1) := by decide +kernel
theorem dX5_restore_41 : decode cX5_restore 41 = .ok (.ifCond .ne 10, 3) := by decide +kernel
theorem dX5_restore_44 : decode cX5_restore 44 = .ok (.aload_n 0, 1) := by decide +kernel
theorem dX5_restore_45 : decode cX5_restore 45 = .ok (.getfield 37, 3) := by decide +kernel
theorem dX5_restore_48 : decode cX5_restore 48 = .ok (.goto 7, 3) := by decide +kernel
theorem dX5_restore_51 : decode cX5_restore 51 = .ok (.aload_n 0, 1) := by decide +kernel
theorem dX5_restore_52 : decode cX5_restore 52 = .ok (.getfield 40, 3) := by decide +kernel
theorem dX5_restore_55 : decode cX5_restore 55 = .ok (.invokevirtual 184, 3) := by decide +kernel
theorem dX5_restore_58 : decode cX5_restore 58 = .ok (.aload_n 0, 1) := by decide +kernel
theorem dX5_restore_59 : decode cX5_restore 59 = .ok (.getfield 19, 3) := by decide +kernel
theorem dX5_restore_62 : decode cX5_restore 62 = .ok (.aload_n 0, 1) := by decide +kernel
theorem dX5_restore_63 : decode cX5_restore 63 = .ok (.getfield 10, 3) := by decide +kernel
theorem dX5_restore_66 : decode cX5_restore 66 = .ok (.invokevirtual 43, 3) := by decide +kernel
theorem dX5_restore_69 : decode cX5_restore 69 = .ok (.aload_n 0, 1) := by decide +kernel
theorem dX5_restore_70 : decode cX5_restore 70 = .ok (.getfield 10, 3) := by decide +kernel
theorem dX5_restore_73 : decode cX5_restore 73 = .ok (.getfield 48, 3) := by decide +kernel
theorem dX5_restore_76 : decode cX5_restore 76 = .ok (.ireturn, 1) := by decide +kernel
theorem dX5_checksum_0 : decode cX5_checksum 0 = .ok (.ldc2_w 194, 3) := by decide +kernel
theorem dX5_checksum_3 : decode cX5_checksum 3 = .ok (.aload_n 0, 1) := by decide +kernel
theorem dX5_checksum_4 : decode cX5_checksum 4 = .ok (.getfield 10, 3) := by decide +kernel
theorem dX5_checksum_7 : decode cX5_checksum 7 = .ok (.getfield 48, 3) := by decide +kernel
theorem dX5_checksum_10 : decode cX5_checksum 10 = .ok (.i2l, 1) := by decide +kernel
theorem dX5_checksum_11 : decode cX5_checksum 11 = .ok (.invokestatic 196, 3) := by decide +kernel
theorem dX5_checksum_14 : decode cX5_checksum 14 = .ok (.lstore_n 1, 1) := by decide +kernel
theorem dX5_checksum_15 : decode cX5_checksum 15 = .ok (.iconst 0, 1) := by decide +kernel
theorem dX5_checksum_16 : decode cX5_checksum 16 = .ok (.istore_n 3, 1) := by decide +kernel
theorem dX5_checksum_17 : decode cX5_checksum 17 = .ok (.iload_n 3, 1) := by decide +kernel
theorem dX5_checksum_18 : decode cX5_checksum 18 = .ok (.aload_n 0, 1) := by decide +kernel
theorem dX5_checksum_19 : decode cX5_checksum 19 = .ok (.getfield 10, 3) := by decide +kernel
theorem dX5_checksum_22 : decode cX5_checksum 22 = .ok (.getfield 48, 3) := by decide +kernel
theorem dX5_checksum_25 : decode cX5_checksum 25 = .ok (.if_icmp .ge 37, 3) := by decide +kernel
theorem dX5_checksum_28 : decode cX5_checksum 28 = .ok (.iconst 0, 1) := by decide +kernel
theorem dX5_checksum_29 : decode cX5_checksum 29 = .ok (.istore 4, 2) := by decide +kernel
theorem dX5_checksum_31 : decode cX5_checksum 31 = .ok (.iload 4, 2) := by decide +kernel
theorem dX5_checksum_33 : decode cX5_checksum 33 = .ok (.iconst 4, 1) := by decide +kernel
theorem dX5_checksum_34 : decode cX5_checksum 34 = .ok (.if_icmp .gt 22, 3) := by decide +kernel
theorem dX5_checksum_37 : decode cX5_checksum 37 = .ok (.lload_n 1, 1) := by decide +kernel
theorem dX5_checksum_38 : decode cX5_checksum 38 = .ok (.aload_n 0, 1) := by decide +kernel
theorem dX5_checksum_39 : decode cX5_checksum 39 = .ok (.iload_n 3, 1) := by decide +kernel
theorem dX5_checksum_40 : decode cX5_checksum 40 = .ok (.iload 4, 2) := by decide +kernel
theorem dX5_checksum_42 : decode cX5_checksum 42 = .ok (.invokevirtual 200, 3) := by decide +kernel
theorem dX5_checksum_45 : decode cX5_checksum 45 = .ok (.i2l, 1) := by decide +kernel
theorem dX5_checksum_46 : decode cX5_checksum 46 = .ok (.invokestatic 196, 3) := by decide +kernel
theorem dX5_checksum_49 : decode cX5_checksum 49 = .ok (.lstore_n 1, 1) := by decide +kernel
theorem dX5_checksum_50 : decode cX5_checksum 50 = .ok (.iinc 4 1, 3) := by decide +kernel
theorem dX5_checksum_53 : decode cX5_checksum 53 = .ok (.goto (-22), 3) := by decide +kernel
theorem dX5_checksum_56 : decode cX5_checksum 56 = .ok (.iinc 3 1, 3) := by decide +kernel
theorem dX5_checksum_59 : decode cX5_checksum 59 = .ok (.goto (-42), 3) := by decide +kernel
theorem dX5_checksum_62 : decode cX5_checksum 62 = .ok (.iconst 0, 1) := by decide +kernel
theorem dX5_checksum_63 : decode cX5_checksum 63 = .ok (.istore_n 3, 1) := by decide +kernel
theorem dX5_checksum_64 : decode cX5_checksum 64 = .ok (.iload_n 3, 1) := by decide +kernel
theorem dX5_checksum_65 : decode cX5_checksum 65 = .ok (.aload_n 0, 1) := by decide +kernel
theorem dX5_checksum_66 : decode cX5_checksum 66 = .ok (.getfield 10, 3) := by decide +kernel
theorem dX5_checksum_69 : decode cX5_checksum 69 = .ok (.getfield 83, 3) := by decide +kernel
theorem dX5_checksum_72 : decode cX5_checksum 72 = .ok (.getfield 93, 3) := by decide +kernel
theorem dX5_checksum_75 : decode cX5_checksum 75 = .ok (.if_icmp .ge 37, 3) := by decide +kernel
theorem dX5_checksum_78 : decode cX5_checksum 78 = .ok (.iconst 0, 1) := by decide +kernel
theorem dX5_checksum_79 : decode cX5_checksum 79 = .ok (.istore 4, 2) := by decide +kernel
theorem dX5_checksum_81 : decode cX5_checksum 81 = .ok (.iload 4, 2) := by decide +kernel
theorem dX5_checksum_83 : decode cX5_checksum 83 = .ok (.iconst 2, 1) := by decide +kernel
theorem dX5_checksum_84 : decode cX5_checksum 84 = .ok (.if_icmp .gt 22, 3) := by decide +kernel
theorem dX5_checksum_87 : decode cX5_checksum 87 = .ok (.lload_n 1, 1) := by decide +kernel
theorem dX5_checksum_88 : decode cX5_checksum 88 = .ok (.aload_n 0, 1) := by decide +kernel
theorem dX5_checksum_89 : decode cX5_checksum 89 = .ok (.iload_n 3, 1) := by decide +kernel
theorem dX5_checksum_90 : decode cX5_checksum 90 = .ok (.iload 4, 2) := by decide +kernel
theorem dX5_checksum_92 : decode cX5_checksum 92 = .ok (.invokevirtual 203, 3) := by decide +kernel
theorem dX5_checksum_95 : decode cX5_checksum 95 = .ok (.i2l, 1) := by decide +kernel
theorem dX5_checksum_96 : decode cX5_checksum 96 = .ok (.invokestatic 196, 3) := by decide +kernel
theorem dX5_checksum_99 : decode cX5_checksum 99 = .ok (.lstore_n 1, 1) := by decide +kernel
theorem dX5_checksum_100 : decode cX5_checksum 100 = .ok (.iinc 4 1, 3) := by decide +kernel
theorem dX5_checksum_103 : decode cX5_checksum 103 = .ok (.goto (-22), 3) := by decide +kernel
theorem dX5_checksum_106 : decode cX5_checksum 106 = .ok (.iinc 3 1, 3) := by decide +kernel
theorem dX5_checksum_109 : decode cX5_checksum 109 = .ok (.goto (-45), 3) := by decide +kernel
theorem dX5_checksum_112 : decode cX5_checksum 112 = .ok (.aload_n 0, 1) := by decide +kernel
theorem dX5_checksum_113 : decode cX5_checksum 113 = .ok (.lload_n 1, 1) := by decide +kernel
theorem dX5_checksum_114 : decode cX5_checksum 114 = .ok (.invokevirtual 206, 3) := by decide +kernel
theorem dX5_checksum_117 : decode cX5_checksum 117 = .ok (.lstore_n 1, 1) := by decide +kernel
theorem dX5_checksum_118 : decode cX5_checksum 118 = .ok (.lload_n 1, 1) := by decide +kernel
theorem dX5_checksum_119 : decode cX5_checksum 119 = .ok (.aload_n 0, 1) := by decide +kernel
theorem dX5_checksum_120 : decode cX5_checksum 120 = .ok (.invokevirtual 210, 3) := by decide +kernel
theorem dX5_checksum_123 : decode cX5_checksum 123 = .ok (.i2l, 1) := by decide +kernel
theorem dX5_checksum_124 : decode cX5_checksum 124 = .ok (.invokestatic 196, 3) := by decide +kernel
theorem dX5_checksum_127 : decode cX5_checksum 127 = .ok (.lstore_n 1, 1) := by decide +kernel
theorem dX5_checksum_128 : decode cX5_checksum 128 = .ok (.lload_n 1, 1) := by decide +kernel
theorem dX5_checksum_129 : decode cX5_checksum 129 = .ok (.aload_n 0, 1) := by decide +kernel
theorem dX5_checksum_130 : decode cX5_checksum 130 = .ok (.invokevirtual 213, 3) := by decide +kernel
theorem dX5_checksum_133 : decode cX5_checksum 133 = .ok (.i2l, 1) := by decide +kernel
theorem dX5_checksum_134 : decode cX5_checksum 134 = .ok (.invokestatic 196, 3) := by decide +kernel
theorem dX5_checksum_137 : decode cX5_checksum 137 = .ok (.lstore_n 1, 1) := by decide +kernel
theorem dX5_checksum_138 : decode cX5_checksum 138 = .ok (.aload_n 0, 1) := by decide +kernel
theorem dX5_checksum_139 : decode cX5_checksum 139 = .ok (.invokevirtual 107, 3) := by decide +kernel
theorem dX5_checksum_142 : decode cX5_checksum 142 = .ok (.ifCond .eq 11, 3) := by decide +kernel
theorem dX5_checksum_145 : decode cX5_checksum 145 = .ok (.aload_n 0, 1) := by decide +kernel
theorem dX5_checksum_146 : decode cX5_checksum 146 = .ok (.lload_n 1, 1) := by decide +kernel
theorem dX5_checksum_147 : decode cX5_checksum 147 = .ok (.invokevirtual 216, 3) := by decide +kernel
theorem dX5_checksum_150 : decode cX5_checksum 150 = .ok (.goto 4, 3) := by decide +kernel
theorem dX5_checksum_153 : decode cX5_checksum 153 = .ok (.lload_n 1, 1) := by decide +kernel
theorem dX5_checksum_154 : decode cX5_checksum 154 = .ok (.lreturn, 1) := by decide +kernel
theorem dX5_mixBalance_0 : decode cX5_mixBalance 0 = .ok (.lload_n 1, 1) := by decide +kernel
theorem dX5_mixBalance_1 : decode cX5_mixBalance 1 = .ok (.lstore_n 3, 1) := by decide +kernel
theorem dX5_mixBalance_2 : decode cX5_mixBalance 2 = .ok (.iconst 0, 1) := by decide +kernel
theorem dX5_mixBalance_3 : decode cX5_mixBalance 3 = .ok (.istore 5, 2) := by decide +kernel
theorem dX5_mixBalance_5 : decode cX5_mixBalance 5 = .ok (.iload 5, 2) := by decide +kernel
theorem dX5_mixBalance_7 : decode cX5_mixBalance 7 = .ok (.iconst 4, 1) := by decide +kernel
theorem dX5_mixBalance_8 : decode cX5_mixBalance 8 = .ok (.if_icmp .ge 75, 3) := by decide +kernel
theorem dX5_mixBalance_11 : decode cX5_mixBalance 11 = .ok (.aload_n 0, 1) := by decide +kernel
theorem dX5_mixBalance_12 : decode cX5_mixBalance 12 = .ok (.iload 5, 2) := by decide +kernel
theorem dX5_mixBalance_14 : decode cX5_mixBalance 14 = .ok (.invokevirtual 119, 3) := by decide +kernel
theorem dX5_mixBalance_17 : decode cX5_mixBalance 17 = .ok (.lload_n 3, 1) := by decide +kernel
theorem dX5_mixBalance_18 : decode cX5_mixBalance 18 = .ok (.aload_n 0, 1) := by decide +kernel
theorem dX5_mixBalance_19 : decode cX5_mixBalance 19 = .ok (.getfield 26, 3) := by decide +kernel
theorem dX5_mixBalance_22 : decode cX5_mixBalance 22 = .ok (.iconst 0, 1) := by decide +kernel
theorem dX5_mixBalance_23 : decode cX5_mixBalance 23 = .ok (.iconst 0, 1) := by decide +kernel
theorem dX5_mixBalance_24 : decode cX5_mixBalance 24 = .ok (.invokevirtual 122, 3) := by decide +kernel
theorem dX5_mixBalance_27 : decode cX5_mixBalance 27 = .ok (.i2l, 1) := by decide +kernel
theorem dX5_mixBalance_28 : decode cX5_mixBalance 28 = .ok (.invokestatic 196, 3) := by decide +kernel
theorem dX5_mixBalance_31 : decode cX5_mixBalance 31 = .ok (.lstore_n 3, 1) := by decide +kernel
theorem dX5_mixBalance_32 : decode cX5_mixBalance 32 = .ok (.lload_n 3, 1) := by decide +kernel
theorem dX5_mixBalance_33 : decode cX5_mixBalance 33 = .ok (.aload_n 0, 1) := by decide +kernel
theorem dX5_mixBalance_34 : decode cX5_mixBalance 34 = .ok (.getfield 26, 3) := by decide +kernel
theorem dX5_mixBalance_37 : decode cX5_mixBalance 37 = .ok (.iconst 0, 1) := by decide +kernel
theorem dX5_mixBalance_38 : decode cX5_mixBalance 38 = .ok (.iconst 1, 1) := by decide +kernel
theorem dX5_mixBalance_39 : decode cX5_mixBalance 39 = .ok (.invokevirtual 122, 3) := by decide +kernel
theorem dX5_mixBalance_42 : decode cX5_mixBalance 42 = .ok (.i2l, 1) := by decide +kernel
theorem dX5_mixBalance_43 : decode cX5_mixBalance 43 = .ok (.invokestatic 196, 3) := by decide +kernel
theorem dX5_mixBalance_46 : decode cX5_mixBalance 46 = .ok (.lstore_n 3, 1) := by decide +kernel
theorem dX5_mixBalance_47 : decode cX5_mixBalance 47 = .ok (.lload_n 3, 1) := by decide +kernel
theorem dX5_mixBalance_48 : decode cX5_mixBalance 48 = .ok (.aload_n 0, 1) := by decide +kernel
theorem dX5_mixBalance_49 : decode cX5_mixBalance 49 = .ok (.getfield 26, 3) := by decide +kernel
theorem dX5_mixBalance_52 : decode cX5_mixBalance 52 = .ok (.iconst 1, 1) := by decide +kernel
theorem dX5_mixBalance_53 : decode cX5_mixBalance 53 = .ok (.iconst 0, 1) := by decide +kernel
theorem dX5_mixBalance_54 : decode cX5_mixBalance 54 = .ok (.invokevirtual 122, 3) := by decide +kernel
theorem dX5_mixBalance_57 : decode cX5_mixBalance 57 = .ok (.i2l, 1) := by decide +kernel
theorem dX5_mixBalance_58 : decode cX5_mixBalance 58 = .ok (.invokestatic 196, 3) := by decide +kernel
theorem dX5_mixBalance_61 : decode cX5_mixBalance 61 = .ok (.lstore_n 3, 1) := by decide +kernel
theorem dX5_mixBalance_62 : decode cX5_mixBalance 62 = .ok (.lload_n 3, 1) := by decide +kernel
theorem dX5_mixBalance_63 : decode cX5_mixBalance 63 = .ok (.aload_n 0, 1) := by decide +kernel
theorem dX5_mixBalance_64 : decode cX5_mixBalance 64 = .ok (.getfield 26, 3) := by decide +kernel
theorem dX5_mixBalance_67 : decode cX5_mixBalance 67 = .ok (.iconst 1, 1) := by decide +kernel
theorem dX5_mixBalance_68 : decode cX5_mixBalance 68 = .ok (.iconst 1, 1) := by decide +kernel
theorem dX5_mixBalance_69 : decode cX5_mixBalance 69 = .ok (.invokevirtual 122, 3) := by decide +kernel
theorem dX5_mixBalance_72 : decode cX5_mixBalance 72 = .ok (.i2l, 1) := by decide +kernel
theorem dX5_mixBalance_73 : decode cX5_mixBalance 73 = .ok (.invokestatic 196, 3) := by decide +kernel
theorem dX5_mixBalance_76 : decode cX5_mixBalance 76 = .ok (.lstore_n 3, 1) := by decide +kernel
theorem dX5_mixBalance_77 : decode cX5_mixBalance 77 = .ok (.iinc 5 1, 3) := by decide +kernel
theorem dX5_mixBalance_80 : decode cX5_mixBalance 80 = .ok (.goto (-75), 3) := by decide +kernel
theorem dX5_mixBalance_83 : decode cX5_mixBalance 83 = .ok (.lload_n 3, 1) := by decide +kernel
theorem dX5_mixBalance_84 : decode cX5_mixBalance 84 = .ok (.aload_n 0, 1) := by decide +kernel
theorem dX5_mixBalance_85 : decode cX5_mixBalance 85 = .ok (.invokevirtual 219, 3) := by decide +kernel
theorem dX5_mixBalance_88 : decode cX5_mixBalance 88 = .ok (.i2l, 1) := by decide +kernel
theorem dX5_mixBalance_89 : decode cX5_mixBalance 89 = .ok (.invokestatic 196, 3) := by decide +kernel
theorem dX5_mixBalance_92 : decode cX5_mixBalance 92 = .ok (.lstore_n 3, 1) := by decide +kernel
theorem dX5_mixBalance_93 : decode cX5_mixBalance 93 = .ok (.lload_n 3, 1) := by decide +kernel
theorem dX5_mixBalance_94 : decode cX5_mixBalance 94 = .ok (.aload_n 0, 1) := by decide +kernel
theorem dX5_mixBalance_95 : decode cX5_mixBalance 95 = .ok (.invokevirtual 222, 3) := by decide +kernel
theorem dX5_mixBalance_98 : decode cX5_mixBalance 98 = .ok (.i2l, 1) := by decide +kernel
theorem dX5_mixBalance_99 : decode cX5_mixBalance 99 = .ok (.invokestatic 196, 3) := by decide +kernel
theorem dX5_mixBalance_102 : decode cX5_mixBalance 102 = .ok (.lstore_n 3, 1) := by decide +kernel
theorem dX5_mixBalance_103 : decode cX5_mixBalance 103 = .ok (.lload_n 3, 1) := by decide +kernel
theorem dX5_mixBalance_104 : decode cX5_mixBalance 104 = .ok (.aload_n 0, 1) := by decide +kernel
theorem dX5_mixBalance_105 : decode cX5_mixBalance 105 = .ok (.invokevirtual 225, 3) := by decide +kernel
theorem dX5_mixBalance_108 : decode cX5_mixBalance 108 = .ok (.i2l, 1) := by decide +kernel
theorem dX5_mixBalance_109 : decode cX5_mixBalance 109 = .ok (.invokestatic 196, 3) := by decide +kernel
theorem dX5_mixBalance_112 : decode cX5_mixBalance 112 = .ok (.lreturn, 1) := by decide +kernel
theorem dX5_mixChosen_0 : decode cX5_mixChosen 0 = .ok (.lload_n 1, 1) := by decide +kernel
theorem dX5_mixChosen_1 : decode cX5_mixChosen 1 = .ok (.aload_n 0, 1) := by decide +kernel
theorem dX5_mixChosen_2 : decode cX5_mixChosen 2 = .ok (.invokevirtual 228, 3) := by decide +kernel
theorem dX5_mixChosen_5 : decode cX5_mixChosen 5 = .ok (.i2l, 1) := by decide +kernel
theorem dX5_mixChosen_6 : decode cX5_mixChosen 6 = .ok (.invokestatic 196, 3) := by decide +kernel
theorem dX5_mixChosen_9 : decode cX5_mixChosen 9 = .ok (.lstore_n 3, 1) := by decide +kernel
theorem dX5_mixChosen_10 : decode cX5_mixChosen 10 = .ok (.lload_n 3, 1) := by decide +kernel
theorem dX5_mixChosen_11 : decode cX5_mixChosen 11 = .ok (.aload_n 0, 1) := by decide +kernel
theorem dX5_mixChosen_12 : decode cX5_mixChosen 12 = .ok (.invokevirtual 231, 3) := by decide +kernel
theorem dX5_mixChosen_15 : decode cX5_mixChosen 15 = .ok (.i2l, 1) := by decide +kernel
theorem dX5_mixChosen_16 : decode cX5_mixChosen 16 = .ok (.invokestatic 196, 3) := by decide +kernel
theorem dX5_mixChosen_19 : decode cX5_mixChosen 19 = .ok (.lstore_n 3, 1) := by decide +kernel
theorem dX5_mixChosen_20 : decode cX5_mixChosen 20 = .ok (.iconst 0, 1) := by decide +kernel
theorem dX5_mixChosen_21 : decode cX5_mixChosen 21 = .ok (.istore 5, 2) := by decide +kernel
theorem dX5_mixChosen_23 : decode cX5_mixChosen 23 = .ok (.iload 5, 2) := by decide +kernel
theorem dX5_mixChosen_25 : decode cX5_mixChosen 25 = .ok (.aload_n 0, 1) := by decide +kernel
theorem dX5_mixChosen_26 : decode cX5_mixChosen 26 = .ok (.getfield 10, 3) := by decide +kernel
theorem dX5_mixChosen_29 : decode cX5_mixChosen 29 = .ok (.getfield 48, 3) := by decide +kernel
theorem dX5_mixChosen_32 : decode cX5_mixChosen 32 = .ok (.if_icmp .gt 21, 3) := by decide +kernel
theorem dX5_mixChosen_35 : decode cX5_mixChosen 35 = .ok (.lload_n 3, 1) := by decide +kernel
theorem dX5_mixChosen_36 : decode cX5_mixChosen 36 = .ok (.aload_n 0, 1) := by decide +kernel
theorem dX5_mixChosen_37 : decode cX5_mixChosen 37 = .ok (.iload 5, 2) := by decide +kernel
theorem dX5_mixChosen_39 : decode cX5_mixChosen 39 = .ok (.invokevirtual 234, 3) := by decide +kernel
theorem dX5_mixChosen_42 : decode cX5_mixChosen 42 = .ok (.i2l, 1) := by decide +kernel
theorem dX5_mixChosen_43 : decode cX5_mixChosen 43 = .ok (.invokestatic 196, 3) := by decide +kernel
theorem dX5_mixChosen_46 : decode cX5_mixChosen 46 = .ok (.lstore_n 3, 1) := by decide +kernel
theorem dX5_mixChosen_47 : decode cX5_mixChosen 47 = .ok (.iinc 5 1, 3) := by decide +kernel
theorem dX5_mixChosen_50 : decode cX5_mixChosen 50 = .ok (.goto (-27), 3) := by decide +kernel
theorem dX5_mixChosen_53 : decode cX5_mixChosen 53 = .ok (.lload_n 3, 1) := by decide +kernel
theorem dX5_mixChosen_54 : decode cX5_mixChosen 54 = .ok (.lreturn, 1) := by decide +kernel
theorem dX5_mix_0 : decode cX5_mix 0 = .ok (.ldc2_w 237, 3) := by decide +kernel
theorem dX5_mix_3 : decode cX5_mix 3 = .ok (.lload_n 0, 1) := by decide +kernel
theorem dX5_mix_4 : decode cX5_mix 4 = .ok (.lmul, 1) := by decide +kernel
theorem dX5_mix_5 : decode cX5_mix 5 = .ok (.lload_n 2, 1) := by decide +kernel
theorem dX5_mix_6 : decode cX5_mix 6 = .ok (.ladd, 1) := by decide +kernel
theorem dX5_mix_7 : decode cX5_mix 7 = .ok (.lreturn, 1) := by decide +kernel
theorem dX5_isNoCylinder_0 : decode cX5_isNoCylinder 0 = .ok (.iload_n 1, 1) := by decide +kernel
theorem dX5_isNoCylinder_1 : decode cX5_isNoCylinder 1 = .ok (.ifCond .lt 14, 3) := by decide +kernel
theorem dX5_isNoCylinder_4 : decode cX5_isNoCylinder 4 = .ok (.iload_n 1, 1) := by decide +kernel
theorem dX5_isNoCylinder_5 : decode cX5_isNoCylinder 5 = .ok (.aload_n 0, 1) := by decide +kernel
theorem dX5_isNoCylinder_6 : decode cX5_isNoCylinder 6 = .ok (.getfield 10, 3) := by decide +kernel
theorem dX5_isNoCylinder_9 : decode cX5_isNoCylinder 9 = .ok (.getfield 48, 3) := by decide +kernel
theorem dX5_isNoCylinder_12 : decode cX5_isNoCylinder 12 = .ok (.if_icmp .lt 7, 3) := by decide +kernel
theorem dX5_isNoCylinder_15 : decode cX5_isNoCylinder 15 = .ok (.iconst 1, 1) := by decide +kernel
theorem dX5_isNoCylinder_16 : decode cX5_isNoCylinder 16 = .ok (.goto 4, 3) := by decide +kernel
theorem dX5_isNoCylinder_19 : decode cX5_isNoCylinder 19 = .ok (.iconst 0, 1) := by decide +kernel
theorem dX5_isNoCylinder_20 : decode cX5_isNoCylinder 20 = .ok (.ireturn, 1) := by decide +kernel
theorem dX5_isNoBearing_0 : decode cX5_isNoBearing 0 = .ok (.iload_n 1, 1) := by decide +kernel
theorem dX5_isNoBearing_1 : decode cX5_isNoBearing 1 = .ok (.ifCond .lt 14, 3) := by decide +kernel
theorem dX5_isNoBearing_4 : decode cX5_isNoBearing 4 = .ok (.iload_n 1, 1) := by decide +kernel
theorem dX5_isNoBearing_5 : decode cX5_isNoBearing 5 = .ok (.aload_n 0, 1) := by decide +kernel
theorem dX5_isNoBearing_6 : decode cX5_isNoBearing 6 = .ok (.getfield 10, 3) := by decide +kernel
theorem dX5_isNoBearing_9 : decode cX5_isNoBearing 9 = .ok (.getfield 48, 3) := by decide +kernel
theorem dX5_isNoBearing_12 : decode cX5_isNoBearing 12 = .ok (.if_icmp .le 7, 3) := by decide +kernel
theorem dX5_isNoBearing_15 : decode cX5_isNoBearing 15 = .ok (.iconst 1, 1) := by decide +kernel
theorem dX5_isNoBearing_16 : decode cX5_isNoBearing 16 = .ok (.goto 4, 3) := by decide +kernel
theorem dX5_isNoBearing_19 : decode cX5_isNoBearing 19 = .ok (.iconst 0, 1) := by decide +kernel
theorem dX5_isNoBearing_20 : decode cX5_isNoBearing 20 = .ok (.ireturn, 1) := by decide +kernel
theorem dX5_isNoOrder_0 : decode cX5_isNoOrder 0 = .ok (.iload_n 1, 1) := by decide +kernel
theorem dX5_isNoOrder_1 : decode cX5_isNoOrder 1 = .ok (.ifCond .lt 14, 3) := by decide +kernel
theorem dX5_isNoOrder_4 : decode cX5_isNoOrder 4 = .ok (.iload_n 1, 1) := by decide +kernel
theorem dX5_isNoOrder_5 : decode cX5_isNoOrder 5 = .ok (.aload_n 0, 1) := by decide +kernel
theorem dX5_isNoOrder_6 : decode cX5_isNoOrder 6 = .ok (.getfield 19, 3) := by decide +kernel
theorem dX5_isNoOrder_9 : decode cX5_isNoOrder 9 = .ok (.getfield 136, 3) := by decide +kernel
theorem dX5_isNoOrder_12 : decode cX5_isNoOrder 12 = .ok (.if_icmp .lt 7, 3) := by decide +kernel
theorem dX5_isNoOrder_15 : decode cX5_isNoOrder 15 = .ok (.iconst 1, 1) := by decide +kernel
theorem dX5_isNoOrder_16 : decode cX5_isNoOrder 16 = .ok (.goto 4, 3) := by decide +kernel
theorem dX5_isNoOrder_19 : decode cX5_isNoOrder 19 = .ok (.iconst 0, 1) := by decide +kernel
theorem dX5_isNoOrder_20 : decode cX5_isNoOrder 20 = .ok (.ireturn, 1) := by decide +kernel
theorem dX5_isNoTurn_0 : decode cX5_isNoTurn 0 = .ok (.iload_n 0, 1) := by decide +kernel
theorem dX5_isNoTurn_1 : decode cX5_isNoTurn 1 = .ok (.ifCond .lt 9, 3) := by decide +kernel
theorem dX5_isNoTurn_4 : decode cX5_isNoTurn 4 = .ok (.iload_n 0, 1) := by decide +kernel
theorem dX5_isNoTurn_5 : decode cX5_isNoTurn 5 = .ok (.bipush 12, 2) := by decide +kernel
theorem dX5_isNoTurn_7 : decode cX5_isNoTurn 7 = .ok (.if_icmp .lt 7, 3) := by decide +kernel
theorem dX5_isNoTurn_10 : decode cX5_isNoTurn 10 = .ok (.iconst 1, 1) := by decide +kernel
theorem dX5_isNoTurn_11 : decode cX5_isNoTurn 11 = .ok (.goto 4, 3) := by decide +kernel
theorem dX5_isNoTurn_14 : decode cX5_isNoTurn 14 = .ok (.iconst 0, 1) := by decide +kernel
theorem dX5_isNoTurn_15 : decode cX5_isNoTurn 15 = .ok (.ireturn, 1) := by decide +kernel
theorem dX5_isNoPlace_0 : decode cX5_isNoPlace 0 = .ok (.iload_n 0, 1) := by decide +kernel
theorem dX5_isNoPlace_1 : decode cX5_isNoPlace 1 = .ok (.bipush (-100), 2) := by decide +kernel
theorem dX5_isNoPlace_3 : decode cX5_isNoPlace 3 = .ok (.if_icmp .lt 9, 3) := by decide +kernel
theorem dX5_isNoPlace_6 : decode cX5_isNoPlace 6 = .ok (.iload_n 0, 1) := by decide +kernel
theorem dX5_isNoPlace_7 : decode cX5_isNoPlace 7 = .ok (.bipush 100, 2) := by decide +kernel
theorem dX5_isNoPlace_9 : decode cX5_isNoPlace 9 = .ok (.if_icmp .le 7, 3) := by decide +kernel
theorem dX5_isNoPlace_12 : decode cX5_isNoPlace 12 = .ok (.iconst 1, 1) := by decide +kernel
theorem dX5_isNoPlace_13 : decode cX5_isNoPlace 13 = .ok (.goto 4, 3) := by decide +kernel
theorem dX5_isNoPlace_16 : decode cX5_isNoPlace 16 = .ok (.iconst 0, 1) := by decide +kernel
theorem dX5_isNoPlace_17 : decode cX5_isNoPlace 17 = .ok (.ireturn, 1) := by decide +kernel
theorem dX5_isChosen_0 : decode cX5_isChosen 0 = .ok (.aload_n 0, 1) := by decide +kernel
theorem dX5_isChosen_1 : decode cX5_isChosen 1 = .ok (.getfield 10, 3) := by decide +kernel
theorem dX5_isChosen_4 : decode cX5_isChosen 4 = .ok (.getfield 111, 3) := by decide +kernel
theorem dX5_isChosen_7 : decode cX5_isChosen 7 = .ok (.iconst (-1), 1) := by decide +kernel
theorem dX5_isChosen_8 : decode cX5_isChosen 8 = .ok (.if_icmp .eq 7, 3) := by decide +kernel
theorem dX5_isChosen_11 : decode cX5_isChosen 11 = .ok (.iconst 1, 1) := by decide +kernel
theorem dX5_isChosen_12 : decode cX5_isChosen 12 = .ok (.goto 4, 3) := by decide +kernel
theorem dX5_isChosen_15 : decode cX5_isChosen 15 = .ok (.iconst 0, 1) := by decide +kernel
theorem dX5_isChosen_16 : decode cX5_isChosen 16 = .ok (.ireturn, 1) := by decide +kernel
theorem dX5_firingsChanged_0 : decode cX5_firingsChanged 0 = .ok (.aload_n 0, 1) := by decide +kernel
theorem dX5_firingsChanged_1 : decode cX5_firingsChanged 1 = .ok (.getfield 10, 3) := by decide +kernel
theorem dX5_firingsChanged_4 : decode cX5_firingsChanged 4 = .ok (.invokevirtual 239, 3) := by decide +kernel
theorem dX5_firingsChanged_7 : decode cX5_firingsChanged 7 = .ok (.aload_n 0, 1) := by decide +kernel
theorem dX5_firingsChanged_8 : decode cX5_firingsChanged 8 = .ok (.getfield 19, 3) := by decide +kernel
theorem dX5_firingsChanged_11 : decode cX5_firingsChanged 11 = .ok (.aload_n 0, 1) := by decide +kernel
theorem dX5_firingsChanged_12 : decode cX5_firingsChanged 12 = .ok (.getfield 10, 3) := by decide +kernel
theorem dX5_firingsChanged_15 : decode cX5_firingsChanged 15 = .ok (.invokevirtual 43, 3) := by decide +kernel
theorem dX5_firingsChanged_18 : decode cX5_firingsChanged 18 = .ok (.return_, 1) := by decide +kernel
theorem dX5_addUp_0 : decode cX5_addUp 0 = .ok (.iload_n 1, 1) := by decide +kernel
theorem dX5_addUp_1 : decode cX5_addUp 1 = .ok (.iconst 1, 1) := by decide +kernel
theorem dX5_addUp_2 : decode cX5_addUp 2 = .ok (.if_icmp .eq 8, 3) := by decide +kernel
theorem dX5_addUp_5 : decode cX5_addUp 5 = .ok (.iload_n 1, 1) := by decide +kernel
theorem dX5_addUp_6 : decode cX5_addUp 6 = .ok (.iconst 3, 1) := by decide +kernel
theorem dX5_addUp_7 : decode cX5_addUp 7 = .ok (.if_icmp .ne 7, 3) := by decide +kernel
theorem dX5_addUp_10 : decode cX5_addUp 10 = .ok (.iconst 1, 1) := by decide +kernel
theorem dX5_addUp_11 : decode cX5_addUp 11 = .ok (.goto 4, 3) := by decide +kernel
theorem dX5_addUp_14 : decode cX5_addUp 14 = .ok (.iconst 0, 1) := by decide +kernel
theorem dX5_addUp_15 : decode cX5_addUp 15 = .ok (.istore_n 2, 1) := by decide +kernel
theorem dX5_addUp_16 : decode cX5_addUp 16 = .ok (.iload_n 1, 1) := by decide +kernel
theorem dX5_addUp_17 : decode cX5_addUp 17 = .ok (.iconst 2, 1) := by decide +kernel
theorem dX5_addUp_18 : decode cX5_addUp 18 = .ok (.if_icmp .eq 8, 3) := by decide +kernel
theorem dX5_addUp_21 : decode cX5_addUp 21 = .ok (.iload_n 1, 1) := by decide +kernel
theorem dX5_addUp_22 : decode cX5_addUp 22 = .ok (.iconst 3, 1) := by decide +kernel
theorem dX5_addUp_23 : decode cX5_addUp 23 = .ok (.if_icmp .ne 7, 3) := by decide +kernel
theorem dX5_addUp_26 : decode cX5_addUp 26 = .ok (.iconst 1, 1) := by decide +kernel
theorem dX5_addUp_27 : decode cX5_addUp 27 = .ok (.goto 4, 3) := by decide +kernel
theorem dX5_addUp_30 : decode cX5_addUp 30 = .ok (.iconst 0, 1) := by decide +kernel
theorem dX5_addUp_31 : decode cX5_addUp 31 = .ok (.istore_n 3, 1) := by decide +kernel
theorem dX5_addUp_32 : decode cX5_addUp 32 = .ok (.aload_n 0, 1) := by decide +kernel
theorem dX5_addUp_33 : decode cX5_addUp 33 = .ok (.getfield 26, 3) := by decide +kernel
theorem dX5_addUp_36 : decode cX5_addUp 36 = .ok (.invokevirtual 242, 3) := by decide +kernel
theorem dX5_addUp_39 : decode cX5_addUp 39 = .ok (.iconst 0, 1) := by decide +kernel
theorem dX5_addUp_40 : decode cX5_addUp 40 = .ok (.istore 4, 2) := by decide +kernel
theorem dX5_addUp_42 : decode cX5_addUp 42 = .ok (.iload 4, 2) := by decide +kernel
theorem dX5_addUp_44 : decode cX5_addUp 44 = .ok (.aload_n 0, 1) := by decide +kernel
theorem dX5_addUp_45 : decode cX5_addUp 45 = .ok (.getfield 10, 3) := by decide +kernel
theorem dX5_addUp_48 : decode cX5_addUp 48 = .ok (.getfield 48, 3) := by decide +kernel
theorem dX5_addUp_51 : decode cX5_addUp 51 = .ok (.if_icmp .ge 87, 3) := by decide +kernel
theorem dX5_addUp_54 : decode cX5_addUp 54 = .ok (.iload_n 3, 1) := by decide +kernel
theorem dX5_addUp_55 : decode cX5_addUp 55 = .ok (.ifCond .eq 18, 3) := by decide +kernel
theorem dX5_addUp_58 : decode cX5_addUp 58 = .ok (.iconst 2, 1) := by decide +kernel
theorem dX5_addUp_59 : decode cX5_addUp 59 = .ok (.aload_n 0, 1) := by decide +kernel
theorem dX5_addUp_60 : decode cX5_addUp 60 = .ok (.getfield 10, 3) := by decide +kernel
theorem dX5_addUp_63 : decode cX5_addUp 63 = .ok (.getfield 70, 3) := by decide +kernel
theorem dX5_addUp_66 : decode cX5_addUp 66 = .ok (.iload 4, 2) := by decide +kernel
theorem dX5_addUp_68 : decode cX5_addUp 68 = .ok (.iaload, 1) := by decide +kernel
theorem dX5_addUp_69 : decode cX5_addUp 69 = .ok (.imul, 1) := by decide +kernel
theorem dX5_addUp_70 : decode cX5_addUp 70 = .ok (.goto 13, 3) := by decide +kernel
theorem dX5_addUp_73 : decode cX5_addUp 73 = .ok (.aload_n 0, 1) := by decide +kernel
theorem dX5_addUp_74 : decode cX5_addUp 74 = .ok (.getfield 10, 3) := by decide +kernel
theorem dX5_addUp_77 : decode cX5_addUp 77 = .ok (.getfield 70, 3) := by decide +kernel
theorem dX5_addUp_80 : decode cX5_addUp 80 = .ok (.iload 4, 2) := by decide +kernel
theorem dX5_addUp_82 : decode cX5_addUp 82 = .ok (.iaload, 1) := by decide +kernel
theorem dX5_addUp_83 : decode cX5_addUp 83 = .ok (.istore 5, 2) := by decide +kernel
theorem dX5_addUp_85 : decode cX5_addUp 85 = .ok (.aload_n 0, 1) := by decide +kernel
theorem dX5_addUp_86 : decode cX5_addUp 86 = .ok (.getfield 26, 3) := by decide +kernel
theorem dX5_addUp_89 : decode cX5_addUp 89 = .ok (.iload 5, 2) := by decide +kernel
theorem dX5_addUp_91 : decode cX5_addUp 91 = .ok (.iload_n 2, 1) := by decide +kernel
theorem dX5_addUp_92 : decode cX5_addUp 92 = .ok (.ifCond .eq 27, 3) := by decide +kernel
theorem dX5_addUp_95 : decode cX5_addUp 95 = .ok (.aload_n 0, 1) := by decide +kernel
theorem dX5_addUp_96 : decode cX5_addUp 96 = .ok (.getfield 10, 3) := by decide +kernel
theorem dX5_addUp_99 : decode cX5_addUp 99 = .ok (.getfield 74, 3) := by decide +kernel
theorem dX5_addUp_102 : decode cX5_addUp 102 = .ok (.iload 4, 2) := by decide +kernel
theorem dX5_addUp_104 : decode cX5_addUp 104 = .ok (.iaload, 1) := by decide +kernel
theorem dX5_addUp_105 : decode cX5_addUp 105 = .ok (.aload_n 0, 1) := by decide +kernel
theorem dX5_addUp_106 : decode cX5_addUp 106 = .ok (.getfield 10, 3) := by decide +kernel
theorem dX5_addUp_109 : decode cX5_addUp 109 = .ok (.getfield 80, 3) := by decide +kernel
theorem dX5_addUp_112 : decode cX5_addUp 112 = .ok (.iload 4, 2) := by decide +kernel
theorem dX5_addUp_114 : decode cX5_addUp 114 = .ok (.iaload, 1) := by decide +kernel
theorem dX5_addUp_115 : decode cX5_addUp 115 = .ok (.imul, 1) := by decide +kernel
