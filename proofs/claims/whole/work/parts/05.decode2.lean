theorem dX3_measure_80 : decode cX3_measure 80 = .ok (.iload_n 2, 1) := by decide +kernel
theorem dX3_measure_81 : decode cX3_measure 81 = .ok (.iaload, 1) := by decide +kernel
theorem dX3_measure_82 : decode cX3_measure 82 = .ok (.aload_n 1, 1) := by decide +kernel
theorem dX3_measure_83 : decode cX3_measure 83 = .ok (.invokevirtual 128, 3) := by decide +kernel
theorem dX3_measure_86 : decode cX3_measure 86 = .ok (.iinc 2 1, 3) := by decide +kernel
theorem dX3_measure_89 : decode cX3_measure 89 = .ok (.goto (-29), 3) := by decide +kernel
theorem dX3_measure_92 : decode cX3_measure 92 = .ok (.return_, 1) := by decide +kernel
theorem dX3_measureBackFrom_0 : decode cX3_measureBackFrom 0 = .ok (.aload_n 0, 1) := by decide +kernel
theorem dX3_measureBackFrom_1 : decode cX3_measureBackFrom 1 = .ok (.getfield 28, 3) := by decide +kernel
theorem dX3_measureBackFrom_4 : decode cX3_measureBackFrom 4 = .ok (.iload_n 1, 1) := by decide +kernel
theorem dX3_measureBackFrom_5 : decode cX3_measureBackFrom 5 = .ok (.iaload, 1) := by decide +kernel
theorem dX3_measureBackFrom_6 : decode cX3_measureBackFrom 6 = .ok (.istore_n 3, 1) := by decide +kernel
theorem dX3_measureBackFrom_7 : decode cX3_measureBackFrom 7 = .ok (.iconst 0, 1) := by decide +kernel
theorem dX3_measureBackFrom_8 : decode cX3_measureBackFrom 8 = .ok (.istore 4, 2) := by decide +kernel
theorem dX3_measureBackFrom_10 : decode cX3_measureBackFrom 10 = .ok (.iload 4, 2) := by decide +kernel
theorem dX3_measureBackFrom_12 : decode cX3_measureBackFrom 12 = .ok (.sipush 1200, 3) := by decide +kernel
theorem dX3_measureBackFrom_15 : decode cX3_measureBackFrom 15 = .ok (.if_icmp .ge 75, 3) := by decide +kernel
theorem dX3_measureBackFrom_18 : decode cX3_measureBackFrom 18 = .ok (.iload_n 3, 1) := by decide +kernel
theorem dX3_measureBackFrom_19 : decode cX3_measureBackFrom 19 = .ok (.ifCond .lt 71, 3) := by decide +kernel
theorem dX3_measureBackFrom_22 : decode cX3_measureBackFrom 22 = .ok (.iload_n 3, 1) := by decide +kernel
theorem dX3_measureBackFrom_23 : decode cX3_measureBackFrom 23 = .ok (.sipush 1200, 3) := by decide +kernel
theorem dX3_measureBackFrom_26 : decode cX3_measureBackFrom 26 = .ok (.if_icmp .ge 64, 3) := by decide +kernel
theorem dX3_measureBackFrom_29 : decode cX3_measureBackFrom 29 = .ok (.iload_n 3, 1) := by decide +kernel
theorem dX3_measureBackFrom_30 : decode cX3_measureBackFrom 30 = .ok (.bipush 8, 2) := by decide +kernel
theorem dX3_measureBackFrom_32 : decode cX3_measureBackFrom 32 = .ok (.idiv, 1) := by decide +kernel
theorem dX3_measureBackFrom_33 : decode cX3_measureBackFrom 33 = .ok (.istore 5, 2) := by decide +kernel
theorem dX3_measureBackFrom_35 : decode cX3_measureBackFrom 35 = .ok (.aload_n 0, 1) := by decide +kernel
theorem dX3_measureBackFrom_36 : decode cX3_measureBackFrom 36 = .ok (.getfield 37, 3) := by decide +kernel
theorem dX3_measureBackFrom_39 : decode cX3_measureBackFrom 39 = .ok (.iload 5, 2) := by decide +kernel
theorem dX3_measureBackFrom_41 : decode cX3_measureBackFrom 41 = .ok (.iaload, 1) := by decide +kernel
theorem dX3_measureBackFrom_42 : decode cX3_measureBackFrom 42 = .ok (.bipush (-9), 2) := by decide +kernel
theorem dX3_measureBackFrom_44 : decode cX3_measureBackFrom 44 = .ok (.if_icmp .ne 33, 3) := by decide +kernel
theorem dX3_measureBackFrom_47 : decode cX3_measureBackFrom 47 = .ok (.iload 5, 2) := by decide +kernel
theorem dX3_measureBackFrom_49 : decode cX3_measureBackFrom 49 = .ok (.aload_n 2, 1) := by decide +kernel
theorem dX3_measureBackFrom_50 : decode cX3_measureBackFrom 50 = .ok (.arraylength, 1) := by decide +kernel
theorem dX3_measureBackFrom_51 : decode cX3_measureBackFrom 51 = .ok (.if_icmp .ge 26, 3) := by decide +kernel
theorem dX3_measureBackFrom_54 : decode cX3_measureBackFrom 54 = .ok (.aload_n 2, 1) := by decide +kernel
theorem dX3_measureBackFrom_55 : decode cX3_measureBackFrom 55 = .ok (.iload 5, 2) := by decide +kernel
theorem dX3_measureBackFrom_57 : decode cX3_measureBackFrom 57 = .ok (.iaload, 1) := by decide +kernel
theorem dX3_measureBackFrom_58 : decode cX3_measureBackFrom 58 = .ok (.bipush (-9), 2) := by decide +kernel
theorem dX3_measureBackFrom_60 : decode cX3_measureBackFrom 60 = .ok (.if_icmp .ne 17, 3) := by decide +kernel
theorem dX3_measureBackFrom_63 : decode cX3_measureBackFrom 63 = .ok (.aload_n 0, 1) := by decide +kernel
theorem dX3_measureBackFrom_64 : decode cX3_measureBackFrom 64 = .ok (.iload 5, 2) := by decide +kernel
theorem dX3_measureBackFrom_66 : decode cX3_measureBackFrom 66 = .ok (.aload_n 0, 1) := by decide +kernel
theorem dX3_measureBackFrom_67 : decode cX3_measureBackFrom 67 = .ok (.getfield 37, 3) := by decide +kernel
theorem dX3_measureBackFrom_70 : decode cX3_measureBackFrom 70 = .ok (.iload_n 1, 1) := by decide +kernel
theorem dX3_measureBackFrom_71 : decode cX3_measureBackFrom 71 = .ok (.iaload, 1) := by decide +kernel
theorem dX3_measureBackFrom_72 : decode cX3_measureBackFrom 72 = .ok (.iconst 1, 1) := by decide +kernel
theorem dX3_measureBackFrom_73 : decode cX3_measureBackFrom 73 = .ok (.iadd, 1) := by decide +kernel
theorem dX3_measureBackFrom_74 : decode cX3_measureBackFrom 74 = .ok (.invokevirtual 124, 3) := by decide +kernel
theorem dX3_measureBackFrom_77 : decode cX3_measureBackFrom 77 = .ok (.aload_n 0, 1) := by decide +kernel
theorem dX3_measureBackFrom_78 : decode cX3_measureBackFrom 78 = .ok (.getfield 31, 3) := by decide +kernel
theorem dX3_measureBackFrom_81 : decode cX3_measureBackFrom 81 = .ok (.iload_n 3, 1) := by decide +kernel
theorem dX3_measureBackFrom_82 : decode cX3_measureBackFrom 82 = .ok (.iaload, 1) := by decide +kernel
theorem dX3_measureBackFrom_83 : decode cX3_measureBackFrom 83 = .ok (.istore_n 3, 1) := by decide +kernel
theorem dX3_measureBackFrom_84 : decode cX3_measureBackFrom 84 = .ok (.iinc 4 1, 3) := by decide +kernel
theorem dX3_measureBackFrom_87 : decode cX3_measureBackFrom 87 = .ok (.goto (-77), 3) := by decide +kernel
theorem dX3_measureBackFrom_90 : decode cX3_measureBackFrom 90 = .ok (.return_, 1) := by decide +kernel
theorem dX3_enqueue_0 : decode cX3_enqueue 0 = .ok (.aload_n 0, 1) := by decide +kernel
theorem dX3_enqueue_1 : decode cX3_enqueue 1 = .ok (.getfield 43, 3) := by decide +kernel
theorem dX3_enqueue_4 : decode cX3_enqueue 4 = .ok (.sipush 150, 3) := by decide +kernel
theorem dX3_enqueue_7 : decode cX3_enqueue 7 = .ok (.if_icmp .ge 30, 3) := by decide +kernel
theorem dX3_enqueue_10 : decode cX3_enqueue 10 = .ok (.aload_n 0, 1) := by decide +kernel
theorem dX3_enqueue_11 : decode cX3_enqueue 11 = .ok (.getfield 37, 3) := by decide +kernel
theorem dX3_enqueue_14 : decode cX3_enqueue 14 = .ok (.iload_n 1, 1) := by decide +kernel
theorem dX3_enqueue_15 : decode cX3_enqueue 15 = .ok (.iload_n 2, 1) := by decide +kernel
theorem dX3_enqueue_16 : decode cX3_enqueue 16 = .ok (.iastore, 1) := by decide +kernel
theorem dX3_enqueue_17 : decode cX3_enqueue 17 = .ok (.aload_n 0, 1) := by decide +kernel
theorem dX3_enqueue_18 : decode cX3_enqueue 18 = .ok (.getfield 40, 3) := by decide +kernel
theorem dX3_enqueue_21 : decode cX3_enqueue 21 = .ok (.aload_n 0, 1) := by decide +kernel
theorem dX3_enqueue_22 : decode cX3_enqueue 22 = .ok (.getfield 43, 3) := by decide +kernel
theorem dX3_enqueue_25 : decode cX3_enqueue 25 = .ok (.iload_n 1, 1) := by decide +kernel
theorem dX3_enqueue_26 : decode cX3_enqueue 26 = .ok (.iastore, 1) := by decide +kernel
theorem dX3_enqueue_27 : decode cX3_enqueue 27 = .ok (.aload_n 0, 1) := by decide +kernel
theorem dX3_enqueue_28 : decode cX3_enqueue 28 = .ok (.dup, 1) := by decide +kernel
theorem dX3_enqueue_29 : decode cX3_enqueue 29 = .ok (.getfield 43, 3) := by decide +kernel
theorem dX3_enqueue_32 : decode cX3_enqueue 32 = .ok (.iconst 1, 1) := by decide +kernel
theorem dX3_enqueue_33 : decode cX3_enqueue 33 = .ok (.iadd, 1) := by decide +kernel
theorem dX3_enqueue_34 : decode cX3_enqueue 34 = .ok (.putfield 43, 3) := by decide +kernel
theorem dX3_enqueue_37 : decode cX3_enqueue 37 = .ok (.return_, 1) := by decide +kernel
theorem dX3_countStuck_0 : decode cX3_countStuck 0 = .ok (.aload_n 0, 1) := by decide +kernel
theorem dX3_countStuck_1 : decode cX3_countStuck 1 = .ok (.getfield 53, 3) := by decide +kernel
theorem dX3_countStuck_4 : decode cX3_countStuck 4 = .ok (.aload_n 0, 1) := by decide +kernel
theorem dX3_countStuck_5 : decode cX3_countStuck 5 = .ok (.getfield 43, 3) := by decide +kernel
theorem dX3_countStuck_8 : decode cX3_countStuck 8 = .ok (.isub, 1) := by decide +kernel
theorem dX3_countStuck_9 : decode cX3_countStuck 9 = .ok (.ireturn, 1) := by decide +kernel
theorem dX3_eventToFinish_0 : decode cX3_eventToFinish 0 = .ok (.iload_n 1, 1) := by decide +kernel
theorem dX3_eventToFinish_1 : decode cX3_eventToFinish 1 = .ok (.istore_n 3, 1) := by decide +kernel
theorem dX3_eventToFinish_2 : decode cX3_eventToFinish 2 = .ok (.iconst 0, 1) := by decide +kernel
theorem dX3_eventToFinish_3 : decode cX3_eventToFinish 3 = .ok (.istore 4, 2) := by decide +kernel
theorem dX3_eventToFinish_5 : decode cX3_eventToFinish 5 = .ok (.iload 4, 2) := by decide +kernel
theorem dX3_eventToFinish_7 : decode cX3_eventToFinish 7 = .ok (.iload_n 2, 1) := by decide +kernel
theorem dX3_eventToFinish_8 : decode cX3_eventToFinish 8 = .ok (.if_icmp .ge 28, 3) := by decide +kernel
theorem dX3_eventToFinish_11 : decode cX3_eventToFinish 11 = .ok (.aload_n 0, 1) := by decide +kernel
theorem dX3_eventToFinish_12 : decode cX3_eventToFinish 12 = .ok (.iload_n 3, 1) := by decide +kernel
theorem dX3_eventToFinish_13 : decode cX3_eventToFinish 13 = .ok (.invokevirtual 107, 3) := by decide +kernel
theorem dX3_eventToFinish_16 : decode cX3_eventToFinish 16 = .ok (.ifCond .eq 20, 3) := by decide +kernel
theorem dX3_eventToFinish_19 : decode cX3_eventToFinish 19 = .ok (.aload_n 0, 1) := by decide +kernel
theorem dX3_eventToFinish_20 : decode cX3_eventToFinish 20 = .ok (.iload_n 3, 1) := by decide +kernel
theorem dX3_eventToFinish_21 : decode cX3_eventToFinish 21 = .ok (.aload_n 0, 1) := by decide +kernel
theorem dX3_eventToFinish_22 : decode cX3_eventToFinish 22 = .ok (.iload_n 3, 1) := by decide +kernel
theorem dX3_eventToFinish_23 : decode cX3_eventToFinish 23 = .ok (.invokevirtual 132, 3) := by decide +kernel
theorem dX3_eventToFinish_26 : decode cX3_eventToFinish 26 = .ok (.invokevirtual 135, 3) := by decide +kernel
theorem dX3_eventToFinish_29 : decode cX3_eventToFinish 29 = .ok (.istore_n 3, 1) := by decide +kernel
theorem dX3_eventToFinish_30 : decode cX3_eventToFinish 30 = .ok (.iinc 4 1, 3) := by decide +kernel
theorem dX3_eventToFinish_33 : decode cX3_eventToFinish 33 = .ok (.goto (-28), 3) := by decide +kernel
theorem dX3_eventToFinish_36 : decode cX3_eventToFinish 36 = .ok (.aload_n 0, 1) := by decide +kernel
theorem dX3_eventToFinish_37 : decode cX3_eventToFinish 37 = .ok (.iload_n 3, 1) := by decide +kernel
theorem dX3_eventToFinish_38 : decode cX3_eventToFinish 38 = .ok (.invokevirtual 132, 3) := by decide +kernel
theorem dX3_eventToFinish_41 : decode cX3_eventToFinish 41 = .ok (.ireturn, 1) := by decide +kernel
theorem dX3_nearerBy_0 : decode cX3_nearerBy 0 = .ok (.aload_n 0, 1) := by decide +kernel
theorem dX3_nearerBy_1 : decode cX3_nearerBy 1 = .ok (.iload_n 1, 1) := by decide +kernel
theorem dX3_nearerBy_2 : decode cX3_nearerBy 2 = .ok (.invokevirtual 136, 3) := by decide +kernel
theorem dX3_nearerBy_5 : decode cX3_nearerBy 5 = .ok (.ifCond .le 39, 3) := by decide +kernel
theorem dX3_nearerBy_8 : decode cX3_nearerBy 8 = .ok (.iconst 0, 1) := by decide +kernel
theorem dX3_nearerBy_9 : decode cX3_nearerBy 9 = .ok (.istore_n 2, 1) := by decide +kernel
theorem dX3_nearerBy_10 : decode cX3_nearerBy 10 = .ok (.iload_n 2, 1) := by decide +kernel
theorem dX3_nearerBy_11 : decode cX3_nearerBy 11 = .ok (.bipush 8, 2) := by decide +kernel
theorem dX3_nearerBy_13 : decode cX3_nearerBy 13 = .ok (.if_icmp .ge 31, 3) := by decide +kernel
theorem dX3_nearerBy_16 : decode cX3_nearerBy 16 = .ok (.aload_n 0, 1) := by decide +kernel
theorem dX3_nearerBy_17 : decode cX3_nearerBy 17 = .ok (.aload_n 0, 1) := by decide +kernel
theorem dX3_nearerBy_18 : decode cX3_nearerBy 18 = .ok (.iload_n 1, 1) := by decide +kernel
theorem dX3_nearerBy_19 : decode cX3_nearerBy 19 = .ok (.iload_n 2, 1) := by decide +kernel
theorem dX3_nearerBy_20 : decode cX3_nearerBy 20 = .ok (.invokevirtual 135, 3) := by decide +kernel
theorem dX3_nearerBy_23 : decode cX3_nearerBy 23 = .ok (.invokevirtual 136, 3) := by decide +kernel
theorem dX3_nearerBy_26 : decode cX3_nearerBy 26 = .ok (.aload_n 0, 1) := by decide +kernel
theorem dX3_nearerBy_27 : decode cX3_nearerBy 27 = .ok (.iload_n 1, 1) := by decide +kernel
theorem dX3_nearerBy_28 : decode cX3_nearerBy 28 = .ok (.invokevirtual 136, 3) := by decide +kernel
theorem dX3_nearerBy_31 : decode cX3_nearerBy 31 = .ok (.iconst 1, 1) := by decide +kernel
theorem dX3_nearerBy_32 : decode cX3_nearerBy 32 = .ok (.isub, 1) := by decide +kernel
theorem dX3_nearerBy_33 : decode cX3_nearerBy 33 = .ok (.if_icmp .ne 5, 3) := by decide +kernel
theorem dX3_nearerBy_36 : decode cX3_nearerBy 36 = .ok (.iload_n 2, 1) := by decide +kernel
theorem dX3_nearerBy_37 : decode cX3_nearerBy 37 = .ok (.ireturn, 1) := by decide +kernel
theorem dX3_nearerBy_38 : decode cX3_nearerBy 38 = .ok (.iinc 2 1, 3) := by decide +kernel
theorem dX3_nearerBy_41 : decode cX3_nearerBy 41 = .ok (.goto (-31), 3) := by decide +kernel
theorem dX3_nearerBy_44 : decode cX3_nearerBy 44 = .ok (.bipush (-9), 2) := by decide +kernel
theorem dX3_nearerBy_46 : decode cX3_nearerBy 46 = .ok (.ireturn, 1) := by decide +kernel
theorem dX3_has_0 : decode cX3_has 0 = .ok (.iload_n 1, 1) := by decide +kernel
theorem dX3_has_1 : decode cX3_has 1 = .ok (.ifCond .lt 22, 3) := by decide +kernel
theorem dX3_has_4 : decode cX3_has 4 = .ok (.iload_n 1, 1) := by decide +kernel
theorem dX3_has_5 : decode cX3_has 5 = .ok (.aload_n 0, 1) := by decide +kernel
theorem dX3_has_6 : decode cX3_has 6 = .ok (.getfield 53, 3) := by decide +kernel
theorem dX3_has_9 : decode cX3_has 9 = .ok (.if_icmp .ge 14, 3) := by decide +kernel
theorem dX3_has_12 : decode cX3_has 12 = .ok (.iload_n 1, 1) := by decide +kernel
theorem dX3_has_13 : decode cX3_has 13 = .ok (.sipush 150, 3) := by decide +kernel
theorem dX3_has_16 : decode cX3_has 16 = .ok (.if_icmp .ge 7, 3) := by decide +kernel
theorem dX3_has_19 : decode cX3_has 19 = .ok (.iconst 1, 1) := by decide +kernel
theorem dX3_has_20 : decode cX3_has 20 = .ok (.goto 4, 3) := by decide +kernel
theorem dX3_has_23 : decode cX3_has 23 = .ok (.iconst 0, 1) := by decide +kernel
theorem dX3_has_24 : decode cX3_has 24 = .ok (.ireturn, 1) := by decide +kernel
theorem dX3_stateIn_0 : decode cX3_stateIn 0 = .ok (.aload_n 0, 1) := by decide +kernel
theorem dX3_stateIn_1 : decode cX3_stateIn 1 = .ok (.iload_n 1, 1) := by decide +kernel
theorem dX3_stateIn_2 : decode cX3_stateIn 2 = .ok (.invokevirtual 107, 3) := by decide +kernel
theorem dX3_stateIn_5 : decode cX3_stateIn 5 = .ok (.ifCond .eq 19, 3) := by decide +kernel
theorem dX3_stateIn_8 : decode cX3_stateIn 8 = .ok (.aload_n 0, 1) := by decide +kernel
theorem dX3_stateIn_9 : decode cX3_stateIn 9 = .ok (.getfield 9, 3) := by decide +kernel
theorem dX3_stateIn_12 : decode cX3_stateIn 12 = .ok (.iload_n 1, 1) := by decide +kernel
theorem dX3_stateIn_13 : decode cX3_stateIn 13 = .ok (.iaload, 1) := by decide +kernel
theorem dX3_stateIn_14 : decode cX3_stateIn 14 = .ok (.iload_n 2, 1) := by decide +kernel
theorem dX3_stateIn_15 : decode cX3_stateIn 15 = .ok (.iconst 3, 1) := by decide +kernel
theorem dX3_stateIn_16 : decode cX3_stateIn 16 = .ok (.imul, 1) := by decide +kernel
theorem dX3_stateIn_17 : decode cX3_stateIn 17 = .ok (.ishr, 1) := by decide +kernel
theorem dX3_stateIn_18 : decode cX3_stateIn 18 = .ok (.bipush 7, 2) := by decide +kernel
theorem dX3_stateIn_20 : decode cX3_stateIn 20 = .ok (.iand, 1) := by decide +kernel
theorem dX3_stateIn_21 : decode cX3_stateIn 21 = .ok (.goto 5, 3) := by decide +kernel
theorem dX3_stateIn_24 : decode cX3_stateIn 24 = .ok (.bipush (-9), 2) := by decide +kernel
theorem dX3_stateIn_26 : decode cX3_stateIn 26 = .ok (.ireturn, 1) := by decide +kernel
theorem dX3_target_0 : decode cX3_target 0 = .ok (.aload_n 0, 1) := by decide +kernel
theorem dX3_target_1 : decode cX3_target 1 = .ok (.iload_n 1, 1) := by decide +kernel
theorem dX3_target_2 : decode cX3_target 2 = .ok (.invokevirtual 107, 3) := by decide +kernel
theorem dX3_target_5 : decode cX3_target 5 = .ok (.ifCond .eq 24, 3) := by decide +kernel
theorem dX3_target_8 : decode cX3_target 8 = .ok (.iload_n 2, 1) := by decide +kernel
theorem dX3_target_9 : decode cX3_target 9 = .ok (.invokestatic 139, 3) := by decide +kernel
theorem dX3_target_12 : decode cX3_target 12 = .ok (.ifCond .eq 17, 3) := by decide +kernel
theorem dX3_target_15 : decode cX3_target 15 = .ok (.aload_n 0, 1) := by decide +kernel
theorem dX3_target_16 : decode cX3_target 16 = .ok (.getfield 25, 3) := by decide +kernel
theorem dX3_target_19 : decode cX3_target 19 = .ok (.iload_n 1, 1) := by decide +kernel
theorem dX3_target_20 : decode cX3_target 20 = .ok (.bipush 8, 2) := by decide +kernel
theorem dX3_target_22 : decode cX3_target 22 = .ok (.imul, 1) := by decide +kernel
theorem dX3_target_23 : decode cX3_target 23 = .ok (.iload_n 2, 1) := by decide +kernel
theorem dX3_target_24 : decode cX3_target 24 = .ok (.iadd, 1) := by decide +kernel
theorem dX3_target_25 : decode cX3_target 25 = .ok (.iaload, 1) := by decide +kernel
theorem dX3_target_26 : decode cX3_target 26 = .ok (.goto 5, 3) := by decide +kernel
theorem dX3_target_29 : decode cX3_target 29 = .ok (.bipush (-9), 2) := by decide +kernel
theorem dX3_target_31 : decode cX3_target 31 = .ok (.ireturn, 1) := by decide +kernel
theorem dX3_isFinished_0 : decode cX3_isFinished 0 = .ok (.aload_n 0, 1) := by decide +kernel
theorem dX3_isFinished_1 : decode cX3_isFinished 1 = .ok (.iload_n 1, 1) := by decide +kernel
theorem dX3_isFinished_2 : decode cX3_isFinished 2 = .ok (.invokevirtual 107, 3) := by decide +kernel
theorem dX3_isFinished_5 : decode cX3_isFinished 5 = .ok (.ifCond .eq 16, 3) := by decide +kernel
theorem dX3_isFinished_8 : decode cX3_isFinished 8 = .ok (.aload_n 0, 1) := by decide +kernel
theorem dX3_isFinished_9 : decode cX3_isFinished 9 = .ok (.getfield 21, 3) := by decide +kernel
theorem dX3_isFinished_12 : decode cX3_isFinished 12 = .ok (.iload_n 1, 1) := by decide +kernel
theorem dX3_isFinished_13 : decode cX3_isFinished 13 = .ok (.baload, 1) := by decide +kernel
theorem dX3_isFinished_14 : decode cX3_isFinished 14 = .ok (.ifCond .eq 7, 3) := by decide +kernel
theorem dX3_isFinished_17 : decode cX3_isFinished 17 = .ok (.iconst 1, 1) := by decide +kernel
theorem dX3_isFinished_18 : decode cX3_isFinished 18 = .ok (.goto 4, 3) := by decide +kernel
theorem dX3_isFinished_21 : decode cX3_isFinished 21 = .ok (.iconst 0, 1) := by decide +kernel
theorem dX3_isFinished_22 : decode cX3_isFinished 22 = .ok (.ireturn, 1) := by decide +kernel
theorem dX3_leadSet_0 : decode cX3_leadSet 0 = .ok (.aload_n 0, 1) := by decide +kernel
theorem dX3_leadSet_1 : decode cX3_leadSet 1 = .ok (.iload_n 1, 1) := by decide +kernel
theorem dX3_leadSet_2 : decode cX3_leadSet 2 = .ok (.invokevirtual 107, 3) := by decide +kernel
theorem dX3_leadSet_5 : decode cX3_leadSet 5 = .ok (.ifCond .eq 12, 3) := by decide +kernel
theorem dX3_leadSet_8 : decode cX3_leadSet 8 = .ok (.aload_n 0, 1) := by decide +kernel
theorem dX3_leadSet_9 : decode cX3_leadSet 9 = .ok (.getfield 15, 3) := by decide +kernel
theorem dX3_leadSet_12 : decode cX3_leadSet 12 = .ok (.iload_n 1, 1) := by decide +kernel
theorem dX3_leadSet_13 : decode cX3_leadSet 13 = .ok (.iaload, 1) := by decide +kernel
theorem dX3_leadSet_14 : decode cX3_leadSet 14 = .ok (.goto 4, 3) := by decide +kernel
theorem dX3_leadSet_17 : decode cX3_leadSet 17 = .ok (.iconst 0, 1) := by decide +kernel
theorem dX3_leadSet_18 : decode cX3_leadSet 18 = .ok (.ireturn, 1) := by decide +kernel
theorem dX3_clashSet_0 : decode cX3_clashSet 0 = .ok (.aload_n 0, 1) := by decide +kernel
theorem dX3_clashSet_1 : decode cX3_clashSet 1 = .ok (.iload_n 1, 1) := by decide +kernel
theorem dX3_clashSet_2 : decode cX3_clashSet 2 = .ok (.invokevirtual 107, 3) := by decide +kernel
theorem dX3_clashSet_5 : decode cX3_clashSet 5 = .ok (.ifCond .eq 14, 3) := by decide +kernel
theorem dX3_clashSet_8 : decode cX3_clashSet 8 = .ok (.aload_n 0, 1) := by decide +kernel
theorem dX3_clashSet_9 : decode cX3_clashSet 9 = .ok (.getfield 18, 3) := by decide +kernel
theorem dX3_clashSet_12 : decode cX3_clashSet 12 = .ok (.iload_n 1, 1) := by decide +kernel
theorem dX3_clashSet_13 : decode cX3_clashSet 13 = .ok (.iaload, 1) := by decide +kernel
theorem dX3_clashSet_14 : decode cX3_clashSet 14 = .ok (.iload_n 2, 1) := by decide +kernel
theorem dX3_clashSet_15 : decode cX3_clashSet 15 = .ok (.iand, 1) := by decide +kernel
theorem dX3_clashSet_16 : decode cX3_clashSet 16 = .ok (.goto 4, 3) := by decide +kernel
theorem dX3_clashSet_19 : decode cX3_clashSet 19 = .ok (.iconst 0, 1) := by decide +kernel
theorem dX3_clashSet_20 : decode cX3_clashSet 20 = .ok (.ireturn, 1) := by decide +kernel
theorem dX3_farOf_0 : decode cX3_farOf 0 = .ok (.aload_n 0, 1) := by decide +kernel
theorem dX3_farOf_1 : decode cX3_farOf 1 = .ok (.iload_n 1, 1) := by decide +kernel
theorem dX3_farOf_2 : decode cX3_farOf 2 = .ok (.invokevirtual 107, 3) := by decide +kernel
theorem dX3_farOf_5 : decode cX3_farOf 5 = .ok (.ifCond .eq 12, 3) := by decide +kernel
theorem dX3_farOf_8 : decode cX3_farOf 8 = .ok (.aload_n 0, 1) := by decide +kernel
theorem dX3_farOf_9 : decode cX3_farOf 9 = .ok (.getfield 37, 3) := by decide +kernel
theorem dX3_farOf_12 : decode cX3_farOf 12 = .ok (.iload_n 1, 1) := by decide +kernel
theorem dX3_farOf_13 : decode cX3_farOf 13 = .ok (.iaload, 1) := by decide +kernel
theorem dX3_farOf_14 : decode cX3_farOf 14 = .ok (.goto 5, 3) := by decide +kernel
theorem dX3_farOf_17 : decode cX3_farOf 17 = .ok (.bipush (-9), 2) := by decide +kernel
theorem dX3_farOf_19 : decode cX3_farOf 19 = .ok (.ireturn, 1) := by decide +kernel
theorem dX4_init_0 : decode cX4_init 0 = .ok (.aload_n 0, 1) := by decide +kernel
theorem dX4_init_1 : decode cX4_init 1 = .ok (.invokespecial 3, 3) := by decide +kernel
theorem dX4_init_4 : decode cX4_init 4 = .ok (.aload_n 0, 1) := by decide +kernel
theorem dX4_init_5 : decode cX4_init 5 = .ok (.iconst 0, 1) := by decide +kernel
theorem dX4_init_6 : decode cX4_init 6 = .ok (.putfield 11, 3) := by decide +kernel
theorem dX4_init_9 : decode cX4_init 9 = .ok (.aload_n 0, 1) := by decide +kernel
theorem dX4_init_10 : decode cX4_init 10 = .ok (.iconst 0, 1) := by decide +kernel
theorem dX4_init_11 : decode cX4_init 11 = .ok (.putfield 15, 3) := by decide +kernel
theorem dX4_init_14 : decode cX4_init 14 = .ok (.aload_n 0, 1) := by decide +kernel
theorem dX4_init_15 : decode cX4_init 15 = .ok (.iconst 0, 1) := by decide +kernel
theorem dX4_init_16 : decode cX4_init 16 = .ok (.putfield 18, 3) := by decide +kernel
theorem dX4_init_19 : decode cX4_init 19 = .ok (.return_, 1) := by decide +kernel
theorem dX4_read_0 : decode cX4_read 0 = .ok (.aload_n 2, 1) := by decide +kernel
theorem dX4_read_1 : decode cX4_read 1 = .ok (.iload_n 3, 1) := by decide +kernel
theorem dX4_read_2 : decode cX4_read 2 = .ok (.invokevirtual 21, 3) := by decide +kernel
theorem dX4_read_5 : decode cX4_read 5 = .ok (.aload_n 0, 1) := by decide +kernel
theorem dX4_read_6 : decode cX4_read 6 = .ok (.iconst 0, 1) := by decide +kernel
theorem dX4_read_7 : decode cX4_read 7 = .ok (.putfield 11, 3) := by decide +kernel
theorem dX4_read_10 : decode cX4_read 10 = .ok (.iconst 0, 1) := by decide +kernel
theorem dX4_read_11 : decode cX4_read 11 = .ok (.istore 4, 2) := by decide +kernel
theorem dX4_read_13 : decode cX4_read 13 = .ok (.iload 4, 2) := by decide +kernel
theorem dX4_read_15 : decode cX4_read 15 = .ok (.aload_n 1, 1) := by decide +kernel
theorem dX4_read_16 : decode cX4_read 16 = .ok (.getfield 27, 3) := by decide +kernel
theorem dX4_read_19 : decode cX4_read 19 = .ok (.if_icmp .ge 34, 3) := by decide +kernel
theorem dX4_read_22 : decode cX4_read 22 = .ok (.iload 4, 2) := by decide +kernel
theorem dX4_read_24 : decode cX4_read 24 = .ok (.bipush 60, 2) := by decide +kernel
theorem dX4_read_26 : decode cX4_read 26 = .ok (.if_icmp .ge 27, 3) := by decide +kernel
theorem dX4_read_29 : decode cX4_read 29 = .ok (.aload_n 0, 1) := by decide +kernel
theorem dX4_read_30 : decode cX4_read 30 = .ok (.aload_n 1, 1) := by decide +kernel
theorem dX4_read_31 : decode cX4_read 31 = .ok (.getfield 32, 3) := by decide +kernel
theorem dX4_read_34 : decode cX4_read 34 = .ok (.iload 4, 2) := by decide +kernel
theorem dX4_read_36 : decode cX4_read 36 = .ok (.iaload, 1) := by decide +kernel
theorem dX4_read_37 : decode cX4_read 37 = .ok (.aload_n 2, 1) := by decide +kernel
theorem dX4_read_38 : decode cX4_read 38 = .ok (.invokevirtual 36, 3) := by decide +kernel
theorem dX4_read_41 : decode cX4_read 41 = .ok (.ifCond .ne 6, 3) := by decide +kernel
theorem dX4_read_44 : decode cX4_read 44 = .ok (.iload 4, 2) := by decide +kernel
theorem dX4_read_46 : decode cX4_read 46 = .ok (.ireturn, 1) := by decide +kernel
theorem dX4_read_47 : decode cX4_read 47 = .ok (.iinc 4 1, 3) := by decide +kernel
theorem dX4_read_50 : decode cX4_read 50 = .ok (.goto (-37), 3) := by decide +kernel
theorem dX4_read_53 : decode cX4_read 53 = .ok (.aload_n 0, 1) := by decide +kernel
theorem dX4_read_54 : decode cX4_read 54 = .ok (.getfield 11, 3) := by decide +kernel
theorem dX4_read_57 : decode cX4_read 57 = .ok (.iconst 5, 1) := by decide +kernel
theorem dX4_read_58 : decode cX4_read 58 = .ok (.if_icmp .ne 8, 3) := by decide +kernel
theorem dX4_read_61 : decode cX4_read 61 = .ok (.bipush (-9), 2) := by decide +kernel
theorem dX4_read_63 : decode cX4_read 63 = .ok (.goto 7, 3) := by decide +kernel
theorem dX4_read_66 : decode cX4_read 66 = .ok (.aload_n 1, 1) := by decide +kernel
theorem dX4_read_67 : decode cX4_read 67 = .ok (.getfield 27, 3) := by decide +kernel
theorem dX4_read_70 : decode cX4_read 70 = .ok (.ireturn, 1) := by decide +kernel
theorem dX4_takes_0 : decode cX4_takes 0 = .ok (.aload_n 0, 1) := by decide +kernel
theorem dX4_takes_1 : decode cX4_takes 1 = .ok (.getfield 11, 3) := by decide +kernel
theorem dX4_takes_4 : decode cX4_takes 4 = .ok (.tableswitch 69 0 4 #[36, 42, 48, 55, 62], 36) := by decide +kernel
theorem dX4_takes_40 : decode cX4_takes 40 = .ok (.aload_n 0, 1) := by decide +kernel
theorem dX4_takes_41 : decode cX4_takes 41 = .ok (.iload_n 1, 1) := by decide +kernel
theorem dX4_takes_42 : decode cX4_takes 42 = .ok (.invokevirtual 40, 3) := by decide +kernel
theorem dX4_takes_45 : decode cX4_takes 45 = .ok (.ireturn, 1) := by decide +kernel
theorem dX4_takes_46 : decode cX4_takes 46 = .ok (.aload_n 0, 1) := by decide +kernel
theorem dX4_takes_47 : decode cX4_takes 47 = .ok (.iload_n 1, 1) := by decide +kernel
theorem dX4_takes_48 : decode cX4_takes 48 = .ok (.invokevirtual 44, 3) := by decide +kernel
theorem dX4_takes_51 : decode cX4_takes 51 = .ok (.ireturn, 1) := by decide +kernel
theorem dX4_takes_52 : decode cX4_takes 52 = .ok (.aload_n 0, 1) := by decide +kernel
theorem dX4_takes_53 : decode cX4_takes 53 = .ok (.iload_n 1, 1) := by decide +kernel
theorem dX4_takes_54 : decode cX4_takes 54 = .ok (.aload_n 2, 1) := by decide +kernel
theorem dX4_takes_55 : decode cX4_takes 55 = .ok (.invokevirtual 47, 3) := by decide +kernel
theorem dX4_takes_58 : decode cX4_takes 58 = .ok (.ireturn, 1) := by decide +kernel
theorem dX4_takes_59 : decode cX4_takes 59 = .ok (.aload_n 0, 1) := by decide +kernel
theorem dX4_takes_60 : decode cX4_takes 60 = .ok (.iload_n 1, 1) := by decide +kernel
theorem dX4_takes_61 : decode cX4_takes 61 = .ok (.aload_n 2, 1) := by decide +kernel
theorem dX4_takes_62 : decode cX4_takes 62 = .ok (.invokevirtual 50, 3) := by decide +kernel
theorem dX4_takes_65 : decode cX4_takes 65 = .ok (.ireturn, 1) := by decide +kernel
theorem dX4_takes_66 : decode cX4_takes 66 = .ok (.aload_n 0, 1) := by decide +kernel
theorem dX4_takes_67 : decode cX4_takes 67 = .ok (.iload_n 1, 1) := by decide +kernel
theorem dX4_takes_68 : decode cX4_takes 68 = .ok (.aload_n 2, 1) := by decide +kernel
theorem dX4_takes_69 : decode cX4_takes 69 = .ok (.invokevirtual 53, 3) := by decide +kernel
theorem dX4_takes_72 : decode cX4_takes 72 = .ok (.ireturn, 1) := by decide +kernel
theorem dX4_takes_73 : decode cX4_takes 73 = .ok (.aload_n 0, 1) := by decide +kernel
theorem dX4_takes_74 : decode cX4_takes 74 = .ok (.iload_n 1, 1) := by decide +kernel
theorem dX4_takes_75 : decode cX4_takes 75 = .ok (.invokevirtual 56, 3) := by decide +kernel
theorem dX4_takes_78 : decode cX4_takes 78 = .ok (.ireturn, 1) := by decide +kernel
theorem dX4_opensItem_0 : decode cX4_opensItem 0 = .ok (.iload_n 1, 1) := by decide +kernel
theorem dX4_opensItem_1 : decode cX4_opensItem 1 = .ok (.bipush 42, 2) := by decide +kernel
theorem dX4_opensItem_3 : decode cX4_opensItem 3 = .ok (.if_icmp .ne 10, 3) := by decide +kernel
theorem dX4_opensItem_6 : decode cX4_opensItem 6 = .ok (.aload_n 0, 1) := by decide +kernel
theorem dX4_opensItem_7 : decode cX4_opensItem 7 = .ok (.iconst 3, 1) := by decide +kernel
theorem dX4_opensItem_8 : decode cX4_opensItem 8 = .ok (.putfield 11, 3) := by decide +kernel
theorem dX4_opensItem_11 : decode cX4_opensItem 11 = .ok (.iconst 1, 1) := by decide +kernel
theorem dX4_opensItem_12 : decode cX4_opensItem 12 = .ok (.ireturn, 1) := by decide +kernel
theorem dX4_opensItem_13 : decode cX4_opensItem 13 = .ok (.iload_n 1, 1) := by decide +kernel
theorem dX4_opensItem_14 : decode cX4_opensItem 14 = .ok (.bipush 33, 2) := by decide +kernel
theorem dX4_opensItem_16 : decode cX4_opensItem 16 = .ok (.if_icmp .ne 10, 3) := by decide +kernel
theorem dX4_opensItem_19 : decode cX4_opensItem 19 = .ok (.aload_n 0, 1) := by decide +kernel
theorem dX4_opensItem_20 : decode cX4_opensItem 20 = .ok (.iconst 4, 1) := by decide +kernel
theorem dX4_opensItem_21 : decode cX4_opensItem 21 = .ok (.putfield 11, 3) := by decide +kernel
theorem dX4_opensItem_24 : decode cX4_opensItem 24 = .ok (.iconst 1, 1) := by decide +kernel
theorem dX4_opensItem_25 : decode cX4_opensItem 25 = .ok (.ireturn, 1) := by decide +kernel
theorem dX4_opensItem_26 : decode cX4_opensItem 26 = .ok (.aload_n 0, 1) := by decide +kernel
theorem dX4_opensItem_27 : decode cX4_opensItem 27 = .ok (.iload_n 1, 1) := by decide +kernel
theorem dX4_opensItem_28 : decode cX4_opensItem 28 = .ok (.bipush 48, 2) := by decide +kernel
theorem dX4_opensItem_30 : decode cX4_opensItem 30 = .ok (.isub, 1) := by decide +kernel
theorem dX4_opensItem_31 : decode cX4_opensItem 31 = .ok (.putfield 15, 3) := by decide +kernel
theorem dX4_opensItem_34 : decode cX4_opensItem 34 = .ok (.aload_n 0, 1) := by decide +kernel
theorem dX4_opensItem_35 : decode cX4_opensItem 35 = .ok (.iconst 1, 1) := by decide +kernel
theorem dX4_opensItem_36 : decode cX4_opensItem 36 = .ok (.putfield 11, 3) := by decide +kernel
theorem dX4_opensItem_39 : decode cX4_opensItem 39 = .ok (.aload_n 0, 1) := by decide +kernel
theorem dX4_opensItem_40 : decode cX4_opensItem 40 = .ok (.getfield 15, 3) := by decide +kernel
theorem dX4_opensItem_43 : decode cX4_opensItem 43 = .ok (.invokestatic 59, 3) := by decide +kernel
theorem dX4_opensItem_46 : decode cX4_opensItem 46 = .ok (.ireturn, 1) := by decide +kernel
theorem dX4_takesLetter_0 : decode cX4_takesLetter 0 = .ok (.aload_n 0, 1) := by decide +kernel
theorem dX4_takesLetter_1 : decode cX4_takesLetter 1 = .ok (.iload_n 1, 1) := by decide +kernel
theorem dX4_takesLetter_2 : decode cX4_takesLetter 2 = .ok (.bipush 97, 2) := by decide +kernel
theorem dX4_takesLetter_4 : decode cX4_takesLetter 4 = .ok (.isub, 1) := by decide +kernel
theorem dX4_takesLetter_5 : decode cX4_takesLetter 5 = .ok (.putfield 18, 3) := by decide +kernel
theorem dX4_takesLetter_8 : decode cX4_takesLetter 8 = .ok (.aload_n 0, 1) := by decide +kernel
theorem dX4_takesLetter_9 : decode cX4_takesLetter 9 = .ok (.iconst 2, 1) := by decide +kernel
theorem dX4_takesLetter_10 : decode cX4_takesLetter 10 = .ok (.putfield 11, 3) := by decide +kernel
theorem dX4_takesLetter_13 : decode cX4_takesLetter 13 = .ok (.aload_n 0, 1) := by decide +kernel
theorem dX4_takesLetter_14 : decode cX4_takesLetter 14 = .ok (.getfield 18, 3) := by decide +kernel
theorem dX4_takesLetter_17 : decode cX4_takesLetter 17 = .ok (.invokestatic 62, 3) := by decide +kernel
theorem dX4_takesLetter_20 : decode cX4_takesLetter 20 = .ok (.ireturn, 1) := by decide +kernel
theorem dX4_takesFigure_0 : decode cX4_takesFigure 0 = .ok (.aload_n 0, 1) := by decide +kernel
theorem dX4_takesFigure_1 : decode cX4_takesFigure 1 = .ok (.iconst 5, 1) := by decide +kernel
theorem dX4_takesFigure_2 : decode cX4_takesFigure 2 = .ok (.putfield 11, 3) := by decide +kernel
theorem dX4_takesFigure_5 : decode cX4_takesFigure 5 = .ok (.aload_n 2, 1) := by decide +kernel
theorem dX4_takesFigure_6 : decode cX4_takesFigure 6 = .ok (.aload_n 0, 1) := by decide +kernel
theorem dX4_takesFigure_7 : decode cX4_takesFigure 7 = .ok (.getfield 15, 3) := by decide +kernel
theorem dX4_takesFigure_10 : decode cX4_takesFigure 10 = .ok (.aload_n 0, 1) := by decide +kernel
theorem dX4_takesFigure_11 : decode cX4_takesFigure 11 = .ok (.getfield 18, 3) := by decide +kernel
theorem dX4_takesFigure_14 : decode cX4_takesFigure 14 = .ok (.iload_n 1, 1) := by decide +kernel
theorem dX4_takesFigure_15 : decode cX4_takesFigure 15 = .ok (.bipush 48, 2) := by decide +kernel
theorem dX4_takesFigure_17 : decode cX4_takesFigure 17 = .ok (.isub, 1) := by decide +kernel
theorem dX4_takesFigure_18 : decode cX4_takesFigure 18 = .ok (.invokevirtual 65, 3) := by decide +kernel
theorem dX4_takesFigure_21 : decode cX4_takesFigure 21 = .ok (.ireturn, 1) := by decide +kernel
theorem dX4_takesMark_0 : decode cX4_takesMark 0 = .ok (.aload_n 0, 1) := by decide +kernel
theorem dX4_takesMark_1 : decode cX4_takesMark 1 = .ok (.iconst 5, 1) := by decide +kernel
theorem dX4_takesMark_2 : decode cX4_takesMark 2 = .ok (.putfield 11, 3) := by decide +kernel
theorem dX4_takesMark_5 : decode cX4_takesMark 5 = .ok (.aload_n 2, 1) := by decide +kernel
theorem dX4_takesMark_6 : decode cX4_takesMark 6 = .ok (.iload_n 1, 1) := by decide +kernel
theorem dX4_takesMark_7 : decode cX4_takesMark 7 = .ok (.bipush 48, 2) := by decide +kernel
theorem dX4_takesMark_9 : decode cX4_takesMark 9 = .ok (.isub, 1) := by decide +kernel
theorem dX4_takesMark_10 : decode cX4_takesMark 10 = .ok (.invokevirtual 69, 3) := by decide +kernel
theorem dX4_takesMark_13 : decode cX4_takesMark 13 = .ok (.ireturn, 1) := by decide +kernel
theorem dX4_takesName_0 : decode cX4_takesName 0 = .ok (.aload_n 0, 1) := by decide +kernel
theorem dX4_takesName_1 : decode cX4_takesName 1 = .ok (.iconst 5, 1) := by decide +kernel
theorem dX4_takesName_2 : decode cX4_takesName 2 = .ok (.putfield 11, 3) := by decide +kernel
theorem dX4_takesName_5 : decode cX4_takesName 5 = .ok (.aload_n 2, 1) := by decide +kernel
theorem dX4_takesName_6 : decode cX4_takesName 6 = .ok (.iload_n 1, 1) := by decide +kernel
theorem dX4_takesName_7 : decode cX4_takesName 7 = .ok (.bipush 97, 2) := by decide +kernel
theorem dX4_takesName_9 : decode cX4_takesName 9 = .ok (.isub, 1) := by decide +kernel
theorem dX4_takesName_10 : decode cX4_takesName 10 = .ok (.invokevirtual 72, 3) := by decide +kernel
theorem dX4_takesName_13 : decode cX4_takesName 13 = .ok (.ireturn, 1) := by decide +kernel
theorem dX4_takesBlank_0 : decode cX4_takesBlank 0 = .ok (.aload_n 0, 1) := by decide +kernel
theorem dX4_takesBlank_1 : decode cX4_takesBlank 1 = .ok (.iconst 0, 1) := by decide +kernel
theorem dX4_takesBlank_2 : decode cX4_takesBlank 2 = .ok (.putfield 11, 3) := by decide +kernel
theorem dX4_takesBlank_5 : decode cX4_takesBlank 5 = .ok (.iload_n 1, 1) := by decide +kernel
theorem dX4_takesBlank_6 : decode cX4_takesBlank 6 = .ok (.bipush 32, 2) := by decide +kernel
theorem dX4_takesBlank_8 : decode cX4_takesBlank 8 = .ok (.if_icmp .ne 7, 3) := by decide +kernel
theorem dX4_takesBlank_11 : decode cX4_takesBlank 11 = .ok (.iconst 1, 1) := by decide +kernel
theorem dX4_takesBlank_12 : decode cX4_takesBlank 12 = .ok (.goto 4, 3) := by decide +kernel
theorem dX4_takesBlank_15 : decode cX4_takesBlank 15 = .ok (.iconst 0, 1) := by decide +kernel
theorem dX4_takesBlank_16 : decode cX4_takesBlank 16 = .ok (.ireturn, 1) := by decide +kernel
theorem dX5_init_0 : decode cX5_init 0 = .ok (.aload_n 0, 1) := by decide +kernel
theorem dX5_init_1 : decode cX5_init 1 = .ok (.invokespecial 3, 3) := by decide +kernel
theorem dX5_init_4 : decode cX5_init 4 = .ok (.aload_n 0, 1) := by decide +kernel
theorem dX5_init_5 : decode cX5_init 5 = .ok (.bipush 60, 2) := by decide +kernel
theorem dX5_init_7 : decode cX5_init 7 = .ok (.newarray .int, 2) := by decide +kernel
theorem dX5_init_9 : decode cX5_init 9 = .ok (.putfield 9, 3) := by decide +kernel
theorem dX5_init_12 : decode cX5_init 12 = .ok (.aload_n 0, 1) := by decide +kernel
theorem dX5_init_13 : decode cX5_init 13 = .ok (.iconst 0, 1) := by decide +kernel
theorem dX5_init_14 : decode cX5_init 14 = .ok (.putfield 15, 3) := by decide +kernel
theorem dX5_init_17 : decode cX5_init 17 = .ok (.return_, 1) := by decide +kernel
theorem dX5_put_0 : decode cX5_put 0 = .ok (.aload_n 0, 1) := by decide +kernel
theorem dX5_put_1 : decode cX5_put 1 = .ok (.getfield 15, 3) := by decide +kernel
theorem dX5_put_4 : decode cX5_put 4 = .ok (.ifCond .lt 12, 3) := by decide +kernel
theorem dX5_put_7 : decode cX5_put 7 = .ok (.aload_n 0, 1) := by decide +kernel
theorem dX5_put_8 : decode cX5_put 8 = .ok (.getfield 15, 3) := by decide +kernel
theorem dX5_put_11 : decode cX5_put 11 = .ok (.bipush 60, 2) := by decide +kernel
theorem dX5_put_13 : decode cX5_put 13 = .ok (.if_icmp .lt 5, 3) := by decide +kernel
theorem dX5_put_16 : decode cX5_put 16 = .ok (.iconst 0, 1) := by decide +kernel
theorem dX5_put_17 : decode cX5_put 17 = .ok (.ireturn, 1) := by decide +kernel
theorem dX5_put_18 : decode cX5_put 18 = .ok (.aload_n 0, 1) := by decide +kernel
theorem dX5_put_19 : decode cX5_put 19 = .ok (.getfield 9, 3) := by decide +kernel
theorem dX5_put_22 : decode cX5_put 22 = .ok (.aload_n 0, 1) := by decide +kernel
theorem dX5_put_23 : decode cX5_put 23 = .ok (.getfield 15, 3) := by decide +kernel
theorem dX5_put_26 : decode cX5_put 26 = .ok (.iload_n 1, 1) := by decide +kernel
theorem dX5_put_27 : decode cX5_put 27 = .ok (.iastore, 1) := by decide +kernel
theorem dX5_put_28 : decode cX5_put 28 = .ok (.aload_n 0, 1) := by decide +kernel
theorem dX5_put_29 : decode cX5_put 29 = .ok (.dup, 1) := by decide +kernel
theorem dX5_put_30 : decode cX5_put 30 = .ok (.getfield 15, 3) := by decide +kernel
theorem dX5_put_33 : decode cX5_put 33 = .ok (.iconst 1, 1) := by decide +kernel
theorem dX5_put_34 : decode cX5_put 34 = .ok (.iadd, 1) := by decide +kernel
theorem dX5_put_35 : decode cX5_put 35 = .ok (.putfield 15, 3) := by decide +kernel
theorem dX5_put_38 : decode cX5_put 38 = .ok (.iconst 1, 1) := by decide +kernel
theorem dX5_put_39 : decode cX5_put 39 = .ok (.ireturn, 1) := by decide +kernel
theorem dX5_clear_0 : decode cX5_clear 0 = .ok (.aload_n 0, 1) := by decide +kernel
theorem dX5_clear_1 : decode cX5_clear 1 = .ok (.iconst 0, 1) := by decide +kernel
theorem dX5_clear_2 : decode cX5_clear 2 = .ok (.putfield 15, 3) := by decide +kernel
theorem dX5_clear_5 : decode cX5_clear 5 = .ok (.return_, 1) := by decide +kernel
theorem dX6_init_0 : decode cX6_init 0 = .ok (.aload_n 0, 1) := by decide +kernel
theorem dX6_init_1 : decode cX6_init 1 = .ok (.invokespecial 3, 3) := by decide +kernel
theorem dX6_init_4 : decode cX6_init 4 = .ok (.aload_n 0, 1) := by decide +kernel
theorem dX6_init_5 : decode cX6_init 5 = .ok (.bipush 16, 2) := by decide +kernel
theorem dX6_init_7 : decode cX6_init 7 = .ok (.newarray .int, 2) := by decide +kernel
theorem dX6_init_9 : decode cX6_init 9 = .ok (.putfield 9, 3) := by decide +kernel
theorem dX6_init_12 : decode cX6_init 12 = .ok (.aload_n 0, 1) := by decide +kernel
theorem dX6_init_13 : decode cX6_init 13 = .ok (.iconst 0, 1) := by decide +kernel
theorem dX6_init_14 : decode cX6_init 14 = .ok (.putfield 15, 3) := by decide +kernel
theorem dX6_init_17 : decode cX6_init 17 = .ok (.aload_n 0, 1) := by decide +kernel
theorem dX6_init_18 : decode cX6_init 18 = .ok (.iconst 0, 1) := by decide +kernel
theorem dX6_init_19 : decode cX6_init 19 = .ok (.putfield 19, 3) := by decide +kernel
theorem dX6_init_22 : decode cX6_init 22 = .ok (.aload_n 0, 1) := by decide +kernel
theorem dX6_init_23 : decode cX6_init 23 = .ok (.iconst 0, 1) := by decide +kernel
theorem dX6_init_24 : decode cX6_init 24 = .ok (.putfield 22, 3) := by decide +kernel
theorem dX6_init_27 : decode cX6_init 27 = .ok (.return_, 1) := by decide +kernel
theorem dX6_begin_0 : decode cX6_begin 0 = .ok (.aload_n 0, 1) := by decide +kernel
theorem dX6_begin_1 : decode cX6_begin 1 = .ok (.iconst 0, 1) := by decide +kernel
theorem dX6_begin_2 : decode cX6_begin 2 = .ok (.putfield 15, 3) := by decide +kernel
theorem dX6_begin_5 : decode cX6_begin 5 = .ok (.aload_n 0, 1) := by decide +kernel
theorem dX6_begin_6 : decode cX6_begin 6 = .ok (.iconst 0, 1) := by decide +kernel
theorem dX6_begin_7 : decode cX6_begin 7 = .ok (.putfield 19, 3) := by decide +kernel
theorem dX6_begin_10 : decode cX6_begin 10 = .ok (.aload_n 0, 1) := by decide +kernel
theorem dX6_begin_11 : decode cX6_begin 11 = .ok (.iconst 0, 1) := by decide +kernel
theorem dX6_begin_12 : decode cX6_begin 12 = .ok (.putfield 22, 3) := by decide +kernel
theorem dX6_begin_15 : decode cX6_begin 15 = .ok (.return_, 1) := by decide +kernel
theorem dX6_moveTo_0 : decode cX6_moveTo 0 = .ok (.aload_n 0, 1) := by decide +kernel
theorem dX6_moveTo_1 : decode cX6_moveTo 1 = .ok (.getfield 15, 3) := by decide +kernel
theorem dX6_moveTo_4 : decode cX6_moveTo 4 = .ok (.ifCond .lt 12, 3) := by decide +kernel
theorem dX6_moveTo_7 : decode cX6_moveTo 7 = .ok (.aload_n 0, 1) := by decide +kernel
theorem dX6_moveTo_8 : decode cX6_moveTo 8 = .ok (.getfield 15, 3) := by decide +kernel
theorem dX6_moveTo_11 : decode cX6_moveTo 11 = .ok (.bipush 16, 2) := by decide +kernel
theorem dX6_moveTo_13 : decode cX6_moveTo 13 = .ok (.if_icmp .lt 4, 3) := by decide +kernel
theorem dX6_moveTo_16 : decode cX6_moveTo 16 = .ok (.return_, 1) := by decide +kernel
theorem dX6_moveTo_17 : decode cX6_moveTo 17 = .ok (.aload_n 0, 1) := by decide +kernel
theorem dX6_moveTo_18 : decode cX6_moveTo 18 = .ok (.getfield 9, 3) := by decide +kernel
theorem dX6_moveTo_21 : decode cX6_moveTo 21 = .ok (.aload_n 0, 1) := by decide +kernel
theorem dX6_moveTo_22 : decode cX6_moveTo 22 = .ok (.getfield 15, 3) := by decide +kernel
theorem dX6_moveTo_25 : decode cX6_moveTo 25 = .ok (.aload_n 0, 1) := by decide +kernel
theorem dX6_moveTo_26 : decode cX6_moveTo 26 = .ok (.getfield 22, 3) := by decide +kernel
theorem dX6_moveTo_29 : decode cX6_moveTo 29 = .ok (.iastore, 1) := by decide +kernel
theorem dX6_moveTo_30 : decode cX6_moveTo 30 = .ok (.aload_n 0, 1) := by decide +kernel
theorem dX6_moveTo_31 : decode cX6_moveTo 31 = .ok (.aload_n 0, 1) := by decide +kernel
theorem dX6_moveTo_32 : decode cX6_moveTo 32 = .ok (.getfield 15, 3) := by decide +kernel
theorem dX6_moveTo_35 : decode cX6_moveTo 35 = .ok (.iconst 1, 1) := by decide +kernel
theorem dX6_moveTo_36 : decode cX6_moveTo 36 = .ok (.iadd, 1) := by decide +kernel
theorem dX6_moveTo_37 : decode cX6_moveTo 37 = .ok (.bipush 16, 2) := by decide +kernel
theorem dX6_moveTo_39 : decode cX6_moveTo 39 = .ok (.irem, 1) := by decide +kernel
theorem dX6_moveTo_40 : decode cX6_moveTo 40 = .ok (.putfield 15, 3) := by decide +kernel
theorem dX6_moveTo_43 : decode cX6_moveTo 43 = .ok (.aload_n 0, 1) := by decide +kernel
theorem dX6_moveTo_44 : decode cX6_moveTo 44 = .ok (.aload_n 0, 1) := by decide +kernel
theorem dX6_moveTo_45 : decode cX6_moveTo 45 = .ok (.getfield 19, 3) := by decide +kernel
theorem dX6_moveTo_48 : decode cX6_moveTo 48 = .ok (.iconst 1, 1) := by decide +kernel
theorem dX6_moveTo_49 : decode cX6_moveTo 49 = .ok (.iadd, 1) := by decide +kernel
theorem dX6_moveTo_50 : decode cX6_moveTo 50 = .ok (.bipush 16, 2) := by decide +kernel
theorem dX6_moveTo_52 : decode cX6_moveTo 52 = .ok (.invokestatic 25, 3) := by decide +kernel
theorem dX6_moveTo_55 : decode cX6_moveTo 55 = .ok (.putfield 19, 3) := by decide +kernel
theorem dX6_moveTo_58 : decode cX6_moveTo 58 = .ok (.aload_n 0, 1) := by decide +kernel
theorem dX6_moveTo_59 : decode cX6_moveTo 59 = .ok (.iload_n 1, 1) := by decide +kernel
theorem dX6_moveTo_60 : decode cX6_moveTo 60 = .ok (.putfield 22, 3) := by decide +kernel
theorem dX6_moveTo_63 : decode cX6_moveTo 63 = .ok (.return_, 1) := by decide +kernel
theorem dX6_turnBack_0 : decode cX6_turnBack 0 = .ok (.aload_n 0, 1) := by decide +kernel
theorem dX6_turnBack_1 : decode cX6_turnBack 1 = .ok (.getfield 19, 3) := by decide +kernel
theorem dX6_turnBack_4 : decode cX6_turnBack 4 = .ok (.ifCond .ne 5, 3) := by decide +kernel
theorem dX6_turnBack_7 : decode cX6_turnBack 7 = .ok (.iconst 0, 1) := by decide +kernel
theorem dX6_turnBack_8 : decode cX6_turnBack 8 = .ok (.ireturn, 1) := by decide +kernel
theorem dX6_turnBack_9 : decode cX6_turnBack 9 = .ok (.aload_n 0, 1) := by decide +kernel
theorem dX6_turnBack_10 : decode cX6_turnBack 10 = .ok (.aload_n 0, 1) := by decide +kernel
theorem dX6_turnBack_11 : decode cX6_turnBack 11 = .ok (.getfield 15, 3) := by decide +kernel
theorem dX6_turnBack_14 : decode cX6_turnBack 14 = .ok (.iconst 1, 1) := by decide +kernel
theorem dX6_turnBack_15 : decode cX6_turnBack 15 = .ok (.isub, 1) := by decide +kernel
theorem dX6_turnBack_16 : decode cX6_turnBack 16 = .ok (.bipush 16, 2) := by decide +kernel
theorem dX6_turnBack_18 : decode cX6_turnBack 18 = .ok (.invokestatic 31, 3) := by decide +kernel
theorem dX6_turnBack_21 : decode cX6_turnBack 21 = .ok (.putfield 15, 3) := by decide +kernel
theorem dX6_turnBack_24 : decode cX6_turnBack 24 = .ok (.aload_n 0, 1) := by decide +kernel
theorem dX6_turnBack_25 : decode cX6_turnBack 25 = .ok (.aload_n 0, 1) := by decide +kernel
theorem dX6_turnBack_26 : decode cX6_turnBack 26 = .ok (.getfield 9, 3) := by decide +kernel
theorem dX6_turnBack_29 : decode cX6_turnBack 29 = .ok (.aload_n 0, 1) := by decide +kernel
theorem dX6_turnBack_30 : decode cX6_turnBack 30 = .ok (.getfield 15, 3) := by decide +kernel
theorem dX6_turnBack_33 : decode cX6_turnBack 33 = .ok (.iaload, 1) := by decide +kernel
theorem dX6_turnBack_34 : decode cX6_turnBack 34 = .ok (.putfield 22, 3) := by decide +kernel
theorem dX6_turnBack_37 : decode cX6_turnBack 37 = .ok (.aload_n 0, 1) := by decide +kernel
theorem dX6_turnBack_38 : decode cX6_turnBack 38 = .ok (.dup, 1) := by decide +kernel
theorem dX6_turnBack_39 : decode cX6_turnBack 39 = .ok (.getfield 19, 3) := by decide +kernel
theorem dX6_turnBack_42 : decode cX6_turnBack 42 = .ok (.iconst 1, 1) := by decide +kernel
theorem dX6_turnBack_43 : decode cX6_turnBack 43 = .ok (.isub, 1) := by decide +kernel
theorem dX6_turnBack_44 : decode cX6_turnBack 44 = .ok (.putfield 19, 3) := by decide +kernel
theorem dX6_turnBack_47 : decode cX6_turnBack 47 = .ok (.iconst 1, 1) := by decide +kernel
theorem dX6_turnBack_48 : decode cX6_turnBack 48 = .ok (.ireturn, 1) := by decide +kernel
theorem dX7_init_0 : decode cX7_init 0 = .ok (.aload_n 0, 1) := by decide +kernel
theorem dX7_init_1 : decode cX7_init 1 = .ok (.invokespecial 3, 3) := by decide +kernel
theorem dX7_init_4 : decode cX7_init 4 = .ok (.aload_n 0, 1) := by decide +kernel
theorem dX7_init_5 : decode cX7_init 5 = .ok (.new 9, 3) := by decide +kernel
theorem dX7_init_8 : decode cX7_init 8 = .ok (.dup, 1) := by decide +kernel
theorem dX7_init_9 : decode cX7_init 9 = .ok (.invokespecial 11, 3) := by decide +kernel
theorem dX7_init_12 : decode cX7_init 12 = .ok (.putfield 12, 3) := by decide +kernel
theorem dX7_init_15 : decode cX7_init 15 = .ok (.aload_n 0, 1) := by decide +kernel
theorem dX7_init_16 : decode cX7_init 16 = .ok (.new 16, 3) := by decide +kernel
theorem dX7_init_19 : decode cX7_init 19 = .ok (.dup, 1) := by decide +kernel
theorem dX7_init_20 : decode cX7_init 20 = .ok (.invokespecial 18, 3) := by decide +kernel
theorem dX7_init_23 : decode cX7_init 23 = .ok (.putfield 19, 3) := by decide +kernel
theorem dX7_init_26 : decode cX7_init 26 = .ok (.aload_n 0, 1) := by decide +kernel
theorem dX7_init_27 : decode cX7_init 27 = .ok (.bipush 6, 2) := by decide +kernel
theorem dX7_init_29 : decode cX7_init 29 = .ok (.anewarray 23, 3) := by decide +kernel
theorem dX7_init_32 : decode cX7_init 32 = .ok (.putfield 25, 3) := by decide +kernel
theorem dX7_init_35 : decode cX7_init 35 = .ok (.iconst 0, 1) := by decide +kernel
theorem dX7_init_36 : decode cX7_init 36 = .ok (.istore_n 1, 1) := by decide +kernel
theorem dX7_init_37 : decode cX7_init 37 = .ok (.iload_n 1, 1) := by decide +kernel
theorem dX7_init_38 : decode cX7_init 38 = .ok (.bipush 6, 2) := by decide +kernel
theorem dX7_init_40 : decode cX7_init 40 = .ok (.if_icmp .ge 22, 3) := by decide +kernel
theorem dX7_init_43 : decode cX7_init 43 = .ok (.aload_n 0, 1) := by decide +kernel
theorem dX7_init_44 : decode cX7_init 44 = .ok (.getfield 25, 3) := by decide +kernel
theorem dX7_init_47 : decode cX7_init 47 = .ok (.iload_n 1, 1) := by decide +kernel
theorem dX7_init_48 : decode cX7_init 48 = .ok (.new 23, 3) := by decide +kernel
theorem dX7_init_51 : decode cX7_init 51 = .ok (.dup, 1) := by decide +kernel
theorem dX7_init_52 : decode cX7_init 52 = .ok (.invokespecial 29, 3) := by decide +kernel
theorem dX7_init_55 : decode cX7_init 55 = .ok (.aastore, 1) := by decide +kernel
theorem dX7_init_56 : decode cX7_init 56 = .ok (.iinc 1 1, 3) := by decide +kernel
theorem dX7_init_59 : decode cX7_init 59 = .ok (.goto (-22), 3) := by decide +kernel
theorem dX7_init_62 : decode cX7_init 62 = .ok (.aload_n 0, 1) := by decide +kernel
theorem dX7_init_63 : decode cX7_init 63 = .ok (.new 30, 3) := by decide +kernel
theorem dX7_init_66 : decode cX7_init 66 = .ok (.dup, 1) := by decide +kernel
theorem dX7_init_67 : decode cX7_init 67 = .ok (.invokespecial 32, 3) := by decide +kernel
theorem dX7_init_70 : decode cX7_init 70 = .ok (.putfield 33, 3) := by decide +kernel
theorem dX7_init_73 : decode cX7_init 73 = .ok (.aload_n 0, 1) := by decide +kernel
theorem dX7_init_74 : decode cX7_init 74 = .ok (.new 30, 3) := by decide +kernel
theorem dX7_init_77 : decode cX7_init 77 = .ok (.dup, 1) := by decide +kernel
theorem dX7_init_78 : decode cX7_init 78 = .ok (.invokespecial 32, 3) := by decide +kernel
theorem dX7_init_81 : decode cX7_init 81 = .ok (.putfield 37, 3) := by decide +kernel
theorem dX7_init_84 : decode cX7_init 84 = .ok (.aload_n 0, 1) := by decide +kernel
theorem dX7_init_85 : decode cX7_init 85 = .ok (.sipush 150, 3) := by decide +kernel
theorem dX7_init_88 : decode cX7_init 88 = .ok (.newarray .int, 2) := by decide +kernel
theorem dX7_init_90 : decode cX7_init 90 = .ok (.putfield 40, 3) := by decide +kernel
theorem dX7_init_93 : decode cX7_init 93 = .ok (.aload_n 0, 1) := by decide +kernel
theorem dX7_init_94 : decode cX7_init 94 = .ok (.getfield 40, 3) := by decide +kernel
theorem dX7_init_97 : decode cX7_init 97 = .ok (.bipush (-9), 2) := by decide +kernel
theorem dX7_init_99 : decode cX7_init 99 = .ok (.invokestatic 44, 3) := by decide +kernel
theorem dX7_init_102 : decode cX7_init 102 = .ok (.aload_n 0, 1) := by decide +kernel
theorem dX7_init_103 : decode cX7_init 103 = .ok (.new 50, 3) := by decide +kernel
theorem dX7_init_106 : decode cX7_init 106 = .ok (.dup, 1) := by decide +kernel
theorem dX7_init_107 : decode cX7_init 107 = .ok (.invokespecial 52, 3) := by decide +kernel
theorem dX7_init_110 : decode cX7_init 110 = .ok (.putfield 53, 3) := by decide +kernel
theorem dX7_init_113 : decode cX7_init 113 = .ok (.aload_n 0, 1) := by decide +kernel
theorem dX7_init_114 : decode cX7_init 114 = .ok (.new 57, 3) := by decide +kernel
theorem dX7_init_117 : decode cX7_init 117 = .ok (.dup, 1) := by decide +kernel
theorem dX7_init_118 : decode cX7_init 118 = .ok (.invokespecial 59, 3) := by decide +kernel
theorem dX7_init_121 : decode cX7_init 121 = .ok (.putfield 60, 3) := by decide +kernel
theorem dX7_init_124 : decode cX7_init 124 = .ok (.aload_n 0, 1) := by decide +kernel
theorem dX7_init_125 : decode cX7_init 125 = .ok (.new 64, 3) := by decide +kernel
theorem dX7_init_128 : decode cX7_init 128 = .ok (.dup, 1) := by decide +kernel
theorem dX7_init_129 : decode cX7_init 129 = .ok (.invokespecial 66, 3) := by decide +kernel
theorem dX7_init_132 : decode cX7_init 132 = .ok (.putfield 67, 3) := by decide +kernel
theorem dX7_init_135 : decode cX7_init 135 = .ok (.aload_n 0, 1) := by decide +kernel
theorem dX7_init_136 : decode cX7_init 136 = .ok (.iconst 0, 1) := by decide +kernel
theorem dX7_init_137 : decode cX7_init 137 = .ok (.putfield 71, 3) := by decide +kernel
theorem dX7_init_140 : decode cX7_init 140 = .ok (.aload_n 0, 1) := by decide +kernel
theorem dX7_init_141 : decode cX7_init 141 = .ok (.iconst 0, 1) := by decide +kernel
theorem dX7_init_142 : decode cX7_init 142 = .ok (.putfield 75, 3) := by decide +kernel
theorem dX7_init_145 : decode cX7_init 145 = .ok (.aload_n 0, 1) := by decide +kernel
theorem dX7_init_146 : decode cX7_init 146 = .ok (.bipush (-9), 2) := by decide +kernel
theorem dX7_init_148 : decode cX7_init 148 = .ok (.putfield 78, 3) := by decide +kernel
theorem dX7_init_151 : decode cX7_init 151 = .ok (.aload_n 0, 1) := by decide +kernel
theorem dX7_init_152 : decode cX7_init 152 = .ok (.invokevirtual 81, 3) := by decide +kernel
theorem dX7_init_155 : decode cX7_init 155 = .ok (.aload_n 0, 1) := by decide +kernel
theorem dX7_init_156 : decode cX7_init 156 = .ok (.invokevirtual 84, 3) := by decide +kernel
theorem dX7_init_159 : decode cX7_init 159 = .ok (.return_, 1) := by decide +kernel
theorem dX7_type_0 : decode cX7_type 0 = .ok (.iload_n 1, 1) := by decide +kernel
theorem dX7_type_1 : decode cX7_type 1 = .ok (.ifCond .lt 9, 3) := by decide +kernel
theorem dX7_type_4 : decode cX7_type 4 = .ok (.iload_n 1, 1) := by decide +kernel
theorem dX7_type_5 : decode cX7_type 5 = .ok (.bipush 127, 2) := by decide +kernel
theorem dX7_type_7 : decode cX7_type 7 = .ok (.if_icmp .le 6, 3) := by decide +kernel
theorem dX7_type_10 : decode cX7_type 10 = .ok (.bipush (-2), 2) := by decide +kernel
theorem dX7_type_12 : decode cX7_type 12 = .ok (.ireturn, 1) := by decide +kernel
theorem dX7_type_13 : decode cX7_type 13 = .ok (.aload_n 0, 1) := by decide +kernel
theorem dX7_type_14 : decode cX7_type 14 = .ok (.getfield 12, 3) := by decide +kernel
theorem dX7_type_17 : decode cX7_type 17 = .ok (.iload_n 1, 1) := by decide +kernel
theorem dX7_type_18 : decode cX7_type 18 = .ok (.invokevirtual 87, 3) := by decide +kernel
theorem dX7_type_21 : decode cX7_type 21 = .ok (.ifCond .eq 13, 3) := by decide +kernel
theorem dX7_type_24 : decode cX7_type 24 = .ok (.aload_n 0, 1) := by decide +kernel
theorem dX7_type_25 : decode cX7_type 25 = .ok (.getfield 12, 3) := by decide +kernel
theorem dX7_type_28 : decode cX7_type 28 = .ok (.getfield 91, 3) := by decide +kernel
theorem dX7_type_31 : decode cX7_type 31 = .ok (.goto 5, 3) := by decide +kernel
theorem dX7_type_34 : decode cX7_type 34 = .ok (.bipush (-4), 2) := by decide +kernel
theorem dX7_type_36 : decode cX7_type 36 = .ok (.ireturn, 1) := by decide +kernel
theorem dX7_wipe_0 : decode cX7_wipe 0 = .ok (.aload_n 0, 1) := by decide +kernel
theorem dX7_wipe_1 : decode cX7_wipe 1 = .ok (.getfield 12, 3) := by decide +kernel
theorem dX7_wipe_4 : decode cX7_wipe 4 = .ok (.getfield 91, 3) := by decide +kernel
theorem dX7_wipe_7 : decode cX7_wipe 7 = .ok (.istore_n 1, 1) := by decide +kernel
theorem dX7_wipe_8 : decode cX7_wipe 8 = .ok (.aload_n 0, 1) := by decide +kernel
theorem dX7_wipe_9 : decode cX7_wipe 9 = .ok (.getfield 12, 3) := by decide +kernel
theorem dX7_wipe_12 : decode cX7_wipe 12 = .ok (.invokevirtual 94, 3) := by decide +kernel
theorem dX7_wipe_15 : decode cX7_wipe 15 = .ok (.iload_n 1, 1) := by decide +kernel
theorem dX7_wipe_16 : decode cX7_wipe 16 = .ok (.ireturn, 1) := by decide +kernel
theorem dX7_machine_0 : decode cX7_machine 0 = .ok (.iload_n 1, 1) := by decide +kernel
theorem dX7_machine_1 : decode cX7_machine 1 = .ok (.ifCond .eq 11, 3) := by decide +kernel
theorem dX7_machine_4 : decode cX7_machine 4 = .ok (.iload_n 1, 1) := by decide +kernel
theorem dX7_machine_5 : decode cX7_machine 5 = .ok (.iconst 1, 1) := by decide +kernel
theorem dX7_machine_6 : decode cX7_machine 6 = .ok (.if_icmp .eq 6, 3) := by decide +kernel
theorem dX7_machine_9 : decode cX7_machine 9 = .ok (.bipush (-2), 2) := by decide +kernel
theorem dX7_machine_11 : decode cX7_machine 11 = .ok (.ireturn, 1) := by decide +kernel
theorem dX7_machine_12 : decode cX7_machine 12 = .ok (.aload_n 0, 1) := by decide +kernel
theorem dX7_machine_13 : decode cX7_machine 13 = .ok (.getfield 71, 3) := by decide +kernel
theorem dX7_machine_16 : decode cX7_machine 16 = .ok (.bipush 6, 2) := by decide +kernel
theorem dX7_machine_18 : decode cX7_machine 18 = .ok (.if_icmp .lt 6, 3) := by decide +kernel
theorem dX7_machine_21 : decode cX7_machine 21 = .ok (.bipush (-4), 2) := by decide +kernel
theorem dX7_machine_23 : decode cX7_machine 23 = .ok (.ireturn, 1) := by decide +kernel
theorem dX7_machine_24 : decode cX7_machine 24 = .ok (.aload_n 0, 1) := by decide +kernel
theorem dX7_machine_25 : decode cX7_machine 25 = .ok (.getfield 19, 3) := by decide +kernel
theorem dX7_machine_28 : decode cX7_machine 28 = .ok (.aload_n 0, 1) := by decide +kernel
theorem dX7_machine_29 : decode cX7_machine 29 = .ok (.getfield 12, 3) := by decide +kernel
theorem dX7_machine_32 : decode cX7_machine 32 = .ok (.aload_n 0, 1) := by decide +kernel
theorem dX7_machine_33 : decode cX7_machine 33 = .ok (.getfield 25, 3) := by decide +kernel
theorem dX7_machine_36 : decode cX7_machine 36 = .ok (.aload_n 0, 1) := by decide +kernel
theorem dX7_machine_37 : decode cX7_machine 37 = .ok (.getfield 71, 3) := by decide +kernel
theorem dX7_machine_40 : decode cX7_machine 40 = .ok (.aaload, 1) := by decide +kernel
theorem dX7_machine_41 : decode cX7_machine 41 = .ok (.iload_n 1, 1) := by decide +kernel
theorem dX7_machine_42 : decode cX7_machine 42 = .ok (.invokevirtual 97, 3) := by decide +kernel
theorem dX7_machine_45 : decode cX7_machine 45 = .ok (.istore_n 2, 1) := by decide +kernel
theorem dX7_machine_46 : decode cX7_machine 46 = .ok (.iload_n 2, 1) := by decide +kernel
theorem dX7_machine_47 : decode cX7_machine 47 = .ok (.bipush (-9), 2) := by decide +kernel
theorem dX7_machine_49 : decode cX7_machine 49 = .ok (.if_icmp .eq 8, 3) := by decide +kernel
theorem dX7_machine_52 : decode cX7_machine 52 = .ok (.bipush (-100), 2) := by decide +kernel
theorem dX7_machine_54 : decode cX7_machine 54 = .ok (.iload_n 2, 1) := by decide +kernel
theorem dX7_machine_55 : decode cX7_machine 55 = .ok (.isub, 1) := by decide +kernel
theorem dX7_machine_56 : decode cX7_machine 56 = .ok (.ireturn, 1) := by decide +kernel
theorem dX7_machine_57 : decode cX7_machine 57 = .ok (.aload_n 0, 1) := by decide +kernel
theorem dX7_machine_58 : decode cX7_machine 58 = .ok (.getfield 12, 3) := by decide +kernel
theorem dX7_machine_61 : decode cX7_machine 61 = .ok (.invokevirtual 94, 3) := by decide +kernel
theorem dX7_machine_64 : decode cX7_machine 64 = .ok (.aload_n 0, 1) := by decide +kernel
theorem dX7_machine_65 : decode cX7_machine 65 = .ok (.dup, 1) := by decide +kernel
theorem dX7_machine_66 : decode cX7_machine 66 = .ok (.getfield 71, 3) := by decide +kernel
theorem dX7_machine_69 : decode cX7_machine 69 = .ok (.iconst 1, 1) := by decide +kernel
theorem dX7_machine_70 : decode cX7_machine 70 = .ok (.iadd, 1) := by decide +kernel
theorem dX7_machine_71 : decode cX7_machine 71 = .ok (.putfield 71, 3) := by decide +kernel
theorem dX7_machine_74 : decode cX7_machine 74 = .ok (.aload_n 0, 1) := by decide +kernel
theorem dX7_machine_75 : decode cX7_machine 75 = .ok (.invokevirtual 81, 3) := by decide +kernel
theorem dX7_machine_78 : decode cX7_machine 78 = .ok (.aload_n 0, 1) := by decide +kernel
theorem dX7_machine_79 : decode cX7_machine 79 = .ok (.invokevirtual 84, 3) := by decide +kernel
theorem dX7_machine_82 : decode cX7_machine 82 = .ok (.aload_n 0, 1) := by decide +kernel
theorem dX7_machine_83 : decode cX7_machine 83 = .ok (.getfield 71, 3) := by decide +kernel
theorem dX7_machine_86 : decode cX7_machine 86 = .ok (.iconst 1, 1) := by decide +kernel
theorem dX7_machine_87 : decode cX7_machine 87 = .ok (.isub, 1) := by decide +kernel
theorem dX7_machine_88 : decode cX7_machine 88 = .ok (.ireturn, 1) := by decide +kernel
theorem dX7_drop_0 : decode cX7_drop 0 = .ok (.aload_n 0, 1) := by decide +kernel
theorem dX7_drop_1 : decode cX7_drop 1 = .ok (.getfield 71, 3) := by decide +kernel
theorem dX7_drop_4 : decode cX7_drop 4 = .ok (.ifCond .ne 6, 3) := by decide +kernel
theorem dX7_drop_7 : decode cX7_drop 7 = .ok (.bipush (-3), 2) := by decide +kernel
theorem dX7_drop_9 : decode cX7_drop 9 = .ok (.ireturn, 1) := by decide +kernel
theorem dX7_drop_10 : decode cX7_drop 10 = .ok (.aload_n 0, 1) := by decide +kernel
theorem dX7_drop_11 : decode cX7_drop 11 = .ok (.dup, 1) := by decide +kernel
theorem dX7_drop_12 : decode cX7_drop 12 = .ok (.getfield 71, 3) := by decide +kernel
theorem dX7_drop_15 : decode cX7_drop 15 = .ok (.iconst 1, 1) := by decide +kernel
theorem dX7_drop_16 : decode cX7_drop 16 = .ok (.isub, 1) := by decide +kernel
theorem dX7_drop_17 : decode cX7_drop 17 = .ok (.putfield 71, 3) := by decide +kernel
theorem dX7_drop_20 : decode cX7_drop 20 = .ok (.aload_n 0, 1) := by decide +kernel
theorem dX7_drop_21 : decode cX7_drop 21 = .ok (.invokevirtual 81, 3) := by decide +kernel
theorem dX7_drop_24 : decode cX7_drop 24 = .ok (.aload_n 0, 1) := by decide +kernel
theorem dX7_drop_25 : decode cX7_drop 25 = .ok (.invokevirtual 84, 3) := by decide +kernel
theorem dX7_drop_28 : decode cX7_drop 28 = .ok (.aload_n 0, 1) := by decide +kernel
theorem dX7_drop_29 : decode cX7_drop 29 = .ok (.getfield 71, 3) := by decide +kernel
theorem dX7_drop_32 : decode cX7_drop 32 = .ok (.ireturn, 1) := by decide +kernel
theorem dX7_free_0 : decode cX7_free 0 = .ok (.iload_n 1, 1) := by decide +kernel
theorem dX7_free_1 : decode cX7_free 1 = .ok (.invokestatic 101, 3) := by decide +kernel
theorem dX7_free_4 : decode cX7_free 4 = .ok (.ifCond .ne 5, 3) := by decide +kernel
theorem dX7_free_7 : decode cX7_free 7 = .ok (.iconst (-1), 1) := by decide +kernel
theorem dX7_free_8 : decode cX7_free 8 = .ok (.ireturn, 1) := by decide +kernel
theorem dX7_free_9 : decode cX7_free 9 = .ok (.iload_n 2, 1) := by decide +kernel
theorem dX7_free_10 : decode cX7_free 10 = .ok (.ifCond .eq 11, 3) := by decide +kernel
theorem dX7_free_13 : decode cX7_free 13 = .ok (.iload_n 2, 1) := by decide +kernel
theorem dX7_free_14 : decode cX7_free 14 = .ok (.iconst 1, 1) := by decide +kernel
theorem dX7_free_15 : decode cX7_free 15 = .ok (.if_icmp .eq 6, 3) := by decide +kernel
theorem dX7_free_18 : decode cX7_free 18 = .ok (.bipush (-2), 2) := by decide +kernel
theorem dX7_free_20 : decode cX7_free 20 = .ok (.ireturn, 1) := by decide +kernel
theorem dX7_free_21 : decode cX7_free 21 = .ok (.aload_n 0, 1) := by decide +kernel
theorem dX7_free_22 : decode cX7_free 22 = .ok (.getfield 75, 3) := by decide +kernel
theorem dX7_free_25 : decode cX7_free 25 = .ok (.iload_n 1, 1) := by decide +kernel
theorem dX7_free_26 : decode cX7_free 26 = .ok (.ishr, 1) := by decide +kernel
theorem dX7_free_27 : decode cX7_free 27 = .ok (.iconst 1, 1) := by decide +kernel
theorem dX7_free_28 : decode cX7_free 28 = .ok (.iand, 1) := by decide +kernel
theorem dX7_free_29 : decode cX7_free 29 = .ok (.istore_n 3, 1) := by decide +kernel
theorem dX7_free_30 : decode cX7_free 30 = .ok (.aload_n 0, 1) := by decide +kernel
theorem dX7_free_31 : decode cX7_free 31 = .ok (.aload_n 0, 1) := by decide +kernel
theorem dX7_free_32 : decode cX7_free 32 = .ok (.getfield 75, 3) := by decide +kernel
theorem dX7_free_35 : decode cX7_free 35 = .ok (.iconst 1, 1) := by decide +kernel
theorem dX7_free_36 : decode cX7_free 36 = .ok (.iload_n 1, 1) := by decide +kernel
theorem dX7_free_37 : decode cX7_free 37 = .ok (.ishl, 1) := by decide +kernel
theorem dX7_free_38 : decode cX7_free 38 = .ok (.iconst (-1), 1) := by decide +kernel
theorem dX7_free_39 : decode cX7_free 39 = .ok (.ixor, 1) := by decide +kernel
theorem dX7_free_40 : decode cX7_free 40 = .ok (.iand, 1) := by decide +kernel
theorem dX7_free_41 : decode cX7_free 41 = .ok (.iload_n 2, 1) := by decide +kernel
theorem dX7_free_42 : decode cX7_free 42 = .ok (.iload_n 1, 1) := by decide +kernel
theorem dX7_free_43 : decode cX7_free 43 = .ok (.ishl, 1) := by decide +kernel
theorem dX7_free_44 : decode cX7_free 44 = .ok (.ior, 1) := by decide +kernel
theorem dX7_free_45 : decode cX7_free 45 = .ok (.putfield 75, 3) := by decide +kernel
theorem dX7_free_48 : decode cX7_free 48 = .ok (.aload_n 0, 1) := by decide +kernel
theorem dX7_free_49 : decode cX7_free 49 = .ok (.invokevirtual 84, 3) := by decide +kernel
theorem dX7_free_52 : decode cX7_free 52 = .ok (.iload_n 3, 1) := by decide +kernel
theorem dX7_free_53 : decode cX7_free 53 = .ok (.ireturn, 1) := by decide +kernel
theorem dX7_anew_0 : decode cX7_anew 0 = .ok (.aload_n 0, 1) := by decide +kernel
theorem dX7_anew_1 : decode cX7_anew 1 = .ok (.getfield 71, 3) := by decide +kernel
theorem dX7_anew_4 : decode cX7_anew 4 = .ok (.istore_n 1, 1) := by decide +kernel
theorem dX7_anew_5 : decode cX7_anew 5 = .ok (.aload_n 0, 1) := by decide +kernel
theorem dX7_anew_6 : decode cX7_anew 6 = .ok (.iconst 0, 1) := by decide +kernel
theorem dX7_anew_7 : decode cX7_anew 7 = .ok (.putfield 71, 3) := by decide +kernel
theorem dX7_anew_10 : decode cX7_anew 10 = .ok (.aload_n 0, 1) := by decide +kernel
theorem dX7_anew_11 : decode cX7_anew 11 = .ok (.iconst 0, 1) := by decide +kernel
theorem dX7_anew_12 : decode cX7_anew 12 = .ok (.putfield 75, 3) := by decide +kernel
theorem dX7_anew_15 : decode cX7_anew 15 = .ok (.aload_n 0, 1) := by decide +kernel
theorem dX7_anew_16 : decode cX7_anew 16 = .ok (.invokevirtual 81, 3) := by decide +kernel
theorem dX7_anew_19 : decode cX7_anew 19 = .ok (.aload_n 0, 1) := by decide +kernel
theorem dX7_anew_20 : decode cX7_anew 20 = .ok (.invokevirtual 84, 3) := by decide +kernel
theorem dX7_anew_23 : decode cX7_anew 23 = .ok (.iload_n 1, 1) := by decide +kernel
theorem dX7_anew_24 : decode cX7_anew 24 = .ok (.ireturn, 1) := by decide +kernel
theorem dX7_ofMachine_0 : decode cX7_ofMachine 0 = .ok (.aload_n 0, 1) := by decide +kernel
theorem dX7_ofMachine_1 : decode cX7_ofMachine 1 = .ok (.iload_n 1, 1) := by decide +kernel
theorem dX7_ofMachine_2 : decode cX7_ofMachine 2 = .ok (.invokevirtual 104, 3) := by decide +kernel
theorem dX7_ofMachine_5 : decode cX7_ofMachine 5 = .ok (.ifCond .ne 5, 3) := by decide +kernel
theorem dX7_ofMachine_8 : decode cX7_ofMachine 8 = .ok (.iconst (-1), 1) := by decide +kernel
theorem dX7_ofMachine_9 : decode cX7_ofMachine 9 = .ok (.ireturn, 1) := by decide +kernel
theorem dX7_ofMachine_10 : decode cX7_ofMachine 10 = .ok (.aload_n 0, 1) := by decide +kernel
theorem dX7_ofMachine_11 : decode cX7_ofMachine 11 = .ok (.getfield 25, 3) := by decide +kernel
theorem dX7_ofMachine_14 : decode cX7_ofMachine 14 = .ok (.iload_n 1, 1) := by decide +kernel
theorem dX7_ofMachine_15 : decode cX7_ofMachine 15 = .ok (.aaload, 1) := by decide +kernel
theorem dX7_ofMachine_16 : decode cX7_ofMachine 16 = .ok (.astore_n 3, 1) := by decide +kernel
theorem dX7_ofMachine_17 : decode cX7_ofMachine 17 = .ok (.iload_n 2, 1) := by decide +kernel
theorem dX7_ofMachine_18 : decode cX7_ofMachine 18 = .ok (.tableswitch 59 0 4 #[34, 39, 44, 49, 54], 34) := by decide +kernel
theorem dX7_ofMachine_52 : decode cX7_ofMachine 52 = .ok (.aload_n 3, 1) := by decide +kernel
theorem dX7_ofMachine_53 : decode cX7_ofMachine 53 = .ok (.getfield 107, 3) := by decide +kernel
theorem dX7_ofMachine_56 : decode cX7_ofMachine 56 = .ok (.ireturn, 1) := by decide +kernel
theorem dX7_ofMachine_57 : decode cX7_ofMachine 57 = .ok (.aload_n 3, 1) := by decide +kernel
theorem dX7_ofMachine_58 : decode cX7_ofMachine 58 = .ok (.getfield 110, 3) := by decide +kernel
theorem dX7_ofMachine_61 : decode cX7_ofMachine 61 = .ok (.ireturn, 1) := by decide +kernel
theorem dX7_ofMachine_62 : decode cX7_ofMachine 62 = .ok (.aload_n 3, 1) := by decide +kernel
theorem dX7_ofMachine_63 : decode cX7_ofMachine 63 = .ok (.getfield 113, 3) := by decide +kernel
theorem dX7_ofMachine_66 : decode cX7_ofMachine 66 = .ok (.ireturn, 1) := by decide +kernel
theorem dX7_ofMachine_67 : decode cX7_ofMachine 67 = .ok (.aload_n 3, 1) := by decide +kernel
theorem dX7_ofMachine_68 : decode cX7_ofMachine 68 = .ok (.getfield 116, 3) := by decide +kernel
theorem dX7_ofMachine_71 : decode cX7_ofMachine 71 = .ok (.ireturn, 1) := by decide +kernel
theorem dX7_ofMachine_72 : decode cX7_ofMachine 72 = .ok (.aload_n 3, 1) := by decide +kernel
theorem dX7_ofMachine_73 : decode cX7_ofMachine 73 = .ok (.getfield 119, 3) := by decide +kernel
theorem dX7_ofMachine_76 : decode cX7_ofMachine 76 = .ok (.ireturn, 1) := by decide +kernel
theorem dX7_ofMachine_77 : decode cX7_ofMachine 77 = .ok (.bipush (-2), 2) := by decide +kernel
theorem dX7_ofMachine_79 : decode cX7_ofMachine 79 = .ok (.ireturn, 1) := by decide +kernel
theorem dX7_step_0 : decode cX7_step 0 = .ok (.aload_n 0, 1) := by decide +kernel
theorem dX7_step_1 : decode cX7_step 1 = .ok (.iload_n 1, 1) := by decide +kernel
theorem dX7_step_2 : decode cX7_step 2 = .ok (.invokevirtual 104, 3) := by decide +kernel
theorem dX7_step_5 : decode cX7_step 5 = .ok (.ifCond .eq 17, 3) := by decide +kernel
theorem dX7_step_8 : decode cX7_step 8 = .ok (.iload_n 2, 1) := by decide +kernel
theorem dX7_step_9 : decode cX7_step 9 = .ok (.invokestatic 122, 3) := by decide +kernel
theorem dX7_step_12 : decode cX7_step 12 = .ok (.ifCond .eq 10, 3) := by decide +kernel
theorem dX7_step_15 : decode cX7_step 15 = .ok (.iload_n 3, 1) := by decide +kernel
theorem dX7_step_16 : decode cX7_step 16 = .ok (.invokestatic 101, 3) := by decide +kernel
theorem dX7_step_19 : decode cX7_step 19 = .ok (.ifCond .ne 5, 3) := by decide +kernel
theorem dX7_step_22 : decode cX7_step 22 = .ok (.iconst (-1), 1) := by decide +kernel
theorem dX7_step_23 : decode cX7_step 23 = .ok (.ireturn, 1) := by decide +kernel
theorem dX7_step_24 : decode cX7_step 24 = .ok (.aload_n 0, 1) := by decide +kernel
theorem dX7_step_25 : decode cX7_step 25 = .ok (.getfield 25, 3) := by decide +kernel
theorem dX7_step_28 : decode cX7_step 28 = .ok (.iload_n 1, 1) := by decide +kernel
theorem dX7_step_29 : decode cX7_step 29 = .ok (.aaload, 1) := by decide +kernel
theorem dX7_step_30 : decode cX7_step 30 = .ok (.iload_n 2, 1) := by decide +kernel
theorem dX7_step_31 : decode cX7_step 31 = .ok (.iload_n 3, 1) := by decide +kernel
theorem dX7_step_32 : decode cX7_step 32 = .ok (.invokevirtual 125, 3) := by decide +kernel
theorem dX7_step_35 : decode cX7_step 35 = .ok (.ireturn, 1) := by decide +kernel
theorem dX7_stateOf_0 : decode cX7_stateOf 0 = .ok (.aload_n 0, 1) := by decide +kernel
theorem dX7_stateOf_1 : decode cX7_stateOf 1 = .ok (.getfield 33, 3) := by decide +kernel
theorem dX7_stateOf_4 : decode cX7_stateOf 4 = .ok (.iload_n 1, 1) := by decide +kernel
theorem dX7_stateOf_5 : decode cX7_stateOf 5 = .ok (.invokevirtual 129, 3) := by decide +kernel
theorem dX7_stateOf_8 : decode cX7_stateOf 8 = .ok (.ifCond .eq 11, 3) := by decide +kernel
theorem dX7_stateOf_11 : decode cX7_stateOf 11 = .ok (.aload_n 0, 1) := by decide +kernel
theorem dX7_stateOf_12 : decode cX7_stateOf 12 = .ok (.iload_n 2, 1) := by decide +kernel
theorem dX7_stateOf_13 : decode cX7_stateOf 13 = .ok (.invokevirtual 104, 3) := by decide +kernel
theorem dX7_stateOf_16 : decode cX7_stateOf 16 = .ok (.ifCond .ne 5, 3) := by decide +kernel
theorem dX7_stateOf_19 : decode cX7_stateOf 19 = .ok (.iconst (-1), 1) := by decide +kernel
theorem dX7_stateOf_20 : decode cX7_stateOf 20 = .ok (.ireturn, 1) := by decide +kernel
theorem dX7_stateOf_21 : decode cX7_stateOf 21 = .ok (.aload_n 0, 1) := by decide +kernel
theorem dX7_stateOf_22 : decode cX7_stateOf 22 = .ok (.getfield 33, 3) := by decide +kernel
theorem dX7_stateOf_25 : decode cX7_stateOf 25 = .ok (.iload_n 1, 1) := by decide +kernel
theorem dX7_stateOf_26 : decode cX7_stateOf 26 = .ok (.iload_n 2, 1) := by decide +kernel
theorem dX7_stateOf_27 : decode cX7_stateOf 27 = .ok (.invokevirtual 132, 3) := by decide +kernel
theorem dX7_stateOf_30 : decode cX7_stateOf 30 = .ok (.ireturn, 1) := by decide +kernel
theorem dX7_leads_0 : decode cX7_leads 0 = .ok (.aload_n 0, 1) := by decide +kernel
theorem dX7_leads_1 : decode cX7_leads 1 = .ok (.getfield 33, 3) := by decide +kernel
theorem dX7_leads_4 : decode cX7_leads 4 = .ok (.iload_n 1, 1) := by decide +kernel
theorem dX7_leads_5 : decode cX7_leads 5 = .ok (.invokevirtual 129, 3) := by decide +kernel
theorem dX7_leads_8 : decode cX7_leads 8 = .ok (.ifCond .eq 10, 3) := by decide +kernel
theorem dX7_leads_11 : decode cX7_leads 11 = .ok (.iload_n 2, 1) := by decide +kernel
theorem dX7_leads_12 : decode cX7_leads 12 = .ok (.invokestatic 101, 3) := by decide +kernel
theorem dX7_leads_15 : decode cX7_leads 15 = .ok (.ifCond .ne 5, 3) := by decide +kernel
theorem dX7_leads_18 : decode cX7_leads 18 = .ok (.iconst (-1), 1) := by decide +kernel
theorem dX7_leads_19 : decode cX7_leads 19 = .ok (.ireturn, 1) := by decide +kernel
theorem dX7_leads_20 : decode cX7_leads 20 = .ok (.aload_n 0, 1) := by decide +kernel
theorem dX7_leads_21 : decode cX7_leads 21 = .ok (.getfield 33, 3) := by decide +kernel
theorem dX7_leads_24 : decode cX7_leads 24 = .ok (.iload_n 1, 1) := by decide +kernel
theorem dX7_leads_25 : decode cX7_leads 25 = .ok (.iload_n 2, 1) := by decide +kernel
theorem dX7_leads_26 : decode cX7_leads 26 = .ok (.invokevirtual 135, 3) := by decide +kernel
theorem dX7_leads_29 : decode cX7_leads 29 = .ok (.ireturn, 1) := by decide +kernel
theorem dX7_joint_0 : decode cX7_joint 0 = .ok (.aload_n 0, 1) := by decide +kernel
theorem dX7_joint_1 : decode cX7_joint 1 = .ok (.getfield 33, 3) := by decide +kernel
theorem dX7_joint_4 : decode cX7_joint 4 = .ok (.iload_n 1, 1) := by decide +kernel
theorem dX7_joint_5 : decode cX7_joint 5 = .ok (.invokevirtual 129, 3) := by decide +kernel
theorem dX7_joint_8 : decode cX7_joint 8 = .ok (.ifCond .ne 5, 3) := by decide +kernel
theorem dX7_joint_11 : decode cX7_joint 11 = .ok (.iconst (-1), 1) := by decide +kernel
theorem dX7_joint_12 : decode cX7_joint 12 = .ok (.ireturn, 1) := by decide +kernel
theorem dX7_joint_13 : decode cX7_joint 13 = .ok (.iload_n 2, 1) := by decide +kernel
theorem dX7_joint_14 : decode cX7_joint 14 = .ok (.tableswitch 133 0 6 #[42, 59, 68, 81, 98, 115, 124], 42) := by decide +kernel
theorem dX7_joint_56 : decode cX7_joint 56 = .ok (.aload_n 0, 1) := by decide +kernel
theorem dX7_joint_57 : decode cX7_joint 57 = .ok (.getfield 33, 3) := by decide +kernel
theorem dX7_joint_60 : decode cX7_joint 60 = .ok (.iload_n 1, 1) := by decide +kernel
theorem dX7_joint_61 : decode cX7_joint 61 = .ok (.invokevirtual 136, 3) := by decide +kernel
theorem dX7_joint_64 : decode cX7_joint 64 = .ok (.ifCond .eq 7, 3) := by decide +kernel
theorem dX7_joint_67 : decode cX7_joint 67 = .ok (.iconst 1, 1) := by decide +kernel
theorem dX7_joint_68 : decode cX7_joint 68 = .ok (.goto 4, 3) := by decide +kernel
theorem dX7_joint_71 : decode cX7_joint 71 = .ok (.iconst 0, 1) := by decide +kernel
theorem dX7_joint_72 : decode cX7_joint 72 = .ok (.ireturn, 1) := by decide +kernel
theorem dX7_joint_73 : decode cX7_joint 73 = .ok (.aload_n 0, 1) := by decide +kernel
theorem dX7_joint_74 : decode cX7_joint 74 = .ok (.getfield 33, 3) := by decide +kernel
theorem dX7_joint_77 : decode cX7_joint 77 = .ok (.iload_n 1, 1) := by decide +kernel
theorem dX7_joint_78 : decode cX7_joint 78 = .ok (.invokevirtual 139, 3) := by decide +kernel
theorem dX7_joint_81 : decode cX7_joint 81 = .ok (.ireturn, 1) := by decide +kernel
theorem dX7_joint_82 : decode cX7_joint 82 = .ok (.aload_n 0, 1) := by decide +kernel
theorem dX7_joint_83 : decode cX7_joint 83 = .ok (.getfield 33, 3) := by decide +kernel
theorem dX7_joint_86 : decode cX7_joint 86 = .ok (.iload_n 1, 1) := by decide +kernel
theorem dX7_joint_87 : decode cX7_joint 87 = .ok (.aload_n 0, 1) := by decide +kernel
theorem dX7_joint_88 : decode cX7_joint 88 = .ok (.getfield 75, 3) := by decide +kernel
theorem dX7_joint_91 : decode cX7_joint 91 = .ok (.invokevirtual 143, 3) := by decide +kernel
theorem dX7_joint_94 : decode cX7_joint 94 = .ok (.ireturn, 1) := by decide +kernel
theorem dX7_joint_95 : decode cX7_joint 95 = .ok (.aload_n 0, 1) := by decide +kernel
theorem dX7_joint_96 : decode cX7_joint 96 = .ok (.getfield 53, 3) := by decide +kernel
theorem dX7_joint_99 : decode cX7_joint 99 = .ok (.iload_n 1, 1) := by decide +kernel
theorem dX7_joint_100 : decode cX7_joint 100 = .ok (.invokevirtual 146, 3) := by decide +kernel
theorem dX7_joint_103 : decode cX7_joint 103 = .ok (.ifCond .eq 7, 3) := by decide +kernel
theorem dX7_joint_106 : decode cX7_joint 106 = .ok (.iconst 0, 1) := by decide +kernel
theorem dX7_joint_107 : decode cX7_joint 107 = .ok (.goto 4, 3) := by decide +kernel
theorem dX7_joint_110 : decode cX7_joint 110 = .ok (.iconst 1, 1) := by decide +kernel
theorem dX7_joint_111 : decode cX7_joint 111 = .ok (.ireturn, 1) := by decide +kernel
theorem dX7_joint_112 : decode cX7_joint 112 = .ok (.aload_n 0, 1) := by decide +kernel
theorem dX7_joint_113 : decode cX7_joint 113 = .ok (.getfield 60, 3) := by decide +kernel
theorem dX7_joint_116 : decode cX7_joint 116 = .ok (.iload_n 1, 1) := by decide +kernel
theorem dX7_joint_117 : decode cX7_joint 117 = .ok (.invokevirtual 149, 3) := by decide +kernel
theorem dX7_joint_120 : decode cX7_joint 120 = .ok (.ifCond .eq 7, 3) := by decide +kernel
theorem dX7_joint_123 : decode cX7_joint 123 = .ok (.iconst 1, 1) := by decide +kernel
theorem dX7_joint_124 : decode cX7_joint 124 = .ok (.goto 4, 3) := by decide +kernel
theorem dX7_joint_127 : decode cX7_joint 127 = .ok (.iconst 0, 1) := by decide +kernel
theorem dX7_joint_128 : decode cX7_joint 128 = .ok (.ireturn, 1) := by decide +kernel
theorem dX7_joint_129 : decode cX7_joint 129 = .ok (.aload_n 0, 1) := by decide +kernel
theorem dX7_joint_130 : decode cX7_joint 130 = .ok (.getfield 53, 3) := by decide +kernel
theorem dX7_joint_133 : decode cX7_joint 133 = .ok (.iload_n 1, 1) := by decide +kernel
theorem dX7_joint_134 : decode cX7_joint 134 = .ok (.invokevirtual 152, 3) := by decide +kernel
theorem dX7_joint_137 : decode cX7_joint 137 = .ok (.ireturn, 1) := by decide +kernel
theorem dX7_joint_138 : decode cX7_joint 138 = .ok (.aload_n 0, 1) := by decide +kernel
theorem dX7_joint_139 : decode cX7_joint 139 = .ok (.getfield 60, 3) := by decide +kernel
theorem dX7_joint_142 : decode cX7_joint 142 = .ok (.iload_n 1, 1) := by decide +kernel
theorem dX7_joint_143 : decode cX7_joint 143 = .ok (.invokevirtual 155, 3) := by decide +kernel
theorem dX7_joint_146 : decode cX7_joint 146 = .ok (.ireturn, 1) := by decide +kernel
theorem dX7_joint_147 : decode cX7_joint 147 = .ok (.bipush (-2), 2) := by decide +kernel
theorem dX7_joint_149 : decode cX7_joint 149 = .ok (.ireturn, 1) := by decide +kernel
theorem dX7_why_0 : decode cX7_why 0 = .ok (.aload_n 0, 1) := by decide +kernel
theorem dX7_why_1 : decode cX7_why 1 = .ok (.getfield 33, 3) := by decide +kernel
theorem dX7_why_4 : decode cX7_why 4 = .ok (.iload_n 1, 1) := by decide +kernel
theorem dX7_why_5 : decode cX7_why 5 = .ok (.invokevirtual 129, 3) := by decide +kernel
theorem dX7_why_8 : decode cX7_why 8 = .ok (.ifCond .ne 5, 3) := by decide +kernel
theorem dX7_why_11 : decode cX7_why 11 = .ok (.iconst (-1), 1) := by decide +kernel
theorem dX7_why_12 : decode cX7_why 12 = .ok (.ireturn, 1) := by decide +kernel
theorem dX7_why_13 : decode cX7_why 13 = .ok (.iload_n 2, 1) := by decide +kernel
theorem dX7_why_14 : decode cX7_why 14 = .ok (.ifCond .lt 19, 3) := by decide +kernel
theorem dX7_why_17 : decode cX7_why 17 = .ok (.iload_n 2, 1) := by decide +kernel
theorem dX7_why_18 : decode cX7_why 18 = .ok (.sipush 150, 3) := by decide +kernel
theorem dX7_why_21 : decode cX7_why 21 = .ok (.if_icmp .ge 12, 3) := by decide +kernel
theorem dX7_why_24 : decode cX7_why 24 = .ok (.iload_n 3, 1) := by decide +kernel
theorem dX7_why_25 : decode cX7_why 25 = .ok (.ifCond .lt 8, 3) := by decide +kernel
theorem dX7_why_28 : decode cX7_why 28 = .ok (.iload_n 3, 1) := by decide +kernel
theorem dX7_why_29 : decode cX7_why 29 = .ok (.iconst 2, 1) := by decide +kernel
theorem dX7_why_30 : decode cX7_why 30 = .ok (.if_icmp .le 6, 3) := by decide +kernel
theorem dX7_why_33 : decode cX7_why 33 = .ok (.bipush (-2), 2) := by decide +kernel
theorem dX7_why_35 : decode cX7_why 35 = .ok (.ireturn, 1) := by decide +kernel
theorem dX7_why_36 : decode cX7_why 36 = .ok (.aload_n 0, 1) := by decide +kernel
theorem dX7_why_37 : decode cX7_why 37 = .ok (.getfield 53, 3) := by decide +kernel
theorem dX7_why_40 : decode cX7_why 40 = .ok (.iload_n 1, 1) := by decide +kernel
theorem dX7_why_41 : decode cX7_why 41 = .ok (.iload_n 2, 1) := by decide +kernel
theorem dX7_why_42 : decode cX7_why 42 = .ok (.invokevirtual 158, 3) := by decide +kernel
theorem dX7_why_45 : decode cX7_why 45 = .ok (.istore 4, 2) := by decide +kernel
theorem dX7_why_47 : decode cX7_why 47 = .ok (.iload_n 3, 1) := by decide +kernel
theorem dX7_why_48 : decode cX7_why 48 = .ok (.lookupswitch 48 #[(0, 28), (1, 38)], 28) := by decide +kernel
theorem dX7_why_76 : decode cX7_why 76 = .ok (.aload_n 0, 1) := by decide +kernel
theorem dX7_why_77 : decode cX7_why 77 = .ok (.getfield 53, 3) := by decide +kernel
theorem dX7_why_80 : decode cX7_why 80 = .ok (.iload 4, 2) := by decide +kernel
theorem dX7_why_82 : decode cX7_why 82 = .ok (.invokevirtual 161, 3) := by decide +kernel
theorem dX7_why_85 : decode cX7_why 85 = .ok (.ireturn, 1) := by decide +kernel
theorem dX7_why_86 : decode cX7_why 86 = .ok (.aload_n 0, 1) := by decide +kernel
theorem dX7_why_87 : decode cX7_why 87 = .ok (.getfield 53, 3) := by decide +kernel
theorem dX7_why_90 : decode cX7_why 90 = .ok (.iload 4, 2) := by decide +kernel
theorem dX7_why_92 : decode cX7_why 92 = .ok (.invokevirtual 164, 3) := by decide +kernel
theorem dX7_why_95 : decode cX7_why 95 = .ok (.ireturn, 1) := by decide +kernel
theorem dX7_why_96 : decode cX7_why 96 = .ok (.iload 4, 2) := by decide +kernel
theorem dX7_why_98 : decode cX7_why 98 = .ok (.ireturn, 1) := by decide +kernel
theorem dX7_wave_0 : decode cX7_wave 0 = .ok (.aload_n 0, 1) := by decide +kernel
theorem dX7_wave_1 : decode cX7_wave 1 = .ok (.getfield 53, 3) := by decide +kernel
theorem dX7_wave_4 : decode cX7_wave 4 = .ok (.iload_n 1, 1) := by decide +kernel
theorem dX7_wave_5 : decode cX7_wave 5 = .ok (.invokevirtual 167, 3) := by decide +kernel
theorem dX7_wave_8 : decode cX7_wave 8 = .ok (.ifCond .eq 14, 3) := by decide +kernel
theorem dX7_wave_11 : decode cX7_wave 11 = .ok (.aload_n 0, 1) := by decide +kernel
theorem dX7_wave_12 : decode cX7_wave 12 = .ok (.getfield 53, 3) := by decide +kernel
theorem dX7_wave_15 : decode cX7_wave 15 = .ok (.iload_n 1, 1) := by decide +kernel
theorem dX7_wave_16 : decode cX7_wave 16 = .ok (.invokevirtual 170, 3) := by decide +kernel
theorem dX7_wave_19 : decode cX7_wave 19 = .ok (.goto 4, 3) := by decide +kernel
theorem dX7_wave_22 : decode cX7_wave 22 = .ok (.iconst (-1), 1) := by decide +kernel
theorem dX7_wave_23 : decode cX7_wave 23 = .ok (.ireturn, 1) := by decide +kernel
theorem dX7_some_0 : decode cX7_some 0 = .ok (.iload_n 1, 1) := by decide +kernel
theorem dX7_some_1 : decode cX7_some 1 = .ok (.ifCond .lt 20, 3) := by decide +kernel
theorem dX7_some_4 : decode cX7_some 4 = .ok (.iload_n 1, 1) := by decide +kernel
theorem dX7_some_5 : decode cX7_some 5 = .ok (.aload_n 0, 1) := by decide +kernel
theorem dX7_some_6 : decode cX7_some 6 = .ok (.invokevirtual 173, 3) := by decide +kernel
theorem dX7_some_9 : decode cX7_some 9 = .ok (.if_icmp .gt 12, 3) := by decide +kernel
theorem dX7_some_12 : decode cX7_some 12 = .ok (.iload_n 2, 1) := by decide +kernel
theorem dX7_some_13 : decode cX7_some 13 = .ok (.ifCond .lt 8, 3) := by decide +kernel
theorem dX7_some_16 : decode cX7_some 16 = .ok (.iload_n 2, 1) := by decide +kernel
theorem dX7_some_17 : decode cX7_some 17 = .ok (.iconst 1, 1) := by decide +kernel
theorem dX7_some_18 : decode cX7_some 18 = .ok (.if_icmp .le 6, 3) := by decide +kernel
theorem dX7_some_21 : decode cX7_some 21 = .ok (.bipush (-2), 2) := by decide +kernel
theorem dX7_some_23 : decode cX7_some 23 = .ok (.ireturn, 1) := by decide +kernel
theorem dX7_some_24 : decode cX7_some 24 = .ok (.aload_n 0, 1) := by decide +kernel
theorem dX7_some_25 : decode cX7_some 25 = .ok (.iload_n 1, 1) := by decide +kernel
theorem dX7_some_26 : decode cX7_some 26 = .ok (.invokevirtual 177, 3) := by decide +kernel
theorem dX7_some_29 : decode cX7_some 29 = .ok (.aload_n 0, 1) := by decide +kernel
theorem dX7_some_30 : decode cX7_some 30 = .ok (.getfield 37, 3) := by decide +kernel
theorem dX7_some_33 : decode cX7_some 33 = .ok (.getfield 181, 3) := by decide +kernel
theorem dX7_some_36 : decode cX7_some 36 = .ok (.ifCond .eq 6, 3) := by decide +kernel
theorem dX7_some_39 : decode cX7_some 39 = .ok (.bipush (-9), 2) := by decide +kernel
theorem dX7_some_41 : decode cX7_some 41 = .ok (.ireturn, 1) := by decide +kernel
theorem dX7_some_42 : decode cX7_some 42 = .ok (.iload_n 2, 1) := by decide +kernel
theorem dX7_some_43 : decode cX7_some 43 = .ok (.ifCond .ne 13, 3) := by decide +kernel
theorem dX7_some_46 : decode cX7_some 46 = .ok (.aload_n 0, 1) := by decide +kernel
theorem dX7_some_47 : decode cX7_some 47 = .ok (.getfield 37, 3) := by decide +kernel
theorem dX7_some_50 : decode cX7_some 50 = .ok (.getfield 185, 3) := by decide +kernel
theorem dX7_some_53 : decode cX7_some 53 = .ok (.goto 10, 3) := by decide +kernel
theorem dX7_some_56 : decode cX7_some 56 = .ok (.aload_n 0, 1) := by decide +kernel
theorem dX7_some_57 : decode cX7_some 57 = .ok (.getfield 37, 3) := by decide +kernel
theorem dX7_some_60 : decode cX7_some 60 = .ok (.invokevirtual 188, 3) := by decide +kernel
theorem dX7_some_63 : decode cX7_some 63 = .ok (.ireturn, 1) := by decide +kernel
theorem dX7_go_0 : decode cX7_go 0 = .ok (.iload_n 1, 1) := by decide +kernel
theorem dX7_go_1 : decode cX7_go 1 = .ok (.invokestatic 101, 3) := by decide +kernel
theorem dX7_go_4 : decode cX7_go 4 = .ok (.ifCond .ne 5, 3) := by decide +kernel
theorem dX7_go_7 : decode cX7_go 7 = .ok (.iconst (-1), 1) := by decide +kernel
theorem dX7_go_8 : decode cX7_go 8 = .ok (.ireturn, 1) := by decide +kernel
theorem dX7_go_9 : decode cX7_go 9 = .ok (.aload_n 0, 1) := by decide +kernel
theorem dX7_go_10 : decode cX7_go 10 = .ok (.getfield 60, 3) := by decide +kernel
theorem dX7_go_13 : decode cX7_go 13 = .ok (.iconst 0, 1) := by decide +kernel
theorem dX7_go_14 : decode cX7_go 14 = .ok (.invokevirtual 149, 3) := by decide +kernel
theorem dX7_go_17 : decode cX7_go 17 = .ok (.ifCond .ne 6, 3) := by decide +kernel
theorem dX7_go_20 : decode cX7_go 20 = .ok (.bipush (-3), 2) := by decide +kernel
theorem dX7_go_22 : decode cX7_go 22 = .ok (.ireturn, 1) := by decide +kernel
theorem dX7_go_23 : decode cX7_go 23 = .ok (.aload_n 0, 1) := by decide +kernel
theorem dX7_go_24 : decode cX7_go 24 = .ok (.getfield 33, 3) := by decide +kernel
theorem dX7_go_27 : decode cX7_go 27 = .ok (.aload_n 0, 1) := by decide +kernel
theorem dX7_go_28 : decode cX7_go 28 = .ok (.getfield 67, 3) := by decide +kernel
theorem dX7_go_31 : decode cX7_go 31 = .ok (.getfield 191, 3) := by decide +kernel
theorem dX7_go_34 : decode cX7_go 34 = .ok (.iload_n 1, 1) := by decide +kernel
theorem dX7_go_35 : decode cX7_go 35 = .ok (.invokevirtual 135, 3) := by decide +kernel
theorem dX7_go_38 : decode cX7_go 38 = .ok (.istore_n 2, 1) := by decide +kernel
theorem dX7_go_39 : decode cX7_go 39 = .ok (.aload_n 0, 1) := by decide +kernel
theorem dX7_go_40 : decode cX7_go 40 = .ok (.getfield 60, 3) := by decide +kernel
theorem dX7_go_43 : decode cX7_go 43 = .ok (.iload_n 2, 1) := by decide +kernel
theorem dX7_go_44 : decode cX7_go 44 = .ok (.invokevirtual 149, 3) := by decide +kernel
theorem dX7_go_47 : decode cX7_go 47 = .ok (.ifCond .ne 6, 3) := by decide +kernel
theorem dX7_go_50 : decode cX7_go 50 = .ok (.bipush (-9), 2) := by decide +kernel
theorem dX7_go_52 : decode cX7_go 52 = .ok (.ireturn, 1) := by decide +kernel
theorem dX7_go_53 : decode cX7_go 53 = .ok (.aload_n 0, 1) := by decide +kernel
theorem dX7_go_54 : decode cX7_go 54 = .ok (.getfield 67, 3) := by decide +kernel
theorem dX7_go_57 : decode cX7_go 57 = .ok (.iload_n 2, 1) := by decide +kernel
theorem dX7_go_58 : decode cX7_go 58 = .ok (.invokevirtual 194, 3) := by decide +kernel
theorem dX7_go_61 : decode cX7_go 61 = .ok (.iload_n 2, 1) := by decide +kernel
theorem dX7_go_62 : decode cX7_go 62 = .ok (.ireturn, 1) := by decide +kernel
theorem dX7_back_0 : decode cX7_back 0 = .ok (.aload_n 0, 1) := by decide +kernel
theorem dX7_back_1 : decode cX7_back 1 = .ok (.getfield 67, 3) := by decide +kernel
theorem dX7_back_4 : decode cX7_back 4 = .ok (.invokevirtual 197, 3) := by decide +kernel
theorem dX7_back_7 : decode cX7_back 7 = .ok (.ifCond .eq 13, 3) := by decide +kernel
theorem dX7_back_10 : decode cX7_back 10 = .ok (.aload_n 0, 1) := by decide +kernel
theorem dX7_back_11 : decode cX7_back 11 = .ok (.getfield 67, 3) := by decide +kernel
theorem dX7_back_14 : decode cX7_back 14 = .ok (.getfield 191, 3) := by decide +kernel
theorem dX7_back_17 : decode cX7_back 17 = .ok (.goto 5, 3) := by decide +kernel
theorem dX7_back_20 : decode cX7_back 20 = .ok (.bipush (-3), 2) := by decide +kernel
theorem dX7_back_22 : decode cX7_back 22 = .ok (.ireturn, 1) := by decide +kernel
theorem dX7_at_0 : decode cX7_at 0 = .ok (.aload_n 0, 1) := by decide +kernel
theorem dX7_at_1 : decode cX7_at 1 = .ok (.getfield 60, 3) := by decide +kernel
theorem dX7_at_4 : decode cX7_at 4 = .ok (.iconst 0, 1) := by decide +kernel
theorem dX7_at_5 : decode cX7_at 5 = .ok (.invokevirtual 149, 3) := by decide +kernel
theorem dX7_at_8 : decode cX7_at 8 = .ok (.ifCond .eq 13, 3) := by decide +kernel
theorem dX7_at_11 : decode cX7_at 11 = .ok (.aload_n 0, 1) := by decide +kernel
theorem dX7_at_12 : decode cX7_at 12 = .ok (.getfield 67, 3) := by decide +kernel
theorem dX7_at_15 : decode cX7_at 15 = .ok (.getfield 191, 3) := by decide +kernel
theorem dX7_at_18 : decode cX7_at 18 = .ok (.goto 5, 3) := by decide +kernel
theorem dX7_at_21 : decode cX7_at 21 = .ok (.bipush (-3), 2) := by decide +kernel
theorem dX7_at_23 : decode cX7_at 23 = .ok (.ireturn, 1) := by decide +kernel
theorem dX7_finish_0 : decode cX7_finish 0 = .ok (.iload_n 1, 1) := by decide +kernel
theorem dX7_finish_1 : decode cX7_finish 1 = .ok (.invokestatic 201, 3) := by decide +kernel
theorem dX7_finish_4 : decode cX7_finish 4 = .ok (.ifCond .ne 6, 3) := by decide +kernel
theorem dX7_finish_7 : decode cX7_finish 7 = .ok (.bipush (-2), 2) := by decide +kernel
theorem dX7_finish_9 : decode cX7_finish 9 = .ok (.ireturn, 1) := by decide +kernel
theorem dX7_finish_10 : decode cX7_finish 10 = .ok (.aload_n 0, 1) := by decide +kernel
theorem dX7_finish_11 : decode cX7_finish 11 = .ok (.getfield 60, 3) := by decide +kernel
theorem dX7_finish_14 : decode cX7_finish 14 = .ok (.iconst 0, 1) := by decide +kernel
theorem dX7_finish_15 : decode cX7_finish 15 = .ok (.invokevirtual 149, 3) := by decide +kernel
theorem dX7_finish_18 : decode cX7_finish 18 = .ok (.ifCond .ne 6, 3) := by decide +kernel
theorem dX7_finish_21 : decode cX7_finish 21 = .ok (.bipush (-3), 2) := by decide +kernel
theorem dX7_finish_23 : decode cX7_finish 23 = .ok (.ireturn, 1) := by decide +kernel
theorem dX7_finish_24 : decode cX7_finish 24 = .ok (.iload_n 1, 1) := by decide +kernel
theorem dX7_finish_25 : decode cX7_finish 25 = .ok (.bipush (-9), 2) := by decide +kernel
theorem dX7_finish_27 : decode cX7_finish 27 = .ok (.if_icmp .ne 20, 3) := by decide +kernel
theorem dX7_finish_30 : decode cX7_finish 30 = .ok (.aload_n 0, 1) := by decide +kernel
theorem dX7_finish_31 : decode cX7_finish 31 = .ok (.getfield 33, 3) := by decide +kernel
theorem dX7_finish_34 : decode cX7_finish 34 = .ok (.aload_n 0, 1) := by decide +kernel
theorem dX7_finish_35 : decode cX7_finish 35 = .ok (.getfield 67, 3) := by decide +kernel
theorem dX7_finish_38 : decode cX7_finish 38 = .ok (.getfield 191, 3) := by decide +kernel
theorem dX7_finish_41 : decode cX7_finish 41 = .ok (.invokevirtual 204, 3) := by decide +kernel
theorem dX7_finish_44 : decode cX7_finish 44 = .ok (.goto 18, 3) := by decide +kernel
theorem dX7_finish_47 : decode cX7_finish 47 = .ok (.aload_n 0, 1) := by decide +kernel
theorem dX7_finish_48 : decode cX7_finish 48 = .ok (.getfield 33, 3) := by decide +kernel
theorem dX7_finish_51 : decode cX7_finish 51 = .ok (.aload_n 0, 1) := by decide +kernel
theorem dX7_finish_52 : decode cX7_finish 52 = .ok (.getfield 67, 3) := by decide +kernel
theorem dX7_finish_55 : decode cX7_finish 55 = .ok (.getfield 191, 3) := by decide +kernel
theorem dX7_finish_58 : decode cX7_finish 58 = .ok (.iload_n 1, 1) := by decide +kernel
theorem dX7_finish_59 : decode cX7_finish 59 = .ok (.invokevirtual 207, 3) := by decide +kernel
theorem dX7_finish_62 : decode cX7_finish 62 = .ok (.ireturn, 1) := by decide +kernel
theorem dX7_word_0 : decode cX7_word 0 = .ok (.aload_n 0, 1) := by decide +kernel
theorem dX7_word_1 : decode cX7_word 1 = .ok (.getfield 33, 3) := by decide +kernel
theorem dX7_word_4 : decode cX7_word 4 = .ok (.iload_n 1, 1) := by decide +kernel
theorem dX7_word_5 : decode cX7_word 5 = .ok (.invokevirtual 129, 3) := by decide +kernel
theorem dX7_word_8 : decode cX7_word 8 = .ok (.ifCond .ne 5, 3) := by decide +kernel
theorem dX7_word_11 : decode cX7_word 11 = .ok (.iconst (-1), 1) := by decide +kernel
theorem dX7_word_12 : decode cX7_word 12 = .ok (.ireturn, 1) := by decide +kernel
theorem dX7_word_13 : decode cX7_word 13 = .ok (.iload_n 2, 1) := by decide +kernel
theorem dX7_word_14 : decode cX7_word 14 = .ok (.invokestatic 201, 3) := by decide +kernel
theorem dX7_word_17 : decode cX7_word 17 = .ok (.ifCond .ne 6, 3) := by decide +kernel
theorem dX7_word_20 : decode cX7_word 20 = .ok (.bipush (-2), 2) := by decide +kernel
theorem dX7_word_22 : decode cX7_word 22 = .ok (.ireturn, 1) := by decide +kernel
theorem dX7_word_23 : decode cX7_word 23 = .ok (.iload_n 2, 1) := by decide +kernel
theorem dX7_word_24 : decode cX7_word 24 = .ok (.bipush (-9), 2) := by decide +kernel
theorem dX7_word_26 : decode cX7_word 26 = .ok (.if_icmp .ne 14, 3) := by decide +kernel
theorem dX7_word_29 : decode cX7_word 29 = .ok (.aload_n 0, 1) := by decide +kernel
theorem dX7_word_30 : decode cX7_word 30 = .ok (.getfield 60, 3) := by decide +kernel
theorem dX7_word_33 : decode cX7_word 33 = .ok (.iload_n 1, 1) := by decide +kernel
theorem dX7_word_34 : decode cX7_word 34 = .ok (.invokevirtual 210, 3) := by decide +kernel
theorem dX7_word_37 : decode cX7_word 37 = .ok (.goto 12, 3) := by decide +kernel
theorem dX7_word_40 : decode cX7_word 40 = .ok (.aload_n 0, 1) := by decide +kernel
theorem dX7_word_41 : decode cX7_word 41 = .ok (.getfield 60, 3) := by decide +kernel
theorem dX7_word_44 : decode cX7_word 44 = .ok (.iload_n 1, 1) := by decide +kernel
theorem dX7_word_45 : decode cX7_word 45 = .ok (.iload_n 2, 1) := by decide +kernel
theorem dX7_word_46 : decode cX7_word 46 = .ok (.invokevirtual 213, 3) := by decide +kernel
theorem dX7_word_49 : decode cX7_word 49 = .ok (.ireturn, 1) := by decide +kernel
theorem dX7_many_0 : decode cX7_many 0 = .ok (.iload_n 1, 1) := by decide +kernel
theorem dX7_many_1 : decode cX7_many 1 = .ok (.tableswitch 123 0 7 #[47, 52, 60, 83, 91, 99, 107, 115], 47) := by decide +kernel
theorem dX7_many_48 : decode cX7_many 48 = .ok (.aload_n 0, 1) := by decide +kernel
theorem dX7_many_49 : decode cX7_many 49 = .ok (.getfield 71, 3) := by decide +kernel
theorem dX7_many_52 : decode cX7_many 52 = .ok (.ireturn, 1) := by decide +kernel
theorem dX7_many_53 : decode cX7_many 53 = .ok (.aload_n 0, 1) := by decide +kernel
theorem dX7_many_54 : decode cX7_many 54 = .ok (.getfield 12, 3) := by decide +kernel
theorem dX7_many_57 : decode cX7_many 57 = .ok (.getfield 91, 3) := by decide +kernel
theorem dX7_many_60 : decode cX7_many 60 = .ok (.ireturn, 1) := by decide +kernel
theorem dX7_many_61 : decode cX7_many 61 = .ok (.aload_n 0, 1) := by decide +kernel
theorem dX7_many_62 : decode cX7_many 62 = .ok (.getfield 33, 3) := by decide +kernel
theorem dX7_many_65 : decode cX7_many 65 = .ok (.getfield 181, 3) := by decide +kernel
theorem dX7_many_68 : decode cX7_many 68 = .ok (.ifCond .eq 8, 3) := by decide +kernel
theorem dX7_many_71 : decode cX7_many 71 = .ok (.bipush (-9), 2) := by decide +kernel
theorem dX7_many_73 : decode cX7_many 73 = .ok (.goto 10, 3) := by decide +kernel
theorem dX7_many_76 : decode cX7_many 76 = .ok (.aload_n 0, 1) := by decide +kernel
theorem dX7_many_77 : decode cX7_many 77 = .ok (.getfield 33, 3) := by decide +kernel
theorem dX7_many_80 : decode cX7_many 80 = .ok (.getfield 185, 3) := by decide +kernel
theorem dX7_many_83 : decode cX7_many 83 = .ok (.ireturn, 1) := by decide +kernel
theorem dX7_many_84 : decode cX7_many 84 = .ok (.aload_n 0, 1) := by decide +kernel
theorem dX7_many_85 : decode cX7_many 85 = .ok (.getfield 53, 3) := by decide +kernel
theorem dX7_many_88 : decode cX7_many 88 = .ok (.getfield 216, 3) := by decide +kernel
theorem dX7_many_91 : decode cX7_many 91 = .ok (.ireturn, 1) := by decide +kernel
theorem dX7_many_92 : decode cX7_many 92 = .ok (.aload_n 0, 1) := by decide +kernel
theorem dX7_many_93 : decode cX7_many 93 = .ok (.getfield 60, 3) := by decide +kernel
theorem dX7_many_96 : decode cX7_many 96 = .ok (.getfield 219, 3) := by decide +kernel
theorem dX7_many_99 : decode cX7_many 99 = .ok (.ireturn, 1) := by decide +kernel
theorem dX7_many_100 : decode cX7_many 100 = .ok (.aload_n 0, 1) := by decide +kernel
theorem dX7_many_101 : decode cX7_many 101 = .ok (.getfield 53, 3) := by decide +kernel
theorem dX7_many_104 : decode cX7_many 104 = .ok (.getfield 220, 3) := by decide +kernel
theorem dX7_many_107 : decode cX7_many 107 = .ok (.ireturn, 1) := by decide +kernel
theorem dX7_many_108 : decode cX7_many 108 = .ok (.aload_n 0, 1) := by decide +kernel
theorem dX7_many_109 : decode cX7_many 109 = .ok (.getfield 67, 3) := by decide +kernel
theorem dX7_many_112 : decode cX7_many 112 = .ok (.getfield 223, 3) := by decide +kernel
theorem dX7_many_115 : decode cX7_many 115 = .ok (.ireturn, 1) := by decide +kernel
theorem dX7_many_116 : decode cX7_many 116 = .ok (.aload_n 0, 1) := by decide +kernel
theorem dX7_many_117 : decode cX7_many 117 = .ok (.getfield 60, 3) := by decide +kernel
theorem dX7_many_120 : decode cX7_many 120 = .ok (.getfield 224, 3) := by decide +kernel
theorem dX7_many_123 : decode cX7_many 123 = .ok (.ireturn, 1) := by decide +kernel
theorem dX7_many_124 : decode cX7_many 124 = .ok (.bipush (-2), 2) := by decide +kernel
theorem dX7_many_126 : decode cX7_many 126 = .ok (.ireturn, 1) := by decide +kernel
theorem dX7_joinAnew_0 : decode cX7_joinAnew 0 = .ok (.aload_n 0, 1) := by decide +kernel
theorem dX7_joinAnew_1 : decode cX7_joinAnew 1 = .ok (.getfield 33, 3) := by decide +kernel
theorem dX7_joinAnew_4 : decode cX7_joinAnew 4 = .ok (.aload_n 0, 1) := by decide +kernel
theorem dX7_joinAnew_5 : decode cX7_joinAnew 5 = .ok (.getfield 25, 3) := by decide +kernel
theorem dX7_joinAnew_8 : decode cX7_joinAnew 8 = .ok (.aload_n 0, 1) := by decide +kernel
theorem dX7_joinAnew_9 : decode cX7_joinAnew 9 = .ok (.invokevirtual 173, 3) := by decide +kernel
theorem dX7_joinAnew_12 : decode cX7_joinAnew 12 = .ok (.invokevirtual 227, 3) := by decide +kernel
theorem dX7_joinAnew_15 : decode cX7_joinAnew 15 = .ok (.aload_n 0, 1) := by decide +kernel
theorem dX7_joinAnew_16 : decode cX7_joinAnew 16 = .ok (.bipush (-9), 2) := by decide +kernel
theorem dX7_joinAnew_18 : decode cX7_joinAnew 18 = .ok (.putfield 78, 3) := by decide +kernel
theorem dX7_joinAnew_21 : decode cX7_joinAnew 21 = .ok (.return_, 1) := by decide +kernel
theorem dX7_joinPart_0 : decode cX7_joinPart 0 = .ok (.iload_n 1, 1) := by decide +kernel
theorem dX7_joinPart_1 : decode cX7_joinPart 1 = .ok (.aload_n 0, 1) := by decide +kernel
theorem dX7_joinPart_2 : decode cX7_joinPart 2 = .ok (.getfield 78, 3) := by decide +kernel
theorem dX7_joinPart_5 : decode cX7_joinPart 5 = .ok (.if_icmp .eq 31, 3) := by decide +kernel
theorem dX7_joinPart_8 : decode cX7_joinPart 8 = .ok (.aload_n 0, 1) := by decide +kernel
theorem dX7_joinPart_9 : decode cX7_joinPart 9 = .ok (.getfield 37, 3) := by decide +kernel
theorem dX7_joinPart_12 : decode cX7_joinPart 12 = .ok (.aload_n 0, 1) := by decide +kernel
theorem dX7_joinPart_13 : decode cX7_joinPart 13 = .ok (.getfield 25, 3) := by decide +kernel
theorem dX7_joinPart_16 : decode cX7_joinPart 16 = .ok (.iload_n 1, 1) := by decide +kernel
theorem dX7_joinPart_17 : decode cX7_joinPart 17 = .ok (.invokevirtual 227, 3) := by decide +kernel
theorem dX7_joinPart_20 : decode cX7_joinPart 20 = .ok (.aload_n 0, 1) := by decide +kernel
theorem dX7_joinPart_21 : decode cX7_joinPart 21 = .ok (.getfield 37, 3) := by decide +kernel
theorem dX7_joinPart_24 : decode cX7_joinPart 24 = .ok (.aload_n 0, 1) := by decide +kernel
theorem dX7_joinPart_25 : decode cX7_joinPart 25 = .ok (.getfield 40, 3) := by decide +kernel
theorem dX7_joinPart_28 : decode cX7_joinPart 28 = .ok (.invokevirtual 231, 3) := by decide +kernel
theorem dX7_joinPart_31 : decode cX7_joinPart 31 = .ok (.aload_n 0, 1) := by decide +kernel
theorem dX7_joinPart_32 : decode cX7_joinPart 32 = .ok (.iload_n 1, 1) := by decide +kernel
theorem dX7_joinPart_33 : decode cX7_joinPart 33 = .ok (.putfield 78, 3) := by decide +kernel
theorem dX7_joinPart_36 : decode cX7_joinPart 36 = .ok (.return_, 1) := by decide +kernel
theorem dX7_controlAnew_0 : decode cX7_controlAnew 0 = .ok (.aload_n 0, 1) := by decide +kernel
theorem dX7_controlAnew_1 : decode cX7_controlAnew 1 = .ok (.getfield 53, 3) := by decide +kernel
theorem dX7_controlAnew_4 : decode cX7_controlAnew 4 = .ok (.aload_n 0, 1) := by decide +kernel
theorem dX7_controlAnew_5 : decode cX7_controlAnew 5 = .ok (.getfield 33, 3) := by decide +kernel
theorem dX7_controlAnew_8 : decode cX7_controlAnew 8 = .ok (.aload_n 0, 1) := by decide +kernel
theorem dX7_controlAnew_9 : decode cX7_controlAnew 9 = .ok (.getfield 75, 3) := by decide +kernel
theorem dX7_controlAnew_12 : decode cX7_controlAnew 12 = .ok (.invokevirtual 235, 3) := by decide +kernel
theorem dX7_controlAnew_15 : decode cX7_controlAnew 15 = .ok (.aload_n 0, 1) := by decide +kernel
theorem dX7_controlAnew_16 : decode cX7_controlAnew 16 = .ok (.getfield 60, 3) := by decide +kernel
theorem dX7_controlAnew_19 : decode cX7_controlAnew 19 = .ok (.aload_n 0, 1) := by decide +kernel
theorem dX7_controlAnew_20 : decode cX7_controlAnew 20 = .ok (.getfield 33, 3) := by decide +kernel
theorem dX7_controlAnew_23 : decode cX7_controlAnew 23 = .ok (.aload_n 0, 1) := by decide +kernel
theorem dX7_controlAnew_24 : decode cX7_controlAnew 24 = .ok (.getfield 53, 3) := by decide +kernel
theorem dX7_controlAnew_27 : decode cX7_controlAnew 27 = .ok (.invokevirtual 239, 3) := by decide +kernel
theorem dX7_controlAnew_30 : decode cX7_controlAnew 30 = .ok (.aload_n 0, 1) := by decide +kernel
theorem dX7_controlAnew_31 : decode cX7_controlAnew 31 = .ok (.getfield 67, 3) := by decide +kernel
theorem dX7_controlAnew_34 : decode cX7_controlAnew 34 = .ok (.invokevirtual 243, 3) := by decide +kernel
theorem dX7_controlAnew_37 : decode cX7_controlAnew 37 = .ok (.return_, 1) := by decide +kernel
theorem dX7_setOfAllMachines_0 : decode cX7_setOfAllMachines 0 = .ok (.iconst 1, 1) := by decide +kernel
theorem dX7_setOfAllMachines_1 : decode cX7_setOfAllMachines 1 = .ok (.aload_n 0, 1) := by decide +kernel
theorem dX7_setOfAllMachines_2 : decode cX7_setOfAllMachines 2 = .ok (.getfield 71, 3) := by decide +kernel
theorem dX7_setOfAllMachines_5 : decode cX7_setOfAllMachines 5 = .ok (.ishl, 1) := by decide +kernel
theorem dX7_setOfAllMachines_6 : decode cX7_setOfAllMachines 6 = .ok (.iconst 1, 1) := by decide +kernel
theorem dX7_setOfAllMachines_7 : decode cX7_setOfAllMachines 7 = .ok (.isub, 1) := by decide +kernel
theorem dX7_setOfAllMachines_8 : decode cX7_setOfAllMachines 8 = .ok (.ireturn, 1) := by decide +kernel
theorem dX7_isMachine_0 : decode cX7_isMachine 0 = .ok (.iload_n 1, 1) := by decide +kernel
theorem dX7_isMachine_1 : decode cX7_isMachine 1 = .ok (.ifCond .lt 15, 3) := by decide +kernel
theorem dX7_isMachine_4 : decode cX7_isMachine 4 = .ok (.iload_n 1, 1) := by decide +kernel
theorem dX7_isMachine_5 : decode cX7_isMachine 5 = .ok (.aload_n 0, 1) := by decide +kernel
theorem dX7_isMachine_6 : decode cX7_isMachine 6 = .ok (.getfield 71, 3) := by decide +kernel
theorem dX7_isMachine_9 : decode cX7_isMachine 9 = .ok (.if_icmp .ge 7, 3) := by decide +kernel
theorem dX7_isMachine_12 : decode cX7_isMachine 12 = .ok (.iconst 1, 1) := by decide +kernel
theorem dX7_isMachine_13 : decode cX7_isMachine 13 = .ok (.goto 4, 3) := by decide +kernel
theorem dX7_isMachine_16 : decode cX7_isMachine 16 = .ok (.iconst 0, 1) := by decide +kernel
theorem dX7_isMachine_17 : decode cX7_isMachine 17 = .ok (.ireturn, 1) := by decide +kernel
theorem dX7_isState_0 : decode cX7_isState 0 = .ok (.iload_n 0, 1) := by decide +kernel
theorem dX7_isState_1 : decode cX7_isState 1 = .ok (.ifCond .lt 13, 3) := by decide +kernel
theorem dX7_isState_4 : decode cX7_isState 4 = .ok (.iload_n 0, 1) := by decide +kernel
theorem dX7_isState_5 : decode cX7_isState 5 = .ok (.bipush 6, 2) := by decide +kernel
theorem dX7_isState_7 : decode cX7_isState 7 = .ok (.if_icmp .ge 7, 3) := by decide +kernel
theorem dX7_isState_10 : decode cX7_isState 10 = .ok (.iconst 1, 1) := by decide +kernel
theorem dX7_isState_11 : decode cX7_isState 11 = .ok (.goto 4, 3) := by decide +kernel
theorem dX7_isState_14 : decode cX7_isState 14 = .ok (.iconst 0, 1) := by decide +kernel
theorem dX7_isState_15 : decode cX7_isState 15 = .ok (.ireturn, 1) := by decide +kernel
theorem dX7_isEvent_0 : decode cX7_isEvent 0 = .ok (.iload_n 0, 1) := by decide +kernel
theorem dX7_isEvent_1 : decode cX7_isEvent 1 = .ok (.ifCond .lt 13, 3) := by decide +kernel
theorem dX7_isEvent_4 : decode cX7_isEvent 4 = .ok (.iload_n 0, 1) := by decide +kernel
theorem dX7_isEvent_5 : decode cX7_isEvent 5 = .ok (.bipush 8, 2) := by decide +kernel
theorem dX7_isEvent_7 : decode cX7_isEvent 7 = .ok (.if_icmp .ge 7, 3) := by decide +kernel
theorem dX7_isEvent_10 : decode cX7_isEvent 10 = .ok (.iconst 1, 1) := by decide +kernel
theorem dX7_isEvent_11 : decode cX7_isEvent 11 = .ok (.goto 4, 3) := by decide +kernel
theorem dX7_isEvent_14 : decode cX7_isEvent 14 = .ok (.iconst 0, 1) := by decide +kernel
theorem dX7_isEvent_15 : decode cX7_isEvent 15 = .ok (.ireturn, 1) := by decide +kernel
theorem dX7_isJoint_0 : decode cX7_isJoint 0 = .ok (.iload_n 0, 1) := by decide +kernel
theorem dX7_isJoint_1 : decode cX7_isJoint 1 = .ok (.ifCond .lt 14, 3) := by decide +kernel
theorem dX7_isJoint_4 : decode cX7_isJoint 4 = .ok (.iload_n 0, 1) := by decide +kernel
theorem dX7_isJoint_5 : decode cX7_isJoint 5 = .ok (.sipush 150, 3) := by decide +kernel
theorem dX7_isJoint_8 : decode cX7_isJoint 8 = .ok (.if_icmp .ge 7, 3) := by decide +kernel
theorem dX7_isJoint_11 : decode cX7_isJoint 11 = .ok (.iconst 1, 1) := by decide +kernel
theorem dX7_isJoint_12 : decode cX7_isJoint 12 = .ok (.goto 4, 3) := by decide +kernel
theorem dX7_isJoint_15 : decode cX7_isJoint 15 = .ok (.iconst 0, 1) := by decide +kernel
theorem dX7_isJoint_16 : decode cX7_isJoint 16 = .ok (.ireturn, 1) := by decide +kernel
theorem dX7_isPlaceInWord_0 : decode cX7_isPlaceInWord 0 = .ok (.iload_n 0, 1) := by decide +kernel
theorem dX7_isPlaceInWord_1 : decode cX7_isPlaceInWord 1 = .ok (.bipush (-9), 2) := by decide +kernel
theorem dX7_isPlaceInWord_3 : decode cX7_isPlaceInWord 3 = .ok (.if_icmp .eq 14, 3) := by decide +kernel
theorem dX7_isPlaceInWord_6 : decode cX7_isPlaceInWord 6 = .ok (.iload_n 0, 1) := by decide +kernel
theorem dX7_isPlaceInWord_7 : decode cX7_isPlaceInWord 7 = .ok (.ifCond .lt 14, 3) := by decide +kernel
theorem dX7_isPlaceInWord_10 : decode cX7_isPlaceInWord 10 = .ok (.iload_n 0, 1) := by decide +kernel
theorem dX7_isPlaceInWord_11 : decode cX7_isPlaceInWord 11 = .ok (.sipush 150, 3) := by decide +kernel
theorem dX7_isPlaceInWord_14 : decode cX7_isPlaceInWord 14 = .ok (.if_icmp .ge 7, 3) := by decide +kernel
theorem dX7_isPlaceInWord_17 : decode cX7_isPlaceInWord 17 = .ok (.iconst 1, 1) := by decide +kernel
theorem dX7_isPlaceInWord_18 : decode cX7_isPlaceInWord 18 = .ok (.goto 4, 3) := by decide +kernel
theorem dX7_isPlaceInWord_21 : decode cX7_isPlaceInWord 21 = .ok (.iconst 0, 1) := by decide +kernel
theorem dX7_isPlaceInWord_22 : decode cX7_isPlaceInWord 22 = .ok (.ireturn, 1) := by decide +kernel
theorem dX7_isIn_0 : decode cX7_isIn 0 = .ok (.iload_n 0, 1) := by decide +kernel
theorem dX7_isIn_1 : decode cX7_isIn 1 = .ok (.iload_n 1, 1) := by decide +kernel
theorem dX7_isIn_2 : decode cX7_isIn 2 = .ok (.ishr, 1) := by decide +kernel
theorem dX7_isIn_3 : decode cX7_isIn 3 = .ok (.iconst 1, 1) := by decide +kernel
theorem dX7_isIn_4 : decode cX7_isIn 4 = .ok (.iand, 1) := by decide +kernel
theorem dX7_isIn_5 : decode cX7_isIn 5 = .ok (.iconst 1, 1) := by decide +kernel
theorem dX7_isIn_6 : decode cX7_isIn 6 = .ok (.if_icmp .ne 7, 3) := by decide +kernel
theorem dX7_isIn_9 : decode cX7_isIn 9 = .ok (.iconst 1, 1) := by decide +kernel
theorem dX7_isIn_10 : decode cX7_isIn 10 = .ok (.goto 4, 3) := by decide +kernel
theorem dX7_isIn_13 : decode cX7_isIn 13 = .ok (.iconst 0, 1) := by decide +kernel
theorem dX7_isIn_14 : decode cX7_isIn 14 = .ok (.ireturn, 1) := by decide +kernel
theorem dX7_leastIn_0 : decode cX7_leastIn 0 = .ok (.iconst 0, 1) := by decide +kernel
theorem dX7_leastIn_1 : decode cX7_leastIn 1 = .ok (.istore_n 1, 1) := by decide +kernel
theorem dX7_leastIn_2 : decode cX7_leastIn 2 = .ok (.iload_n 1, 1) := by decide +kernel
theorem dX7_leastIn_3 : decode cX7_leastIn 3 = .ok (.bipush 8, 2) := by decide +kernel
theorem dX7_leastIn_5 : decode cX7_leastIn 5 = .ok (.if_icmp .ge 19, 3) := by decide +kernel
theorem dX7_leastIn_8 : decode cX7_leastIn 8 = .ok (.iload_n 0, 1) := by decide +kernel
theorem dX7_leastIn_9 : decode cX7_leastIn 9 = .ok (.iload_n 1, 1) := by decide +kernel
theorem dX7_leastIn_10 : decode cX7_leastIn 10 = .ok (.invokestatic 246, 3) := by decide +kernel
theorem dX7_leastIn_13 : decode cX7_leastIn 13 = .ok (.ifCond .eq 5, 3) := by decide +kernel
theorem dX7_leastIn_16 : decode cX7_leastIn 16 = .ok (.iload_n 1, 1) := by decide +kernel
theorem dX7_leastIn_17 : decode cX7_leastIn 17 = .ok (.ireturn, 1) := by decide +kernel
theorem dX7_leastIn_18 : decode cX7_leastIn 18 = .ok (.iinc 1 1, 3) := by decide +kernel
theorem dX7_leastIn_21 : decode cX7_leastIn 21 = .ok (.goto (-19), 3) := by decide +kernel
theorem dX7_leastIn_24 : decode cX7_leastIn 24 = .ok (.bipush (-9), 2) := by decide +kernel
theorem dX7_leastIn_26 : decode cX7_leastIn 26 = .ok (.ireturn, 1) := by decide +kernel
theorem dX8_init_0 : decode cX8_init 0 = .ok (.aload_n 0, 1) := by decide +kernel
theorem dX8_init_1 : decode cX8_init 1 = .ok (.invokespecial 1, 3) := by decide +kernel
theorem dX8_init_4 : decode cX8_init 4 = .ok (.aload_n 0, 1) := by decide +kernel
theorem dX8_init_5 : decode cX8_init 5 = .ok (.bipush 60, 2) := by decide +kernel
theorem dX8_init_7 : decode cX8_init 7 = .ok (.newarray .int, 2) := by decide +kernel
theorem dX8_init_9 : decode cX8_init 9 = .ok (.putfield 7, 3) := by decide +kernel
theorem dX8_init_12 : decode cX8_init 12 = .ok (.aload_n 0, 1) := by decide +kernel
theorem dX8_init_13 : decode cX8_init 13 = .ok (.bipush 6, 2) := by decide +kernel
theorem dX8_init_15 : decode cX8_init 15 = .ok (.newarray .int, 2) := by decide +kernel
theorem dX8_init_17 : decode cX8_init 17 = .ok (.putfield 13, 3) := by decide +kernel
theorem dX8_init_20 : decode cX8_init 20 = .ok (.aload_n 0, 1) := by decide +kernel
theorem dX8_init_21 : decode cX8_init 21 = .ok (.bipush 6, 2) := by decide +kernel
theorem dX8_init_23 : decode cX8_init 23 = .ok (.newarray .int, 2) := by decide +kernel
theorem dX8_init_25 : decode cX8_init 25 = .ok (.putfield 16, 3) := by decide +kernel
theorem dX8_init_28 : decode cX8_init 28 = .ok (.aload_n 0, 1) := by decide +kernel
theorem dX8_init_29 : decode cX8_init 29 = .ok (.bipush 6, 2) := by decide +kernel
theorem dX8_init_31 : decode cX8_init 31 = .ok (.newarray .int, 2) := by decide +kernel
theorem dX8_init_33 : decode cX8_init 33 = .ok (.putfield 19, 3) := by decide +kernel
theorem dX8_init_36 : decode cX8_init 36 = .ok (.aload_n 0, 1) := by decide +kernel
theorem dX8_init_37 : decode cX8_init 37 = .ok (.bipush 6, 2) := by decide +kernel
theorem dX8_init_39 : decode cX8_init 39 = .ok (.newarray .int, 2) := by decide +kernel
theorem dX8_init_41 : decode cX8_init 41 = .ok (.putfield 22, 3) := by decide +kernel
theorem dX8_init_44 : decode cX8_init 44 = .ok (.aload_n 0, 1) := by decide +kernel
theorem dX8_init_45 : decode cX8_init 45 = .ok (.bipush 6, 2) := by decide +kernel
theorem dX8_init_47 : decode cX8_init 47 = .ok (.newarray .int, 2) := by decide +kernel
theorem dX8_init_49 : decode cX8_init 49 = .ok (.putfield 25, 3) := by decide +kernel
theorem dX8_init_52 : decode cX8_init 52 = .ok (.aload_n 0, 1) := by decide +kernel
theorem dX8_init_53 : decode cX8_init 53 = .ok (.sipush 288, 3) := by decide +kernel
theorem dX8_init_56 : decode cX8_init 56 = .ok (.newarray .int, 2) := by decide +kernel
theorem dX8_init_58 : decode cX8_init 58 = .ok (.putfield 28, 3) := by decide +kernel
theorem dX8_init_61 : decode cX8_init 61 = .ok (.aload_n 0, 1) := by decide +kernel
theorem dX8_init_62 : decode cX8_init 62 = .ok (.sipush 150, 3) := by decide +kernel
theorem dX8_init_65 : decode cX8_init 65 = .ok (.newarray .int, 2) := by decide +kernel
theorem dX8_init_67 : decode cX8_init 67 = .ok (.putfield 31, 3) := by decide +kernel
theorem dX8_init_70 : decode cX8_init 70 = .ok (.aload_n 0, 1) := by decide +kernel
theorem dX8_init_71 : decode cX8_init 71 = .ok (.sipush 1200, 3) := by decide +kernel
theorem dX8_init_74 : decode cX8_init 74 = .ok (.newarray .int, 2) := by decide +kernel
theorem dX8_init_76 : decode cX8_init 76 = .ok (.putfield 34, 3) := by decide +kernel
theorem dX8_init_79 : decode cX8_init 79 = .ok (.aload_n 0, 1) := by decide +kernel
theorem dX8_init_80 : decode cX8_init 80 = .ok (.sipush 150, 3) := by decide +kernel
theorem dX8_init_83 : decode cX8_init 83 = .ok (.newarray .int, 2) := by decide +kernel
theorem dX8_init_85 : decode cX8_init 85 = .ok (.putfield 37, 3) := by decide +kernel
theorem dX8_init_88 : decode cX8_init 88 = .ok (.aload_n 0, 1) := by decide +kernel
theorem dX8_init_89 : decode cX8_init 89 = .ok (.sipush 150, 3) := by decide +kernel
theorem dX8_init_92 : decode cX8_init 92 = .ok (.newarray .int, 2) := by decide +kernel
theorem dX8_init_94 : decode cX8_init 94 = .ok (.putfield 40, 3) := by decide +kernel
theorem dX8_init_97 : decode cX8_init 97 = .ok (.aload_n 0, 1) := by decide +kernel
theorem dX8_init_98 : decode cX8_init 98 = .ok (.sipush 150, 3) := by decide +kernel
theorem dX8_init_101 : decode cX8_init 101 = .ok (.newarray .int, 2) := by decide +kernel
theorem dX8_init_103 : decode cX8_init 103 = .ok (.putfield 43, 3) := by decide +kernel
theorem dX8_init_106 : decode cX8_init 106 = .ok (.aload_n 0, 1) := by decide +kernel
theorem dX8_init_107 : decode cX8_init 107 = .ok (.sipush 150, 3) := by decide +kernel
theorem dX8_init_110 : decode cX8_init 110 = .ok (.newarray .boolean, 2) := by decide +kernel
theorem dX8_init_112 : decode cX8_init 112 = .ok (.putfield 46, 3) := by decide +kernel
theorem dX8_init_115 : decode cX8_init 115 = .ok (.aload_n 0, 1) := by decide +kernel
theorem dX8_init_116 : decode cX8_init 116 = .ok (.sipush 150, 3) := by decide +kernel
theorem dX8_init_119 : decode cX8_init 119 = .ok (.newarray .boolean, 2) := by decide +kernel
theorem dX8_init_121 : decode cX8_init 121 = .ok (.putfield 50, 3) := by decide +kernel
theorem dX8_init_124 : decode cX8_init 124 = .ok (.aload_n 0, 1) := by decide +kernel
theorem dX8_init_125 : decode cX8_init 125 = .ok (.bipush 16, 2) := by decide +kernel
theorem dX8_init_127 : decode cX8_init 127 = .ok (.newarray .int, 2) := by decide +kernel
theorem dX8_init_129 : decode cX8_init 129 = .ok (.putfield 53, 3) := by decide +kernel
theorem dX8_init_132 : decode cX8_init 132 = .ok (.aload_n 0, 1) := by decide +kernel
theorem dX8_init_133 : decode cX8_init 133 = .ok (.sipush 150, 3) := by decide +kernel
theorem dX8_init_136 : decode cX8_init 136 = .ok (.newarray .int, 2) := by decide +kernel
theorem dX8_init_138 : decode cX8_init 138 = .ok (.putfield 56, 3) := by decide +kernel
theorem dX8_init_141 : decode cX8_init 141 = .ok (.return_, 1) := by decide +kernel
theorem dX8_within_0 : decode cX8_within 0 = .ok (.iload_n 0, 1) := by decide +kernel
theorem dX8_within_1 : decode cX8_within 1 = .ok (.iload_n 1, 1) := by decide +kernel
theorem dX8_within_2 : decode cX8_within 2 = .ok (.if_icmp .lt 12, 3) := by decide +kernel
theorem dX8_within_5 : decode cX8_within 5 = .ok (.iload_n 0, 1) := by decide +kernel
theorem dX8_within_6 : decode cX8_within 6 = .ok (.iload_n 2, 1) := by decide +kernel
theorem dX8_within_7 : decode cX8_within 7 = .ok (.if_icmp .gt 7, 3) := by decide +kernel
theorem dX8_within_10 : decode cX8_within 10 = .ok (.iconst 1, 1) := by decide +kernel
theorem dX8_within_11 : decode cX8_within 11 = .ok (.goto 4, 3) := by decide +kernel
theorem dX8_within_14 : decode cX8_within 14 = .ok (.iconst 0, 1) := by decide +kernel
theorem dX8_within_15 : decode cX8_within 15 = .ok (.ireturn, 1) := by decide +kernel
theorem dX8_bit_0 : decode cX8_bit 0 = .ok (.iload_n 0, 1) := by decide +kernel
theorem dX8_bit_1 : decode cX8_bit 1 = .ok (.iload_n 1, 1) := by decide +kernel
theorem dX8_bit_2 : decode cX8_bit 2 = .ok (.ishr, 1) := by decide +kernel
theorem dX8_bit_3 : decode cX8_bit 3 = .ok (.iconst 1, 1) := by decide +kernel
theorem dX8_bit_4 : decode cX8_bit 4 = .ok (.iand, 1) := by decide +kernel
theorem dX8_bit_5 : decode cX8_bit 5 = .ok (.ireturn, 1) := by decide +kernel
theorem dX8_type_0 : decode cX8_type 0 = .ok (.iload_n 1, 1) := by decide +kernel
theorem dX8_type_1 : decode cX8_type 1 = .ok (.iconst 0, 1) := by decide +kernel
theorem dX8_type_2 : decode cX8_type 2 = .ok (.bipush 127, 2) := by decide +kernel
theorem dX8_type_4 : decode cX8_type 4 = .ok (.invokestatic 59, 3) := by decide +kernel
theorem dX8_type_7 : decode cX8_type 7 = .ok (.ifCond .ne 6, 3) := by decide +kernel
theorem dX8_type_10 : decode cX8_type 10 = .ok (.bipush (-2), 2) := by decide +kernel
theorem dX8_type_12 : decode cX8_type 12 = .ok (.ireturn, 1) := by decide +kernel
theorem dX8_type_13 : decode cX8_type 13 = .ok (.aload_n 0, 1) := by decide +kernel
theorem dX8_type_14 : decode cX8_type 14 = .ok (.getfield 63, 3) := by decide +kernel
theorem dX8_type_17 : decode cX8_type 17 = .ok (.bipush 60, 2) := by decide +kernel
theorem dX8_type_19 : decode cX8_type 19 = .ok (.if_icmp .ne 6, 3) := by decide +kernel
theorem dX8_type_22 : decode cX8_type 22 = .ok (.bipush (-4), 2) := by decide +kernel
theorem dX8_type_24 : decode cX8_type 24 = .ok (.ireturn, 1) := by decide +kernel
theorem dX8_type_25 : decode cX8_type 25 = .ok (.aload_n 0, 1) := by decide +kernel
theorem dX8_type_26 : decode cX8_type 26 = .ok (.getfield 7, 3) := by decide +kernel
theorem dX8_type_29 : decode cX8_type 29 = .ok (.aload_n 0, 1) := by decide +kernel
theorem dX8_type_30 : decode cX8_type 30 = .ok (.getfield 63, 3) := by decide +kernel
theorem dX8_type_33 : decode cX8_type 33 = .ok (.iload_n 1, 1) := by decide +kernel
theorem dX8_type_34 : decode cX8_type 34 = .ok (.iastore, 1) := by decide +kernel
theorem dX8_type_35 : decode cX8_type 35 = .ok (.aload_n 0, 1) := by decide +kernel
theorem dX8_type_36 : decode cX8_type 36 = .ok (.dup, 1) := by decide +kernel
theorem dX8_type_37 : decode cX8_type 37 = .ok (.getfield 63, 3) := by decide +kernel
theorem dX8_type_40 : decode cX8_type 40 = .ok (.iconst 1, 1) := by decide +kernel
theorem dX8_type_41 : decode cX8_type 41 = .ok (.iadd, 1) := by decide +kernel
theorem dX8_type_42 : decode cX8_type 42 = .ok (.putfield 63, 3) := by decide +kernel
theorem dX8_type_45 : decode cX8_type 45 = .ok (.aload_n 0, 1) := by decide +kernel
theorem dX8_type_46 : decode cX8_type 46 = .ok (.getfield 63, 3) := by decide +kernel
theorem dX8_type_49 : decode cX8_type 49 = .ok (.ireturn, 1) := by decide +kernel
theorem dX8_wipe_0 : decode cX8_wipe 0 = .ok (.aload_n 0, 1) := by decide +kernel
theorem dX8_wipe_1 : decode cX8_wipe 1 = .ok (.getfield 63, 3) := by decide +kernel
theorem dX8_wipe_4 : decode cX8_wipe 4 = .ok (.istore_n 1, 1) := by decide +kernel
theorem dX8_wipe_5 : decode cX8_wipe 5 = .ok (.aload_n 0, 1) := by decide +kernel
theorem dX8_wipe_6 : decode cX8_wipe 6 = .ok (.iconst 0, 1) := by decide +kernel
theorem dX8_wipe_7 : decode cX8_wipe 7 = .ok (.putfield 63, 3) := by decide +kernel
theorem dX8_wipe_10 : decode cX8_wipe 10 = .ok (.iload_n 1, 1) := by decide +kernel
theorem dX8_wipe_11 : decode cX8_wipe 11 = .ok (.ireturn, 1) := by decide +kernel
theorem dX8_stepAt_0 : decode cX8_stepAt 0 = .ok (.bipush 8, 2) := by decide +kernel
theorem dX8_stepAt_2 : decode cX8_stepAt 2 = .ok (.bipush 6, 2) := by decide +kernel
theorem dX8_stepAt_4 : decode cX8_stepAt 4 = .ok (.iload_n 0, 1) := by decide +kernel
theorem dX8_stepAt_5 : decode cX8_stepAt 5 = .ok (.imul, 1) := by decide +kernel
theorem dX8_stepAt_6 : decode cX8_stepAt 6 = .ok (.iload_n 1, 1) := by decide +kernel
theorem dX8_stepAt_7 : decode cX8_stepAt 7 = .ok (.iadd, 1) := by decide +kernel
theorem dX8_stepAt_8 : decode cX8_stepAt 8 = .ok (.imul, 1) := by decide +kernel
theorem dX8_stepAt_9 : decode cX8_stepAt 9 = .ok (.iload_n 2, 1) := by decide +kernel
theorem dX8_stepAt_10 : decode cX8_stepAt 10 = .ok (.iadd, 1) := by decide +kernel
theorem dX8_stepAt_11 : decode cX8_stepAt 11 = .ok (.ireturn, 1) := by decide +kernel
theorem dX8_codeHere_0 : decode cX8_codeHere 0 = .ok (.aload_n 0, 1) := by decide +kernel
theorem dX8_codeHere_1 : decode cX8_codeHere 1 = .ok (.getfield 67, 3) := by decide +kernel
theorem dX8_codeHere_4 : decode cX8_codeHere 4 = .ok (.aload_n 0, 1) := by decide +kernel
theorem dX8_codeHere_5 : decode cX8_codeHere 5 = .ok (.getfield 63, 3) := by decide +kernel
theorem dX8_codeHere_8 : decode cX8_codeHere 8 = .ok (.if_icmp .ge 15, 3) := by decide +kernel
theorem dX8_codeHere_11 : decode cX8_codeHere 11 = .ok (.aload_n 0, 1) := by decide +kernel
theorem dX8_codeHere_12 : decode cX8_codeHere 12 = .ok (.getfield 7, 3) := by decide +kernel
theorem dX8_codeHere_15 : decode cX8_codeHere 15 = .ok (.aload_n 0, 1) := by decide +kernel
theorem dX8_codeHere_16 : decode cX8_codeHere 16 = .ok (.getfield 67, 3) := by decide +kernel
theorem dX8_codeHere_19 : decode cX8_codeHere 19 = .ok (.iaload, 1) := by decide +kernel
theorem dX8_codeHere_20 : decode cX8_codeHere 20 = .ok (.goto 5, 3) := by decide +kernel
theorem dX8_codeHere_23 : decode cX8_codeHere 23 = .ok (.bipush (-9), 2) := by decide +kernel
theorem dX8_codeHere_25 : decode cX8_codeHere 25 = .ok (.ireturn, 1) := by decide +kernel
theorem dX8_isFigure_0 : decode cX8_isFigure 0 = .ok (.aload_n 0, 1) := by decide +kernel
theorem dX8_isFigure_1 : decode cX8_isFigure 1 = .ok (.invokevirtual 70, 3) := by decide +kernel
theorem dX8_isFigure_4 : decode cX8_isFigure 4 = .ok (.bipush 48, 2) := by decide +kernel
theorem dX8_isFigure_6 : decode cX8_isFigure 6 = .ok (.bipush 53, 2) := by decide +kernel
theorem dX8_isFigure_8 : decode cX8_isFigure 8 = .ok (.invokestatic 59, 3) := by decide +kernel
theorem dX8_isFigure_11 : decode cX8_isFigure 11 = .ok (.ireturn, 1) := by decide +kernel
theorem dX8_isLetter_0 : decode cX8_isLetter 0 = .ok (.aload_n 0, 1) := by decide +kernel
theorem dX8_isLetter_1 : decode cX8_isLetter 1 = .ok (.invokevirtual 70, 3) := by decide +kernel
theorem dX8_isLetter_4 : decode cX8_isLetter 4 = .ok (.bipush 97, 2) := by decide +kernel
theorem dX8_isLetter_6 : decode cX8_isLetter 6 = .ok (.bipush 104, 2) := by decide +kernel
theorem dX8_isLetter_8 : decode cX8_isLetter 8 = .ok (.invokestatic 59, 3) := by decide +kernel
theorem dX8_isLetter_11 : decode cX8_isLetter 11 = .ok (.ireturn, 1) := by decide +kernel
theorem dX8_names_0 : decode cX8_names 0 = .ok (.aload_n 0, 1) := by decide +kernel
theorem dX8_names_1 : decode cX8_names 1 = .ok (.getfield 25, 3) := by decide +kernel
theorem dX8_names_4 : decode cX8_names 4 = .ok (.iload_n 1, 1) := by decide +kernel
theorem dX8_names_5 : decode cX8_names 5 = .ok (.iload_n 2, 1) := by decide +kernel
theorem dX8_names_6 : decode cX8_names 6 = .ok (.aload_n 0, 1) := by decide +kernel
theorem dX8_names_7 : decode cX8_names 7 = .ok (.getfield 25, 3) := by decide +kernel
theorem dX8_names_10 : decode cX8_names 10 = .ok (.iload_n 1, 1) := by decide +kernel
theorem dX8_names_11 : decode cX8_names 11 = .ok (.iaload, 1) := by decide +kernel
theorem dX8_names_12 : decode cX8_names 12 = .ok (.if_icmp .le 7, 3) := by decide +kernel
theorem dX8_names_15 : decode cX8_names 15 = .ok (.iload_n 2, 1) := by decide +kernel
theorem dX8_names_16 : decode cX8_names 16 = .ok (.goto 9, 3) := by decide +kernel
theorem dX8_names_19 : decode cX8_names 19 = .ok (.aload_n 0, 1) := by decide +kernel
theorem dX8_names_20 : decode cX8_names 20 = .ok (.getfield 25, 3) := by decide +kernel
theorem dX8_names_23 : decode cX8_names 23 = .ok (.iload_n 1, 1) := by decide +kernel
theorem dX8_names_24 : decode cX8_names 24 = .ok (.iaload, 1) := by decide +kernel
theorem dX8_names_25 : decode cX8_names 25 = .ok (.iastore, 1) := by decide +kernel
theorem dX8_names_26 : decode cX8_names 26 = .ok (.return_, 1) := by decide +kernel
theorem dX8_readsStep_0 : decode cX8_readsStep 0 = .ok (.aload_n 0, 1) := by decide +kernel
theorem dX8_readsStep_1 : decode cX8_readsStep 1 = .ok (.invokevirtual 70, 3) := by decide +kernel
theorem dX8_readsStep_4 : decode cX8_readsStep 4 = .ok (.bipush 48, 2) := by decide +kernel
theorem dX8_readsStep_6 : decode cX8_readsStep 6 = .ok (.isub, 1) := by decide +kernel
theorem dX8_readsStep_7 : decode cX8_readsStep 7 = .ok (.istore_n 2, 1) := by decide +kernel
theorem dX8_readsStep_8 : decode cX8_readsStep 8 = .ok (.aload_n 0, 1) := by decide +kernel
theorem dX8_readsStep_9 : decode cX8_readsStep 9 = .ok (.dup, 1) := by decide +kernel
theorem dX8_readsStep_10 : decode cX8_readsStep 10 = .ok (.getfield 67, 3) := by decide +kernel
theorem dX8_readsStep_13 : decode cX8_readsStep 13 = .ok (.iconst 1, 1) := by decide +kernel
theorem dX8_readsStep_14 : decode cX8_readsStep 14 = .ok (.iadd, 1) := by decide +kernel
theorem dX8_readsStep_15 : decode cX8_readsStep 15 = .ok (.putfield 67, 3) := by decide +kernel
theorem dX8_readsStep_18 : decode cX8_readsStep 18 = .ok (.aload_n 0, 1) := by decide +kernel
theorem dX8_readsStep_19 : decode cX8_readsStep 19 = .ok (.invokevirtual 74, 3) := by decide +kernel
theorem dX8_readsStep_22 : decode cX8_readsStep 22 = .ok (.ifCond .ne 5, 3) := by decide +kernel
theorem dX8_readsStep_25 : decode cX8_readsStep 25 = .ok (.iconst 0, 1) := by decide +kernel
theorem dX8_readsStep_26 : decode cX8_readsStep 26 = .ok (.ireturn, 1) := by decide +kernel
theorem dX8_readsStep_27 : decode cX8_readsStep 27 = .ok (.aload_n 0, 1) := by decide +kernel
theorem dX8_readsStep_28 : decode cX8_readsStep 28 = .ok (.invokevirtual 70, 3) := by decide +kernel
theorem dX8_readsStep_31 : decode cX8_readsStep 31 = .ok (.bipush 97, 2) := by decide +kernel
theorem dX8_readsStep_33 : decode cX8_readsStep 33 = .ok (.isub, 1) := by decide +kernel
theorem dX8_readsStep_34 : decode cX8_readsStep 34 = .ok (.istore_n 3, 1) := by decide +kernel
theorem dX8_readsStep_35 : decode cX8_readsStep 35 = .ok (.aload_n 0, 1) := by decide +kernel
theorem dX8_readsStep_36 : decode cX8_readsStep 36 = .ok (.dup, 1) := by decide +kernel
theorem dX8_readsStep_37 : decode cX8_readsStep 37 = .ok (.getfield 67, 3) := by decide +kernel
theorem dX8_readsStep_40 : decode cX8_readsStep 40 = .ok (.iconst 1, 1) := by decide +kernel
theorem dX8_readsStep_41 : decode cX8_readsStep 41 = .ok (.iadd, 1) := by decide +kernel
theorem dX8_readsStep_42 : decode cX8_readsStep 42 = .ok (.putfield 67, 3) := by decide +kernel
theorem dX8_readsStep_45 : decode cX8_readsStep 45 = .ok (.aload_n 0, 1) := by decide +kernel
theorem dX8_readsStep_46 : decode cX8_readsStep 46 = .ok (.invokevirtual 78, 3) := by decide +kernel
theorem dX8_readsStep_49 : decode cX8_readsStep 49 = .ok (.ifCond .ne 5, 3) := by decide +kernel
theorem dX8_readsStep_52 : decode cX8_readsStep 52 = .ok (.iconst 0, 1) := by decide +kernel
theorem dX8_readsStep_53 : decode cX8_readsStep 53 = .ok (.ireturn, 1) := by decide +kernel
theorem dX8_readsStep_54 : decode cX8_readsStep 54 = .ok (.aload_n 0, 1) := by decide +kernel
theorem dX8_readsStep_55 : decode cX8_readsStep 55 = .ok (.invokevirtual 70, 3) := by decide +kernel
theorem dX8_readsStep_58 : decode cX8_readsStep 58 = .ok (.bipush 48, 2) := by decide +kernel
theorem dX8_readsStep_60 : decode cX8_readsStep 60 = .ok (.isub, 1) := by decide +kernel
theorem dX8_readsStep_61 : decode cX8_readsStep 61 = .ok (.istore 4, 2) := by decide +kernel
theorem dX8_readsStep_63 : decode cX8_readsStep 63 = .ok (.iload_n 1, 1) := by decide +kernel
theorem dX8_readsStep_64 : decode cX8_readsStep 64 = .ok (.iload_n 2, 1) := by decide +kernel
theorem dX8_readsStep_65 : decode cX8_readsStep 65 = .ok (.iload_n 3, 1) := by decide +kernel
theorem dX8_readsStep_66 : decode cX8_readsStep 66 = .ok (.invokestatic 81, 3) := by decide +kernel
theorem dX8_readsStep_69 : decode cX8_readsStep 69 = .ok (.istore 5, 2) := by decide +kernel
theorem dX8_readsStep_71 : decode cX8_readsStep 71 = .ok (.aload_n 0, 1) := by decide +kernel
theorem dX8_readsStep_72 : decode cX8_readsStep 72 = .ok (.getfield 28, 3) := by decide +kernel
theorem dX8_readsStep_75 : decode cX8_readsStep 75 = .ok (.iload 5, 2) := by decide +kernel
theorem dX8_readsStep_77 : decode cX8_readsStep 77 = .ok (.iaload, 1) := by decide +kernel
theorem dX8_readsStep_78 : decode cX8_readsStep 78 = .ok (.bipush (-9), 2) := by decide +kernel
theorem dX8_readsStep_80 : decode cX8_readsStep 80 = .ok (.if_icmp .eq 17, 3) := by decide +kernel
theorem dX8_readsStep_83 : decode cX8_readsStep 83 = .ok (.aload_n 0, 1) := by decide +kernel
theorem dX8_readsStep_84 : decode cX8_readsStep 84 = .ok (.getfield 28, 3) := by decide +kernel
theorem dX8_readsStep_87 : decode cX8_readsStep 87 = .ok (.iload 5, 2) := by decide +kernel
theorem dX8_readsStep_89 : decode cX8_readsStep 89 = .ok (.iaload, 1) := by decide +kernel
theorem dX8_readsStep_90 : decode cX8_readsStep 90 = .ok (.iload 4, 2) := by decide +kernel
theorem dX8_readsStep_92 : decode cX8_readsStep 92 = .ok (.if_icmp .eq 5, 3) := by decide +kernel
theorem dX8_readsStep_95 : decode cX8_readsStep 95 = .ok (.iconst 0, 1) := by decide +kernel
theorem dX8_readsStep_96 : decode cX8_readsStep 96 = .ok (.ireturn, 1) := by decide +kernel
theorem dX8_readsStep_97 : decode cX8_readsStep 97 = .ok (.aload_n 0, 1) := by decide +kernel
theorem dX8_readsStep_98 : decode cX8_readsStep 98 = .ok (.getfield 22, 3) := by decide +kernel
theorem dX8_readsStep_101 : decode cX8_readsStep 101 = .ok (.iload_n 1, 1) := by decide +kernel
theorem dX8_readsStep_102 : decode cX8_readsStep 102 = .ok (.dup2, 1) := by decide +kernel
theorem dX8_readsStep_103 : decode cX8_readsStep 103 = .ok (.iaload, 1) := by decide +kernel
theorem dX8_readsStep_104 : decode cX8_readsStep 104 = .ok (.aload_n 0, 1) := by decide +kernel
theorem dX8_readsStep_105 : decode cX8_readsStep 105 = .ok (.getfield 28, 3) := by decide +kernel
theorem dX8_readsStep_108 : decode cX8_readsStep 108 = .ok (.iload 5, 2) := by decide +kernel
theorem dX8_readsStep_110 : decode cX8_readsStep 110 = .ok (.iaload, 1) := by decide +kernel
theorem dX8_readsStep_111 : decode cX8_readsStep 111 = .ok (.bipush (-9), 2) := by decide +kernel
theorem dX8_readsStep_113 : decode cX8_readsStep 113 = .ok (.if_icmp .ne 7, 3) := by decide +kernel
theorem dX8_readsStep_116 : decode cX8_readsStep 116 = .ok (.iconst 1, 1) := by decide +kernel
theorem dX8_readsStep_117 : decode cX8_readsStep 117 = .ok (.goto 4, 3) := by decide +kernel
theorem dX8_readsStep_120 : decode cX8_readsStep 120 = .ok (.iconst 0, 1) := by decide +kernel
theorem dX8_readsStep_121 : decode cX8_readsStep 121 = .ok (.iadd, 1) := by decide +kernel
theorem dX8_readsStep_122 : decode cX8_readsStep 122 = .ok (.iastore, 1) := by decide +kernel
theorem dX8_readsStep_123 : decode cX8_readsStep 123 = .ok (.aload_n 0, 1) := by decide +kernel
theorem dX8_readsStep_124 : decode cX8_readsStep 124 = .ok (.getfield 28, 3) := by decide +kernel
theorem dX8_readsStep_127 : decode cX8_readsStep 127 = .ok (.iload 5, 2) := by decide +kernel
theorem dX8_readsStep_129 : decode cX8_readsStep 129 = .ok (.iload 4, 2) := by decide +kernel
theorem dX8_readsStep_131 : decode cX8_readsStep 131 = .ok (.iastore, 1) := by decide +kernel
theorem dX8_readsStep_132 : decode cX8_readsStep 132 = .ok (.aload_n 0, 1) := by decide +kernel
theorem dX8_readsStep_133 : decode cX8_readsStep 133 = .ok (.getfield 16, 3) := by decide +kernel
theorem dX8_readsStep_136 : decode cX8_readsStep 136 = .ok (.iload_n 1, 1) := by decide +kernel
theorem dX8_readsStep_137 : decode cX8_readsStep 137 = .ok (.dup2, 1) := by decide +kernel
theorem dX8_readsStep_138 : decode cX8_readsStep 138 = .ok (.iaload, 1) := by decide +kernel
theorem dX8_readsStep_139 : decode cX8_readsStep 139 = .ok (.iconst 1, 1) := by decide +kernel
theorem dX8_readsStep_140 : decode cX8_readsStep 140 = .ok (.iload_n 3, 1) := by decide +kernel
theorem dX8_readsStep_141 : decode cX8_readsStep 141 = .ok (.ishl, 1) := by decide +kernel
theorem dX8_readsStep_142 : decode cX8_readsStep 142 = .ok (.ior, 1) := by decide +kernel
theorem dX8_readsStep_143 : decode cX8_readsStep 143 = .ok (.iastore, 1) := by decide +kernel
theorem dX8_readsStep_144 : decode cX8_readsStep 144 = .ok (.aload_n 0, 1) := by decide +kernel
theorem dX8_readsStep_145 : decode cX8_readsStep 145 = .ok (.iload_n 1, 1) := by decide +kernel
theorem dX8_readsStep_146 : decode cX8_readsStep 146 = .ok (.iload_n 2, 1) := by decide +kernel
theorem dX8_readsStep_147 : decode cX8_readsStep 147 = .ok (.invokevirtual 85, 3) := by decide +kernel
theorem dX8_readsStep_150 : decode cX8_readsStep 150 = .ok (.aload_n 0, 1) := by decide +kernel
theorem dX8_readsStep_151 : decode cX8_readsStep 151 = .ok (.iload_n 1, 1) := by decide +kernel
theorem dX8_readsStep_152 : decode cX8_readsStep 152 = .ok (.iload 4, 2) := by decide +kernel
theorem dX8_readsStep_154 : decode cX8_readsStep 154 = .ok (.invokevirtual 85, 3) := by decide +kernel
theorem dX8_readsStep_157 : decode cX8_readsStep 157 = .ok (.aload_n 0, 1) := by decide +kernel
theorem dX8_readsStep_158 : decode cX8_readsStep 158 = .ok (.dup, 1) := by decide +kernel
theorem dX8_readsStep_159 : decode cX8_readsStep 159 = .ok (.getfield 67, 3) := by decide +kernel
theorem dX8_readsStep_162 : decode cX8_readsStep 162 = .ok (.iconst 1, 1) := by decide +kernel
theorem dX8_readsStep_163 : decode cX8_readsStep 163 = .ok (.iadd, 1) := by decide +kernel
theorem dX8_readsStep_164 : decode cX8_readsStep 164 = .ok (.putfield 67, 3) := by decide +kernel
theorem dX8_readsStep_167 : decode cX8_readsStep 167 = .ok (.iconst 1, 1) := by decide +kernel
theorem dX8_readsStep_168 : decode cX8_readsStep 168 = .ok (.ireturn, 1) := by decide +kernel
theorem dX8_readsItem_0 : decode cX8_readsItem 0 = .ok (.aload_n 0, 1) := by decide +kernel
theorem dX8_readsItem_1 : decode cX8_readsItem 1 = .ok (.invokevirtual 78, 3) := by decide +kernel
theorem dX8_readsItem_4 : decode cX8_readsItem 4 = .ok (.ifCond .eq 9, 3) := by decide +kernel
theorem dX8_readsItem_7 : decode cX8_readsItem 7 = .ok (.aload_n 0, 1) := by decide +kernel
theorem dX8_readsItem_8 : decode cX8_readsItem 8 = .ok (.iload_n 1, 1) := by decide +kernel
theorem dX8_readsItem_9 : decode cX8_readsItem 9 = .ok (.invokevirtual 89, 3) := by decide +kernel
theorem dX8_readsItem_12 : decode cX8_readsItem 12 = .ok (.ireturn, 1) := by decide +kernel
theorem dX8_readsItem_13 : decode cX8_readsItem 13 = .ok (.aload_n 0, 1) := by decide +kernel
theorem dX8_readsItem_14 : decode cX8_readsItem 14 = .ok (.invokevirtual 70, 3) := by decide +kernel
theorem dX8_readsItem_17 : decode cX8_readsItem 17 = .ok (.istore_n 2, 1) := by decide +kernel
theorem dX8_readsItem_18 : decode cX8_readsItem 18 = .ok (.iload_n 2, 1) := by decide +kernel
theorem dX8_readsItem_19 : decode cX8_readsItem 19 = .ok (.bipush 42, 2) := by decide +kernel
theorem dX8_readsItem_21 : decode cX8_readsItem 21 = .ok (.if_icmp .eq 11, 3) := by decide +kernel
theorem dX8_readsItem_24 : decode cX8_readsItem 24 = .ok (.iload_n 2, 1) := by decide +kernel
theorem dX8_readsItem_25 : decode cX8_readsItem 25 = .ok (.bipush 33, 2) := by decide +kernel
theorem dX8_readsItem_27 : decode cX8_readsItem 27 = .ok (.if_icmp .eq 5, 3) := by decide +kernel
theorem dX8_readsItem_30 : decode cX8_readsItem 30 = .ok (.iconst 0, 1) := by decide +kernel
theorem dX8_readsItem_31 : decode cX8_readsItem 31 = .ok (.ireturn, 1) := by decide +kernel
theorem dX8_readsItem_32 : decode cX8_readsItem 32 = .ok (.aload_n 0, 1) := by decide +kernel
theorem dX8_readsItem_33 : decode cX8_readsItem 33 = .ok (.dup, 1) := by decide +kernel
theorem dX8_readsItem_34 : decode cX8_readsItem 34 = .ok (.getfield 67, 3) := by decide +kernel
theorem dX8_readsItem_37 : decode cX8_readsItem 37 = .ok (.iconst 1, 1) := by decide +kernel
theorem dX8_readsItem_38 : decode cX8_readsItem 38 = .ok (.iadd, 1) := by decide +kernel
theorem dX8_readsItem_39 : decode cX8_readsItem 39 = .ok (.putfield 67, 3) := by decide +kernel
theorem dX8_readsItem_42 : decode cX8_readsItem 42 = .ok (.iload_n 2, 1) := by decide +kernel
theorem dX8_readsItem_43 : decode cX8_readsItem 43 = .ok (.bipush 42, 2) := by decide +kernel
theorem dX8_readsItem_45 : decode cX8_readsItem 45 = .ok (.if_icmp .ne 13, 3) := by decide +kernel
theorem dX8_readsItem_48 : decode cX8_readsItem 48 = .ok (.aload_n 0, 1) := by decide +kernel
theorem dX8_readsItem_49 : decode cX8_readsItem 49 = .ok (.invokevirtual 78, 3) := by decide +kernel
theorem dX8_readsItem_52 : decode cX8_readsItem 52 = .ok (.ifCond .ne 15, 3) := by decide +kernel
theorem dX8_readsItem_55 : decode cX8_readsItem 55 = .ok (.goto 10, 3) := by decide +kernel
theorem dX8_readsItem_58 : decode cX8_readsItem 58 = .ok (.aload_n 0, 1) := by decide +kernel
theorem dX8_readsItem_59 : decode cX8_readsItem 59 = .ok (.invokevirtual 74, 3) := by decide +kernel
theorem dX8_readsItem_62 : decode cX8_readsItem 62 = .ok (.ifCond .ne 5, 3) := by decide +kernel
theorem dX8_readsItem_65 : decode cX8_readsItem 65 = .ok (.iconst 0, 1) := by decide +kernel
theorem dX8_readsItem_66 : decode cX8_readsItem 66 = .ok (.ireturn, 1) := by decide +kernel
theorem dX8_readsItem_67 : decode cX8_readsItem 67 = .ok (.iload_n 2, 1) := by decide +kernel
theorem dX8_readsItem_68 : decode cX8_readsItem 68 = .ok (.bipush 42, 2) := by decide +kernel
theorem dX8_readsItem_70 : decode cX8_readsItem 70 = .ok (.if_icmp .ne 36, 3) := by decide +kernel
theorem dX8_readsItem_73 : decode cX8_readsItem 73 = .ok (.aload_n 0, 1) := by decide +kernel
theorem dX8_readsItem_74 : decode cX8_readsItem 74 = .ok (.getfield 19, 3) := by decide +kernel
theorem dX8_readsItem_77 : decode cX8_readsItem 77 = .ok (.iload_n 1, 1) := by decide +kernel
theorem dX8_readsItem_78 : decode cX8_readsItem 78 = .ok (.dup2, 1) := by decide +kernel
theorem dX8_readsItem_79 : decode cX8_readsItem 79 = .ok (.iaload, 1) := by decide +kernel
theorem dX8_readsItem_80 : decode cX8_readsItem 80 = .ok (.iconst 1, 1) := by decide +kernel
theorem dX8_readsItem_81 : decode cX8_readsItem 81 = .ok (.aload_n 0, 1) := by decide +kernel
theorem dX8_readsItem_82 : decode cX8_readsItem 82 = .ok (.invokevirtual 70, 3) := by decide +kernel
theorem dX8_readsItem_85 : decode cX8_readsItem 85 = .ok (.bipush 48, 2) := by decide +kernel
theorem dX8_readsItem_87 : decode cX8_readsItem 87 = .ok (.isub, 1) := by decide +kernel
theorem dX8_readsItem_88 : decode cX8_readsItem 88 = .ok (.ishl, 1) := by decide +kernel
theorem dX8_readsItem_89 : decode cX8_readsItem 89 = .ok (.ior, 1) := by decide +kernel
theorem dX8_readsItem_90 : decode cX8_readsItem 90 = .ok (.iastore, 1) := by decide +kernel
theorem dX8_readsItem_91 : decode cX8_readsItem 91 = .ok (.aload_n 0, 1) := by decide +kernel
theorem dX8_readsItem_92 : decode cX8_readsItem 92 = .ok (.iload_n 1, 1) := by decide +kernel
theorem dX8_readsItem_93 : decode cX8_readsItem 93 = .ok (.aload_n 0, 1) := by decide +kernel
theorem dX8_readsItem_94 : decode cX8_readsItem 94 = .ok (.invokevirtual 70, 3) := by decide +kernel
theorem dX8_readsItem_97 : decode cX8_readsItem 97 = .ok (.bipush 48, 2) := by decide +kernel
theorem dX8_readsItem_99 : decode cX8_readsItem 99 = .ok (.isub, 1) := by decide +kernel
theorem dX8_readsItem_100 : decode cX8_readsItem 100 = .ok (.invokevirtual 85, 3) := by decide +kernel
theorem dX8_readsItem_103 : decode cX8_readsItem 103 = .ok (.goto 21, 3) := by decide +kernel
theorem dX8_readsItem_106 : decode cX8_readsItem 106 = .ok (.aload_n 0, 1) := by decide +kernel
theorem dX8_readsItem_107 : decode cX8_readsItem 107 = .ok (.getfield 16, 3) := by decide +kernel
theorem dX8_readsItem_110 : decode cX8_readsItem 110 = .ok (.iload_n 1, 1) := by decide +kernel
theorem dX8_readsItem_111 : decode cX8_readsItem 111 = .ok (.dup2, 1) := by decide +kernel
theorem dX8_readsItem_112 : decode cX8_readsItem 112 = .ok (.iaload, 1) := by decide +kernel
theorem dX8_readsItem_113 : decode cX8_readsItem 113 = .ok (.iconst 1, 1) := by decide +kernel
theorem dX8_readsItem_114 : decode cX8_readsItem 114 = .ok (.aload_n 0, 1) := by decide +kernel
theorem dX8_readsItem_115 : decode cX8_readsItem 115 = .ok (.invokevirtual 70, 3) := by decide +kernel
theorem dX8_readsItem_118 : decode cX8_readsItem 118 = .ok (.bipush 97, 2) := by decide +kernel
theorem dX8_readsItem_120 : decode cX8_readsItem 120 = .ok (.isub, 1) := by decide +kernel
theorem dX8_readsItem_121 : decode cX8_readsItem 121 = .ok (.ishl, 1) := by decide +kernel
theorem dX8_readsItem_122 : decode cX8_readsItem 122 = .ok (.ior, 1) := by decide +kernel
theorem dX8_readsItem_123 : decode cX8_readsItem 123 = .ok (.iastore, 1) := by decide +kernel
theorem dX8_readsItem_124 : decode cX8_readsItem 124 = .ok (.aload_n 0, 1) := by decide +kernel
theorem dX8_readsItem_125 : decode cX8_readsItem 125 = .ok (.dup, 1) := by decide +kernel
theorem dX8_readsItem_126 : decode cX8_readsItem 126 = .ok (.getfield 67, 3) := by decide +kernel
theorem dX8_readsItem_129 : decode cX8_readsItem 129 = .ok (.iconst 1, 1) := by decide +kernel
theorem dX8_readsItem_130 : decode cX8_readsItem 130 = .ok (.iadd, 1) := by decide +kernel
theorem dX8_readsItem_131 : decode cX8_readsItem 131 = .ok (.putfield 67, 3) := by decide +kernel
theorem dX8_readsItem_134 : decode cX8_readsItem 134 = .ok (.iconst 1, 1) := by decide +kernel
theorem dX8_readsItem_135 : decode cX8_readsItem 135 = .ok (.ireturn, 1) := by decide +kernel
theorem dX8_reads_0 : decode cX8_reads 0 = .ok (.aload_n 0, 1) := by decide +kernel
theorem dX8_reads_1 : decode cX8_reads 1 = .ok (.iconst 0, 1) := by decide +kernel
theorem dX8_reads_2 : decode cX8_reads 2 = .ok (.putfield 67, 3) := by decide +kernel
theorem dX8_reads_5 : decode cX8_reads 5 = .ok (.aload_n 0, 1) := by decide +kernel
theorem dX8_reads_6 : decode cX8_reads 6 = .ok (.iload_n 1, 1) := by decide +kernel
theorem dX8_reads_7 : decode cX8_reads 7 = .ok (.invokevirtual 93, 3) := by decide +kernel
theorem dX8_reads_10 : decode cX8_reads 10 = .ok (.ifCond .ne 5, 3) := by decide +kernel
theorem dX8_reads_13 : decode cX8_reads 13 = .ok (.iconst 0, 1) := by decide +kernel
theorem dX8_reads_14 : decode cX8_reads 14 = .ok (.ireturn, 1) := by decide +kernel
theorem dX8_reads_15 : decode cX8_reads 15 = .ok (.aload_n 0, 1) := by decide +kernel
theorem dX8_reads_16 : decode cX8_reads 16 = .ok (.getfield 67, 3) := by decide +kernel
theorem dX8_reads_19 : decode cX8_reads 19 = .ok (.aload_n 0, 1) := by decide +kernel
theorem dX8_reads_20 : decode cX8_reads 20 = .ok (.getfield 63, 3) := by decide +kernel
theorem dX8_reads_23 : decode cX8_reads 23 = .ok (.if_icmp .ge 34, 3) := by decide +kernel
theorem dX8_reads_26 : decode cX8_reads 26 = .ok (.aload_n 0, 1) := by decide +kernel
theorem dX8_reads_27 : decode cX8_reads 27 = .ok (.invokevirtual 70, 3) := by decide +kernel
theorem dX8_reads_30 : decode cX8_reads 30 = .ok (.bipush 32, 2) := by decide +kernel
theorem dX8_reads_32 : decode cX8_reads 32 = .ok (.if_icmp .eq 5, 3) := by decide +kernel
theorem dX8_reads_35 : decode cX8_reads 35 = .ok (.iconst 0, 1) := by decide +kernel
theorem dX8_reads_36 : decode cX8_reads 36 = .ok (.ireturn, 1) := by decide +kernel
theorem dX8_reads_37 : decode cX8_reads 37 = .ok (.aload_n 0, 1) := by decide +kernel
theorem dX8_reads_38 : decode cX8_reads 38 = .ok (.dup, 1) := by decide +kernel
theorem dX8_reads_39 : decode cX8_reads 39 = .ok (.getfield 67, 3) := by decide +kernel
theorem dX8_reads_42 : decode cX8_reads 42 = .ok (.iconst 1, 1) := by decide +kernel
theorem dX8_reads_43 : decode cX8_reads 43 = .ok (.iadd, 1) := by decide +kernel
theorem dX8_reads_44 : decode cX8_reads 44 = .ok (.putfield 67, 3) := by decide +kernel
theorem dX8_reads_47 : decode cX8_reads 47 = .ok (.aload_n 0, 1) := by decide +kernel
theorem dX8_reads_48 : decode cX8_reads 48 = .ok (.iload_n 1, 1) := by decide +kernel
theorem dX8_reads_49 : decode cX8_reads 49 = .ok (.invokevirtual 93, 3) := by decide +kernel
theorem dX8_reads_52 : decode cX8_reads 52 = .ok (.ifCond .ne (-37), 3) := by decide +kernel
theorem dX8_reads_55 : decode cX8_reads 55 = .ok (.iconst 0, 1) := by decide +kernel
theorem dX8_reads_56 : decode cX8_reads 56 = .ok (.ireturn, 1) := by decide +kernel
theorem dX8_reads_57 : decode cX8_reads 57 = .ok (.iconst 1, 1) := by decide +kernel
theorem dX8_reads_58 : decode cX8_reads 58 = .ok (.ireturn, 1) := by decide +kernel
theorem dX8_machine_0 : decode cX8_machine 0 = .ok (.iload_n 1, 1) := by decide +kernel
theorem dX8_machine_1 : decode cX8_machine 1 = .ok (.iconst 0, 1) := by decide +kernel
theorem dX8_machine_2 : decode cX8_machine 2 = .ok (.iconst 1, 1) := by decide +kernel
theorem dX8_machine_3 : decode cX8_machine 3 = .ok (.invokestatic 59, 3) := by decide +kernel
theorem dX8_machine_6 : decode cX8_machine 6 = .ok (.ifCond .ne 6, 3) := by decide +kernel
theorem dX8_machine_9 : decode cX8_machine 9 = .ok (.bipush (-2), 2) := by decide +kernel
theorem dX8_machine_11 : decode cX8_machine 11 = .ok (.ireturn, 1) := by decide +kernel
theorem dX8_machine_12 : decode cX8_machine 12 = .ok (.aload_n 0, 1) := by decide +kernel
theorem dX8_machine_13 : decode cX8_machine 13 = .ok (.getfield 96, 3) := by decide +kernel
theorem dX8_machine_16 : decode cX8_machine 16 = .ok (.bipush 6, 2) := by decide +kernel
theorem dX8_machine_18 : decode cX8_machine 18 = .ok (.if_icmp .ne 6, 3) := by decide +kernel
theorem dX8_machine_21 : decode cX8_machine 21 = .ok (.bipush (-4), 2) := by decide +kernel
theorem dX8_machine_23 : decode cX8_machine 23 = .ok (.ireturn, 1) := by decide +kernel
theorem dX8_machine_24 : decode cX8_machine 24 = .ok (.aload_n 0, 1) := by decide +kernel
theorem dX8_machine_25 : decode cX8_machine 25 = .ok (.getfield 96, 3) := by decide +kernel
theorem dX8_machine_28 : decode cX8_machine 28 = .ok (.istore_n 2, 1) := by decide +kernel
theorem dX8_machine_29 : decode cX8_machine 29 = .ok (.aload_n 0, 1) := by decide +kernel
theorem dX8_machine_30 : decode cX8_machine 30 = .ok (.getfield 13, 3) := by decide +kernel
theorem dX8_machine_33 : decode cX8_machine 33 = .ok (.iload_n 2, 1) := by decide +kernel
theorem dX8_machine_34 : decode cX8_machine 34 = .ok (.iload_n 1, 1) := by decide +kernel
theorem dX8_machine_35 : decode cX8_machine 35 = .ok (.iastore, 1) := by decide +kernel
theorem dX8_machine_36 : decode cX8_machine 36 = .ok (.aload_n 0, 1) := by decide +kernel
theorem dX8_machine_37 : decode cX8_machine 37 = .ok (.getfield 16, 3) := by decide +kernel
theorem dX8_machine_40 : decode cX8_machine 40 = .ok (.iload_n 2, 1) := by decide +kernel
theorem dX8_machine_41 : decode cX8_machine 41 = .ok (.iconst 0, 1) := by decide +kernel
theorem dX8_machine_42 : decode cX8_machine 42 = .ok (.iastore, 1) := by decide +kernel
theorem dX8_machine_43 : decode cX8_machine 43 = .ok (.aload_n 0, 1) := by decide +kernel
theorem dX8_machine_44 : decode cX8_machine 44 = .ok (.getfield 19, 3) := by decide +kernel
theorem dX8_machine_47 : decode cX8_machine 47 = .ok (.iload_n 2, 1) := by decide +kernel
theorem dX8_machine_48 : decode cX8_machine 48 = .ok (.iconst 0, 1) := by decide +kernel
theorem dX8_machine_49 : decode cX8_machine 49 = .ok (.iastore, 1) := by decide +kernel
theorem dX8_machine_50 : decode cX8_machine 50 = .ok (.aload_n 0, 1) := by decide +kernel
theorem dX8_machine_51 : decode cX8_machine 51 = .ok (.getfield 22, 3) := by decide +kernel
theorem dX8_machine_54 : decode cX8_machine 54 = .ok (.iload_n 2, 1) := by decide +kernel
theorem dX8_machine_55 : decode cX8_machine 55 = .ok (.iconst 0, 1) := by decide +kernel
theorem dX8_machine_56 : decode cX8_machine 56 = .ok (.iastore, 1) := by decide +kernel
theorem dX8_machine_57 : decode cX8_machine 57 = .ok (.aload_n 0, 1) := by decide +kernel
theorem dX8_machine_58 : decode cX8_machine 58 = .ok (.getfield 25, 3) := by decide +kernel
theorem dX8_machine_61 : decode cX8_machine 61 = .ok (.iload_n 2, 1) := by decide +kernel
theorem dX8_machine_62 : decode cX8_machine 62 = .ok (.iconst 0, 1) := by decide +kernel
theorem dX8_machine_63 : decode cX8_machine 63 = .ok (.iastore, 1) := by decide +kernel
theorem dX8_machine_64 : decode cX8_machine 64 = .ok (.iconst 0, 1) := by decide +kernel
theorem dX8_machine_65 : decode cX8_machine 65 = .ok (.istore_n 3, 1) := by decide +kernel
theorem dX8_machine_66 : decode cX8_machine 66 = .ok (.iload_n 3, 1) := by decide +kernel
theorem dX8_machine_67 : decode cX8_machine 67 = .ok (.bipush 48, 2) := by decide +kernel
theorem dX8_machine_69 : decode cX8_machine 69 = .ok (.if_icmp .ge 22, 3) := by decide +kernel
theorem dX8_machine_72 : decode cX8_machine 72 = .ok (.aload_n 0, 1) := by decide +kernel
theorem dX8_machine_73 : decode cX8_machine 73 = .ok (.getfield 28, 3) := by decide +kernel
theorem dX8_machine_76 : decode cX8_machine 76 = .ok (.bipush 48, 2) := by decide +kernel
theorem dX8_machine_78 : decode cX8_machine 78 = .ok (.iload_n 2, 1) := by decide +kernel
theorem dX8_machine_79 : decode cX8_machine 79 = .ok (.imul, 1) := by decide +kernel
theorem dX8_machine_80 : decode cX8_machine 80 = .ok (.iload_n 3, 1) := by decide +kernel
theorem dX8_machine_81 : decode cX8_machine 81 = .ok (.iadd, 1) := by decide +kernel
theorem dX8_machine_82 : decode cX8_machine 82 = .ok (.bipush (-9), 2) := by decide +kernel
theorem dX8_machine_84 : decode cX8_machine 84 = .ok (.iastore, 1) := by decide +kernel
theorem dX8_machine_85 : decode cX8_machine 85 = .ok (.iinc 3 1, 3) := by decide +kernel
theorem dX8_machine_88 : decode cX8_machine 88 = .ok (.goto (-22), 3) := by decide +kernel
theorem dX8_machine_91 : decode cX8_machine 91 = .ok (.aload_n 0, 1) := by decide +kernel
theorem dX8_machine_92 : decode cX8_machine 92 = .ok (.iload_n 2, 1) := by decide +kernel
theorem dX8_machine_93 : decode cX8_machine 93 = .ok (.invokevirtual 99, 3) := by decide +kernel
theorem dX8_machine_96 : decode cX8_machine 96 = .ok (.ifCond .ne 11, 3) := by decide +kernel
theorem dX8_machine_99 : decode cX8_machine 99 = .ok (.bipush (-100), 2) := by decide +kernel
theorem dX8_machine_101 : decode cX8_machine 101 = .ok (.aload_n 0, 1) := by decide +kernel
theorem dX8_machine_102 : decode cX8_machine 102 = .ok (.getfield 67, 3) := by decide +kernel
theorem dX8_machine_105 : decode cX8_machine 105 = .ok (.isub, 1) := by decide +kernel
theorem dX8_machine_106 : decode cX8_machine 106 = .ok (.ireturn, 1) := by decide +kernel
theorem dX8_machine_107 : decode cX8_machine 107 = .ok (.aload_n 0, 1) := by decide +kernel
theorem dX8_machine_108 : decode cX8_machine 108 = .ok (.dup, 1) := by decide +kernel
theorem dX8_machine_109 : decode cX8_machine 109 = .ok (.getfield 96, 3) := by decide +kernel
theorem dX8_machine_112 : decode cX8_machine 112 = .ok (.iconst 1, 1) := by decide +kernel
theorem dX8_machine_113 : decode cX8_machine 113 = .ok (.iadd, 1) := by decide +kernel
theorem dX8_machine_114 : decode cX8_machine 114 = .ok (.putfield 96, 3) := by decide +kernel
theorem dX8_machine_117 : decode cX8_machine 117 = .ok (.aload_n 0, 1) := by decide +kernel
theorem dX8_machine_118 : decode cX8_machine 118 = .ok (.iconst 0, 1) := by decide +kernel
theorem dX8_machine_119 : decode cX8_machine 119 = .ok (.putfield 63, 3) := by decide +kernel
theorem dX8_machine_122 : decode cX8_machine 122 = .ok (.aload_n 0, 1) := by decide +kernel
theorem dX8_machine_123 : decode cX8_machine 123 = .ok (.invokevirtual 102, 3) := by decide +kernel
theorem dX8_machine_126 : decode cX8_machine 126 = .ok (.iload_n 2, 1) := by decide +kernel
theorem dX8_machine_127 : decode cX8_machine 127 = .ok (.ireturn, 1) := by decide +kernel
theorem dX8_begins_0 : decode cX8_begins 0 = .ok (.aload_n 0, 1) := by decide +kernel
theorem dX8_begins_1 : decode cX8_begins 1 = .ok (.iconst 0, 1) := by decide +kernel
theorem dX8_begins_2 : decode cX8_begins 2 = .ok (.putfield 105, 3) := by decide +kernel
theorem dX8_begins_5 : decode cX8_begins 5 = .ok (.aload_n 0, 1) := by decide +kernel
theorem dX8_begins_6 : decode cX8_begins 6 = .ok (.iconst 0, 1) := by decide +kernel
theorem dX8_begins_7 : decode cX8_begins 7 = .ok (.putfield 109, 3) := by decide +kernel
theorem dX8_begins_10 : decode cX8_begins 10 = .ok (.aload_n 0, 1) := by decide +kernel
theorem dX8_begins_11 : decode cX8_begins 11 = .ok (.iconst 0, 1) := by decide +kernel
theorem dX8_begins_12 : decode cX8_begins 12 = .ok (.putfield 112, 3) := by decide +kernel
theorem dX8_begins_15 : decode cX8_begins 15 = .ok (.return_, 1) := by decide +kernel
theorem dX8_drop_0 : decode cX8_drop 0 = .ok (.aload_n 0, 1) := by decide +kernel
theorem dX8_drop_1 : decode cX8_drop 1 = .ok (.getfield 96, 3) := by decide +kernel
theorem dX8_drop_4 : decode cX8_drop 4 = .ok (.ifCond .ne 6, 3) := by decide +kernel
theorem dX8_drop_7 : decode cX8_drop 7 = .ok (.bipush (-3), 2) := by decide +kernel
theorem dX8_drop_9 : decode cX8_drop 9 = .ok (.ireturn, 1) := by decide +kernel
theorem dX8_drop_10 : decode cX8_drop 10 = .ok (.aload_n 0, 1) := by decide +kernel
theorem dX8_drop_11 : decode cX8_drop 11 = .ok (.dup, 1) := by decide +kernel
theorem dX8_drop_12 : decode cX8_drop 12 = .ok (.getfield 96, 3) := by decide +kernel
theorem dX8_drop_15 : decode cX8_drop 15 = .ok (.iconst 1, 1) := by decide +kernel
theorem dX8_drop_16 : decode cX8_drop 16 = .ok (.isub, 1) := by decide +kernel
theorem dX8_drop_17 : decode cX8_drop 17 = .ok (.putfield 96, 3) := by decide +kernel
theorem dX8_drop_20 : decode cX8_drop 20 = .ok (.aload_n 0, 1) := by decide +kernel
theorem dX8_drop_21 : decode cX8_drop 21 = .ok (.invokevirtual 102, 3) := by decide +kernel
theorem dX8_drop_24 : decode cX8_drop 24 = .ok (.aload_n 0, 1) := by decide +kernel
theorem dX8_drop_25 : decode cX8_drop 25 = .ok (.getfield 96, 3) := by decide +kernel
theorem dX8_drop_28 : decode cX8_drop 28 = .ok (.ireturn, 1) := by decide +kernel
theorem dX8_free_0 : decode cX8_free 0 = .ok (.iload_n 1, 1) := by decide +kernel
theorem dX8_free_1 : decode cX8_free 1 = .ok (.invokestatic 115, 3) := by decide +kernel
theorem dX8_free_4 : decode cX8_free 4 = .ok (.ifCond .ne 5, 3) := by decide +kernel
theorem dX8_free_7 : decode cX8_free 7 = .ok (.iconst (-1), 1) := by decide +kernel
theorem dX8_free_8 : decode cX8_free 8 = .ok (.ireturn, 1) := by decide +kernel
theorem dX8_free_9 : decode cX8_free 9 = .ok (.iload_n 2, 1) := by decide +kernel
theorem dX8_free_10 : decode cX8_free 10 = .ok (.iconst 0, 1) := by decide +kernel
theorem dX8_free_11 : decode cX8_free 11 = .ok (.iconst 1, 1) := by decide +kernel
theorem dX8_free_12 : decode cX8_free 12 = .ok (.invokestatic 59, 3) := by decide +kernel
theorem dX8_free_15 : decode cX8_free 15 = .ok (.ifCond .ne 6, 3) := by decide +kernel
theorem dX8_free_18 : decode cX8_free 18 = .ok (.bipush (-2), 2) := by decide +kernel
theorem dX8_free_20 : decode cX8_free 20 = .ok (.ireturn, 1) := by decide +kernel
theorem dX8_free_21 : decode cX8_free 21 = .ok (.aload_n 0, 1) := by decide +kernel
theorem dX8_free_22 : decode cX8_free 22 = .ok (.getfield 118, 3) := by decide +kernel
theorem dX8_free_25 : decode cX8_free 25 = .ok (.iload_n 1, 1) := by decide +kernel
theorem dX8_free_26 : decode cX8_free 26 = .ok (.invokestatic 121, 3) := by decide +kernel
theorem dX8_free_29 : decode cX8_free 29 = .ok (.istore_n 3, 1) := by decide +kernel
theorem dX8_free_30 : decode cX8_free 30 = .ok (.aload_n 0, 1) := by decide +kernel
theorem dX8_free_31 : decode cX8_free 31 = .ok (.aload_n 0, 1) := by decide +kernel
theorem dX8_free_32 : decode cX8_free 32 = .ok (.getfield 118, 3) := by decide +kernel
theorem dX8_free_35 : decode cX8_free 35 = .ok (.iconst 1, 1) := by decide +kernel
theorem dX8_free_36 : decode cX8_free 36 = .ok (.iload_n 1, 1) := by decide +kernel
theorem dX8_free_37 : decode cX8_free 37 = .ok (.ishl, 1) := by decide +kernel
theorem dX8_free_38 : decode cX8_free 38 = .ok (.iconst (-1), 1) := by decide +kernel
theorem dX8_free_39 : decode cX8_free 39 = .ok (.ixor, 1) := by decide +kernel
theorem dX8_free_40 : decode cX8_free 40 = .ok (.iand, 1) := by decide +kernel
theorem dX8_free_41 : decode cX8_free 41 = .ok (.iload_n 2, 1) := by decide +kernel
theorem dX8_free_42 : decode cX8_free 42 = .ok (.iload_n 1, 1) := by decide +kernel
theorem dX8_free_43 : decode cX8_free 43 = .ok (.ishl, 1) := by decide +kernel
theorem dX8_free_44 : decode cX8_free 44 = .ok (.ior, 1) := by decide +kernel
theorem dX8_free_45 : decode cX8_free 45 = .ok (.putfield 118, 3) := by decide +kernel
theorem dX8_free_48 : decode cX8_free 48 = .ok (.aload_n 0, 1) := by decide +kernel
theorem dX8_free_49 : decode cX8_free 49 = .ok (.invokevirtual 102, 3) := by decide +kernel
theorem dX8_free_52 : decode cX8_free 52 = .ok (.iload_n 3, 1) := by decide +kernel
theorem dX8_free_53 : decode cX8_free 53 = .ok (.ireturn, 1) := by decide +kernel
theorem dX8_anew_0 : decode cX8_anew 0 = .ok (.aload_n 0, 1) := by decide +kernel
theorem dX8_anew_1 : decode cX8_anew 1 = .ok (.getfield 96, 3) := by decide +kernel
theorem dX8_anew_4 : decode cX8_anew 4 = .ok (.istore_n 1, 1) := by decide +kernel
theorem dX8_anew_5 : decode cX8_anew 5 = .ok (.aload_n 0, 1) := by decide +kernel
theorem dX8_anew_6 : decode cX8_anew 6 = .ok (.iconst 0, 1) := by decide +kernel
theorem dX8_anew_7 : decode cX8_anew 7 = .ok (.putfield 96, 3) := by decide +kernel
theorem dX8_anew_10 : decode cX8_anew 10 = .ok (.aload_n 0, 1) := by decide +kernel
theorem dX8_anew_11 : decode cX8_anew 11 = .ok (.iconst 0, 1) := by decide +kernel
theorem dX8_anew_12 : decode cX8_anew 12 = .ok (.putfield 118, 3) := by decide +kernel
theorem dX8_anew_15 : decode cX8_anew 15 = .ok (.aload_n 0, 1) := by decide +kernel
theorem dX8_anew_16 : decode cX8_anew 16 = .ok (.invokevirtual 102, 3) := by decide +kernel
theorem dX8_anew_19 : decode cX8_anew 19 = .ok (.iload_n 1, 1) := by decide +kernel
theorem dX8_anew_20 : decode cX8_anew 20 = .ok (.ireturn, 1) := by decide +kernel
theorem dX8_isEvent_0 : decode cX8_isEvent 0 = .ok (.iload_n 0, 1) := by decide +kernel
theorem dX8_isEvent_1 : decode cX8_isEvent 1 = .ok (.iconst 0, 1) := by decide +kernel
theorem dX8_isEvent_2 : decode cX8_isEvent 2 = .ok (.bipush 7, 2) := by decide +kernel
theorem dX8_isEvent_4 : decode cX8_isEvent 4 = .ok (.invokestatic 59, 3) := by decide +kernel
theorem dX8_isEvent_7 : decode cX8_isEvent 7 = .ok (.ireturn, 1) := by decide +kernel
theorem dX8_isMachine_0 : decode cX8_isMachine 0 = .ok (.iload_n 1, 1) := by decide +kernel
theorem dX8_isMachine_1 : decode cX8_isMachine 1 = .ok (.iconst 0, 1) := by decide +kernel
theorem dX8_isMachine_2 : decode cX8_isMachine 2 = .ok (.aload_n 0, 1) := by decide +kernel
theorem dX8_isMachine_3 : decode cX8_isMachine 3 = .ok (.getfield 96, 3) := by decide +kernel
