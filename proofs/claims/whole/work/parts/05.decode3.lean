theorem dX8_isMachine_6 : decode cX8_isMachine 6 = .ok (.iconst 1, 1) := by decide +kernel
theorem dX8_isMachine_7 : decode cX8_isMachine 7 = .ok (.isub, 1) := by decide +kernel
theorem dX8_isMachine_8 : decode cX8_isMachine 8 = .ok (.invokestatic 59, 3) := by decide +kernel
theorem dX8_isMachine_11 : decode cX8_isMachine 11 = .ok (.ireturn, 1) := by decide +kernel
theorem dX8_ofMachine_0 : decode cX8_ofMachine 0 = .ok (.aload_n 0, 1) := by decide +kernel
theorem dX8_ofMachine_1 : decode cX8_ofMachine 1 = .ok (.iload_n 1, 1) := by decide +kernel
theorem dX8_ofMachine_2 : decode cX8_ofMachine 2 = .ok (.invokevirtual 125, 3) := by decide +kernel
theorem dX8_ofMachine_5 : decode cX8_ofMachine 5 = .ok (.ifCond .ne 5, 3) := by decide +kernel
theorem dX8_ofMachine_8 : decode cX8_ofMachine 8 = .ok (.iconst (-1), 1) := by decide +kernel
theorem dX8_ofMachine_9 : decode cX8_ofMachine 9 = .ok (.ireturn, 1) := by decide +kernel
theorem dX8_ofMachine_10 : decode cX8_ofMachine 10 = .ok (.iload_n 2, 1) := by decide +kernel
theorem dX8_ofMachine_11 : decode cX8_ofMachine 11 = .ok (.tableswitch 68 0 4 #[33, 40, 47, 54, 61], 33) := by decide +kernel
theorem dX8_ofMachine_44 : decode cX8_ofMachine 44 = .ok (.aload_n 0, 1) := by decide +kernel
theorem dX8_ofMachine_45 : decode cX8_ofMachine 45 = .ok (.getfield 13, 3) := by decide +kernel
theorem dX8_ofMachine_48 : decode cX8_ofMachine 48 = .ok (.iload_n 1, 1) := by decide +kernel
theorem dX8_ofMachine_49 : decode cX8_ofMachine 49 = .ok (.iaload, 1) := by decide +kernel
theorem dX8_ofMachine_50 : decode cX8_ofMachine 50 = .ok (.ireturn, 1) := by decide +kernel
theorem dX8_ofMachine_51 : decode cX8_ofMachine 51 = .ok (.aload_n 0, 1) := by decide +kernel
theorem dX8_ofMachine_52 : decode cX8_ofMachine 52 = .ok (.getfield 16, 3) := by decide +kernel
theorem dX8_ofMachine_55 : decode cX8_ofMachine 55 = .ok (.iload_n 1, 1) := by decide +kernel
theorem dX8_ofMachine_56 : decode cX8_ofMachine 56 = .ok (.iaload, 1) := by decide +kernel
theorem dX8_ofMachine_57 : decode cX8_ofMachine 57 = .ok (.ireturn, 1) := by decide +kernel
theorem dX8_ofMachine_58 : decode cX8_ofMachine 58 = .ok (.aload_n 0, 1) := by decide +kernel
theorem dX8_ofMachine_59 : decode cX8_ofMachine 59 = .ok (.getfield 19, 3) := by decide +kernel
theorem dX8_ofMachine_62 : decode cX8_ofMachine 62 = .ok (.iload_n 1, 1) := by decide +kernel
theorem dX8_ofMachine_63 : decode cX8_ofMachine 63 = .ok (.iaload, 1) := by decide +kernel
theorem dX8_ofMachine_64 : decode cX8_ofMachine 64 = .ok (.ireturn, 1) := by decide +kernel
theorem dX8_ofMachine_65 : decode cX8_ofMachine 65 = .ok (.aload_n 0, 1) := by decide +kernel
theorem dX8_ofMachine_66 : decode cX8_ofMachine 66 = .ok (.getfield 22, 3) := by decide +kernel
theorem dX8_ofMachine_69 : decode cX8_ofMachine 69 = .ok (.iload_n 1, 1) := by decide +kernel
theorem dX8_ofMachine_70 : decode cX8_ofMachine 70 = .ok (.iaload, 1) := by decide +kernel
theorem dX8_ofMachine_71 : decode cX8_ofMachine 71 = .ok (.ireturn, 1) := by decide +kernel
theorem dX8_ofMachine_72 : decode cX8_ofMachine 72 = .ok (.aload_n 0, 1) := by decide +kernel
theorem dX8_ofMachine_73 : decode cX8_ofMachine 73 = .ok (.getfield 25, 3) := by decide +kernel
theorem dX8_ofMachine_76 : decode cX8_ofMachine 76 = .ok (.iload_n 1, 1) := by decide +kernel
theorem dX8_ofMachine_77 : decode cX8_ofMachine 77 = .ok (.iaload, 1) := by decide +kernel
theorem dX8_ofMachine_78 : decode cX8_ofMachine 78 = .ok (.ireturn, 1) := by decide +kernel
theorem dX8_ofMachine_79 : decode cX8_ofMachine 79 = .ok (.bipush (-2), 2) := by decide +kernel
theorem dX8_ofMachine_81 : decode cX8_ofMachine 81 = .ok (.ireturn, 1) := by decide +kernel
theorem dX8_step_0 : decode cX8_step 0 = .ok (.aload_n 0, 1) := by decide +kernel
theorem dX8_step_1 : decode cX8_step 1 = .ok (.iload_n 1, 1) := by decide +kernel
theorem dX8_step_2 : decode cX8_step 2 = .ok (.invokevirtual 125, 3) := by decide +kernel
theorem dX8_step_5 : decode cX8_step 5 = .ok (.ifCond .eq 33, 3) := by decide +kernel
theorem dX8_step_8 : decode cX8_step 8 = .ok (.iload_n 2, 1) := by decide +kernel
theorem dX8_step_9 : decode cX8_step 9 = .ok (.iconst 0, 1) := by decide +kernel
theorem dX8_step_10 : decode cX8_step 10 = .ok (.iconst 5, 1) := by decide +kernel
theorem dX8_step_11 : decode cX8_step 11 = .ok (.invokestatic 59, 3) := by decide +kernel
theorem dX8_step_14 : decode cX8_step 14 = .ok (.ifCond .eq 24, 3) := by decide +kernel
theorem dX8_step_17 : decode cX8_step 17 = .ok (.iload_n 3, 1) := by decide +kernel
theorem dX8_step_18 : decode cX8_step 18 = .ok (.invokestatic 115, 3) := by decide +kernel
theorem dX8_step_21 : decode cX8_step 21 = .ok (.ifCond .eq 17, 3) := by decide +kernel
theorem dX8_step_24 : decode cX8_step 24 = .ok (.aload_n 0, 1) := by decide +kernel
theorem dX8_step_25 : decode cX8_step 25 = .ok (.getfield 28, 3) := by decide +kernel
theorem dX8_step_28 : decode cX8_step 28 = .ok (.iload_n 1, 1) := by decide +kernel
theorem dX8_step_29 : decode cX8_step 29 = .ok (.iload_n 2, 1) := by decide +kernel
theorem dX8_step_30 : decode cX8_step 30 = .ok (.iload_n 3, 1) := by decide +kernel
theorem dX8_step_31 : decode cX8_step 31 = .ok (.invokestatic 81, 3) := by decide +kernel
theorem dX8_step_34 : decode cX8_step 34 = .ok (.iaload, 1) := by decide +kernel
theorem dX8_step_35 : decode cX8_step 35 = .ok (.goto 4, 3) := by decide +kernel
theorem dX8_step_38 : decode cX8_step 38 = .ok (.iconst (-1), 1) := by decide +kernel
theorem dX8_step_39 : decode cX8_step 39 = .ok (.ireturn, 1) := by decide +kernel
theorem dX8_stateIn_0 : decode cX8_stateIn 0 = .ok (.iload_n 0, 1) := by decide +kernel
theorem dX8_stateIn_1 : decode cX8_stateIn 1 = .ok (.iconst 3, 1) := by decide +kernel
theorem dX8_stateIn_2 : decode cX8_stateIn 2 = .ok (.iload_n 1, 1) := by decide +kernel
theorem dX8_stateIn_3 : decode cX8_stateIn 3 = .ok (.imul, 1) := by decide +kernel
theorem dX8_stateIn_4 : decode cX8_stateIn 4 = .ok (.ishr, 1) := by decide +kernel
theorem dX8_stateIn_5 : decode cX8_stateIn 5 = .ok (.bipush 7, 2) := by decide +kernel
theorem dX8_stateIn_7 : decode cX8_stateIn 7 = .ok (.iand, 1) := by decide +kernel
theorem dX8_stateIn_8 : decode cX8_stateIn 8 = .ok (.ireturn, 1) := by decide +kernel
theorem dX8_led_0 : decode cX8_led 0 = .ok (.iload_n 1, 1) := by decide +kernel
theorem dX8_led_1 : decode cX8_led 1 = .ok (.istore 4, 2) := by decide +kernel
theorem dX8_led_3 : decode cX8_led 3 = .ok (.iconst 0, 1) := by decide +kernel
theorem dX8_led_4 : decode cX8_led 4 = .ok (.istore 5, 2) := by decide +kernel
theorem dX8_led_6 : decode cX8_led 6 = .ok (.iconst 0, 1) := by decide +kernel
theorem dX8_led_7 : decode cX8_led 7 = .ok (.istore 6, 2) := by decide +kernel
theorem dX8_led_9 : decode cX8_led 9 = .ok (.iload 6, 2) := by decide +kernel
theorem dX8_led_11 : decode cX8_led 11 = .ok (.aload_n 0, 1) := by decide +kernel
theorem dX8_led_12 : decode cX8_led 12 = .ok (.getfield 96, 3) := by decide +kernel
theorem dX8_led_15 : decode cX8_led 15 = .ok (.if_icmp .ge 88, 3) := by decide +kernel
theorem dX8_led_18 : decode cX8_led 18 = .ok (.iload_n 2, 1) := by decide +kernel
theorem dX8_led_19 : decode cX8_led 19 = .ok (.iload 6, 2) := by decide +kernel
theorem dX8_led_21 : decode cX8_led 21 = .ok (.invokestatic 121, 3) := by decide +kernel
theorem dX8_led_24 : decode cX8_led 24 = .ok (.iconst 1, 1) := by decide +kernel
theorem dX8_led_25 : decode cX8_led 25 = .ok (.if_icmp .ne 72, 3) := by decide +kernel
theorem dX8_led_28 : decode cX8_led 28 = .ok (.aload_n 0, 1) := by decide +kernel
theorem dX8_led_29 : decode cX8_led 29 = .ok (.getfield 16, 3) := by decide +kernel
theorem dX8_led_32 : decode cX8_led 32 = .ok (.iload 6, 2) := by decide +kernel
theorem dX8_led_34 : decode cX8_led 34 = .ok (.iaload, 1) := by decide +kernel
theorem dX8_led_35 : decode cX8_led 35 = .ok (.iload_n 3, 1) := by decide +kernel
theorem dX8_led_36 : decode cX8_led 36 = .ok (.invokestatic 121, 3) := by decide +kernel
theorem dX8_led_39 : decode cX8_led 39 = .ok (.iconst 1, 1) := by decide +kernel
theorem dX8_led_40 : decode cX8_led 40 = .ok (.if_icmp .ne 57, 3) := by decide +kernel
theorem dX8_led_43 : decode cX8_led 43 = .ok (.aload_n 0, 1) := by decide +kernel
theorem dX8_led_44 : decode cX8_led 44 = .ok (.getfield 28, 3) := by decide +kernel
theorem dX8_led_47 : decode cX8_led 47 = .ok (.iload 6, 2) := by decide +kernel
theorem dX8_led_49 : decode cX8_led 49 = .ok (.iload_n 1, 1) := by decide +kernel
theorem dX8_led_50 : decode cX8_led 50 = .ok (.iload 6, 2) := by decide +kernel
theorem dX8_led_52 : decode cX8_led 52 = .ok (.invokestatic 128, 3) := by decide +kernel
theorem dX8_led_55 : decode cX8_led 55 = .ok (.iload_n 3, 1) := by decide +kernel
theorem dX8_led_56 : decode cX8_led 56 = .ok (.invokestatic 81, 3) := by decide +kernel
theorem dX8_led_59 : decode cX8_led 59 = .ok (.iaload, 1) := by decide +kernel
theorem dX8_led_60 : decode cX8_led 60 = .ok (.istore 7, 2) := by decide +kernel
theorem dX8_led_62 : decode cX8_led 62 = .ok (.iload 7, 2) := by decide +kernel
theorem dX8_led_64 : decode cX8_led 64 = .ok (.bipush (-9), 2) := by decide +kernel
theorem dX8_led_66 : decode cX8_led 66 = .ok (.if_icmp .ne 6, 3) := by decide +kernel
theorem dX8_led_69 : decode cX8_led 69 = .ok (.bipush (-9), 2) := by decide +kernel
theorem dX8_led_71 : decode cX8_led 71 = .ok (.ireturn, 1) := by decide +kernel
theorem dX8_led_72 : decode cX8_led 72 = .ok (.iconst 1, 1) := by decide +kernel
theorem dX8_led_73 : decode cX8_led 73 = .ok (.istore 5, 2) := by decide +kernel
theorem dX8_led_75 : decode cX8_led 75 = .ok (.iload 4, 2) := by decide +kernel
theorem dX8_led_77 : decode cX8_led 77 = .ok (.bipush 7, 2) := by decide +kernel
theorem dX8_led_79 : decode cX8_led 79 = .ok (.iconst 3, 1) := by decide +kernel
theorem dX8_led_80 : decode cX8_led 80 = .ok (.iload 6, 2) := by decide +kernel
theorem dX8_led_82 : decode cX8_led 82 = .ok (.imul, 1) := by decide +kernel
theorem dX8_led_83 : decode cX8_led 83 = .ok (.ishl, 1) := by decide +kernel
theorem dX8_led_84 : decode cX8_led 84 = .ok (.iconst (-1), 1) := by decide +kernel
theorem dX8_led_85 : decode cX8_led 85 = .ok (.ixor, 1) := by decide +kernel
theorem dX8_led_86 : decode cX8_led 86 = .ok (.iand, 1) := by decide +kernel
theorem dX8_led_87 : decode cX8_led 87 = .ok (.iload 7, 2) := by decide +kernel
theorem dX8_led_89 : decode cX8_led 89 = .ok (.iconst 3, 1) := by decide +kernel
theorem dX8_led_90 : decode cX8_led 90 = .ok (.iload 6, 2) := by decide +kernel
theorem dX8_led_92 : decode cX8_led 92 = .ok (.imul, 1) := by decide +kernel
theorem dX8_led_93 : decode cX8_led 93 = .ok (.ishl, 1) := by decide +kernel
theorem dX8_led_94 : decode cX8_led 94 = .ok (.ior, 1) := by decide +kernel
theorem dX8_led_95 : decode cX8_led 95 = .ok (.istore 4, 2) := by decide +kernel
theorem dX8_led_97 : decode cX8_led 97 = .ok (.iinc 6 1, 3) := by decide +kernel
theorem dX8_led_100 : decode cX8_led 100 = .ok (.goto (-91), 3) := by decide +kernel
theorem dX8_led_103 : decode cX8_led 103 = .ok (.iload 5, 2) := by decide +kernel
theorem dX8_led_105 : decode cX8_led 105 = .ok (.ifCond .eq 8, 3) := by decide +kernel
theorem dX8_led_108 : decode cX8_led 108 = .ok (.iload 4, 2) := by decide +kernel
theorem dX8_led_110 : decode cX8_led 110 = .ok (.goto 5, 3) := by decide +kernel
theorem dX8_led_113 : decode cX8_led 113 = .ok (.bipush (-9), 2) := by decide +kernel
theorem dX8_led_115 : decode cX8_led 115 = .ok (.ireturn, 1) := by decide +kernel
theorem dX8_numberOf_0 : decode cX8_numberOf 0 = .ok (.iconst 0, 1) := by decide +kernel
theorem dX8_numberOf_1 : decode cX8_numberOf 1 = .ok (.istore_n 2, 1) := by decide +kernel
theorem dX8_numberOf_2 : decode cX8_numberOf 2 = .ok (.iload_n 2, 1) := by decide +kernel
theorem dX8_numberOf_3 : decode cX8_numberOf 3 = .ok (.aload_n 0, 1) := by decide +kernel
theorem dX8_numberOf_4 : decode cX8_numberOf 4 = .ok (.getfield 131, 3) := by decide +kernel
theorem dX8_numberOf_7 : decode cX8_numberOf 7 = .ok (.if_icmp .ge 21, 3) := by decide +kernel
theorem dX8_numberOf_10 : decode cX8_numberOf 10 = .ok (.aload_n 0, 1) := by decide +kernel
theorem dX8_numberOf_11 : decode cX8_numberOf 11 = .ok (.getfield 31, 3) := by decide +kernel
theorem dX8_numberOf_14 : decode cX8_numberOf 14 = .ok (.iload_n 2, 1) := by decide +kernel
theorem dX8_numberOf_15 : decode cX8_numberOf 15 = .ok (.iaload, 1) := by decide +kernel
theorem dX8_numberOf_16 : decode cX8_numberOf 16 = .ok (.iload_n 1, 1) := by decide +kernel
theorem dX8_numberOf_17 : decode cX8_numberOf 17 = .ok (.if_icmp .ne 5, 3) := by decide +kernel
theorem dX8_numberOf_20 : decode cX8_numberOf 20 = .ok (.iload_n 2, 1) := by decide +kernel
theorem dX8_numberOf_21 : decode cX8_numberOf 21 = .ok (.ireturn, 1) := by decide +kernel
theorem dX8_numberOf_22 : decode cX8_numberOf 22 = .ok (.iinc 2 1, 3) := by decide +kernel
theorem dX8_numberOf_25 : decode cX8_numberOf 25 = .ok (.goto (-23), 3) := by decide +kernel
theorem dX8_numberOf_28 : decode cX8_numberOf 28 = .ok (.bipush (-9), 2) := by decide +kernel
theorem dX8_numberOf_30 : decode cX8_numberOf 30 = .ok (.ireturn, 1) := by decide +kernel
theorem dX8_builds_0 : decode cX8_builds 0 = .ok (.aload_n 0, 1) := by decide +kernel
theorem dX8_builds_1 : decode cX8_builds 1 = .ok (.iconst 1, 1) := by decide +kernel
theorem dX8_builds_2 : decode cX8_builds 2 = .ok (.putfield 131, 3) := by decide +kernel
theorem dX8_builds_5 : decode cX8_builds 5 = .ok (.aload_n 0, 1) := by decide +kernel
theorem dX8_builds_6 : decode cX8_builds 6 = .ok (.getfield 31, 3) := by decide +kernel
theorem dX8_builds_9 : decode cX8_builds 9 = .ok (.iconst 0, 1) := by decide +kernel
theorem dX8_builds_10 : decode cX8_builds 10 = .ok (.iconst 0, 1) := by decide +kernel
theorem dX8_builds_11 : decode cX8_builds 11 = .ok (.iastore, 1) := by decide +kernel
theorem dX8_builds_12 : decode cX8_builds 12 = .ok (.iconst 0, 1) := by decide +kernel
theorem dX8_builds_13 : decode cX8_builds 13 = .ok (.istore_n 2, 1) := by decide +kernel
theorem dX8_builds_14 : decode cX8_builds 14 = .ok (.iload_n 2, 1) := by decide +kernel
theorem dX8_builds_15 : decode cX8_builds 15 = .ok (.aload_n 0, 1) := by decide +kernel
theorem dX8_builds_16 : decode cX8_builds 16 = .ok (.getfield 131, 3) := by decide +kernel
theorem dX8_builds_19 : decode cX8_builds 19 = .ok (.if_icmp .ge 128, 3) := by decide +kernel
theorem dX8_builds_22 : decode cX8_builds 22 = .ok (.iconst 0, 1) := by decide +kernel
theorem dX8_builds_23 : decode cX8_builds 23 = .ok (.istore_n 3, 1) := by decide +kernel
theorem dX8_builds_24 : decode cX8_builds 24 = .ok (.iload_n 3, 1) := by decide +kernel
theorem dX8_builds_25 : decode cX8_builds 25 = .ok (.bipush 8, 2) := by decide +kernel
theorem dX8_builds_27 : decode cX8_builds 27 = .ok (.if_icmp .ge 114, 3) := by decide +kernel
theorem dX8_builds_30 : decode cX8_builds 30 = .ok (.aload_n 0, 1) := by decide +kernel
theorem dX8_builds_31 : decode cX8_builds 31 = .ok (.aload_n 0, 1) := by decide +kernel
theorem dX8_builds_32 : decode cX8_builds 32 = .ok (.getfield 31, 3) := by decide +kernel
theorem dX8_builds_35 : decode cX8_builds 35 = .ok (.iload_n 2, 1) := by decide +kernel
theorem dX8_builds_36 : decode cX8_builds 36 = .ok (.iaload, 1) := by decide +kernel
theorem dX8_builds_37 : decode cX8_builds 37 = .ok (.iload_n 1, 1) := by decide +kernel
theorem dX8_builds_38 : decode cX8_builds 38 = .ok (.iload_n 3, 1) := by decide +kernel
theorem dX8_builds_39 : decode cX8_builds 39 = .ok (.invokevirtual 134, 3) := by decide +kernel
theorem dX8_builds_42 : decode cX8_builds 42 = .ok (.istore 4, 2) := by decide +kernel
theorem dX8_builds_44 : decode cX8_builds 44 = .ok (.iload 4, 2) := by decide +kernel
theorem dX8_builds_46 : decode cX8_builds 46 = .ok (.bipush (-9), 2) := by decide +kernel
theorem dX8_builds_48 : decode cX8_builds 48 = .ok (.if_icmp .ne 8, 3) := by decide +kernel
theorem dX8_builds_51 : decode cX8_builds 51 = .ok (.bipush (-9), 2) := by decide +kernel
theorem dX8_builds_53 : decode cX8_builds 53 = .ok (.goto 9, 3) := by decide +kernel
theorem dX8_builds_56 : decode cX8_builds 56 = .ok (.aload_n 0, 1) := by decide +kernel
theorem dX8_builds_57 : decode cX8_builds 57 = .ok (.iload 4, 2) := by decide +kernel
theorem dX8_builds_59 : decode cX8_builds 59 = .ok (.invokevirtual 137, 3) := by decide +kernel
theorem dX8_builds_62 : decode cX8_builds 62 = .ok (.istore 5, 2) := by decide +kernel
theorem dX8_builds_64 : decode cX8_builds 64 = .ok (.iload 4, 2) := by decide +kernel
theorem dX8_builds_66 : decode cX8_builds 66 = .ok (.bipush (-9), 2) := by decide +kernel
theorem dX8_builds_68 : decode cX8_builds 68 = .ok (.if_icmp .eq 54, 3) := by decide +kernel
theorem dX8_builds_71 : decode cX8_builds 71 = .ok (.iload 5, 2) := by decide +kernel
theorem dX8_builds_73 : decode cX8_builds 73 = .ok (.bipush (-9), 2) := by decide +kernel
theorem dX8_builds_75 : decode cX8_builds 75 = .ok (.if_icmp .ne 47, 3) := by decide +kernel
theorem dX8_builds_78 : decode cX8_builds 78 = .ok (.aload_n 0, 1) := by decide +kernel
theorem dX8_builds_79 : decode cX8_builds 79 = .ok (.getfield 131, 3) := by decide +kernel
theorem dX8_builds_82 : decode cX8_builds 82 = .ok (.sipush 150, 3) := by decide +kernel
theorem dX8_builds_85 : decode cX8_builds 85 = .ok (.if_icmp .ne 10, 3) := by decide +kernel
theorem dX8_builds_88 : decode cX8_builds 88 = .ok (.aload_n 0, 1) := by decide +kernel
theorem dX8_builds_89 : decode cX8_builds 89 = .ok (.iconst 0, 1) := by decide +kernel
theorem dX8_builds_90 : decode cX8_builds 90 = .ok (.putfield 131, 3) := by decide +kernel
theorem dX8_builds_93 : decode cX8_builds 93 = .ok (.iconst 0, 1) := by decide +kernel
theorem dX8_builds_94 : decode cX8_builds 94 = .ok (.ireturn, 1) := by decide +kernel
theorem dX8_builds_95 : decode cX8_builds 95 = .ok (.aload_n 0, 1) := by decide +kernel
theorem dX8_builds_96 : decode cX8_builds 96 = .ok (.getfield 131, 3) := by decide +kernel
theorem dX8_builds_99 : decode cX8_builds 99 = .ok (.istore 5, 2) := by decide +kernel
theorem dX8_builds_101 : decode cX8_builds 101 = .ok (.aload_n 0, 1) := by decide +kernel
theorem dX8_builds_102 : decode cX8_builds 102 = .ok (.getfield 31, 3) := by decide +kernel
theorem dX8_builds_105 : decode cX8_builds 105 = .ok (.aload_n 0, 1) := by decide +kernel
theorem dX8_builds_106 : decode cX8_builds 106 = .ok (.getfield 131, 3) := by decide +kernel
theorem dX8_builds_109 : decode cX8_builds 109 = .ok (.iload 4, 2) := by decide +kernel
theorem dX8_builds_111 : decode cX8_builds 111 = .ok (.iastore, 1) := by decide +kernel
theorem dX8_builds_112 : decode cX8_builds 112 = .ok (.aload_n 0, 1) := by decide +kernel
theorem dX8_builds_113 : decode cX8_builds 113 = .ok (.dup, 1) := by decide +kernel
theorem dX8_builds_114 : decode cX8_builds 114 = .ok (.getfield 131, 3) := by decide +kernel
theorem dX8_builds_117 : decode cX8_builds 117 = .ok (.iconst 1, 1) := by decide +kernel
theorem dX8_builds_118 : decode cX8_builds 118 = .ok (.iadd, 1) := by decide +kernel
theorem dX8_builds_119 : decode cX8_builds 119 = .ok (.putfield 131, 3) := by decide +kernel
theorem dX8_builds_122 : decode cX8_builds 122 = .ok (.aload_n 0, 1) := by decide +kernel
theorem dX8_builds_123 : decode cX8_builds 123 = .ok (.getfield 34, 3) := by decide +kernel
theorem dX8_builds_126 : decode cX8_builds 126 = .ok (.bipush 8, 2) := by decide +kernel
theorem dX8_builds_128 : decode cX8_builds 128 = .ok (.iload_n 2, 1) := by decide +kernel
theorem dX8_builds_129 : decode cX8_builds 129 = .ok (.imul, 1) := by decide +kernel
theorem dX8_builds_130 : decode cX8_builds 130 = .ok (.iload_n 3, 1) := by decide +kernel
theorem dX8_builds_131 : decode cX8_builds 131 = .ok (.iadd, 1) := by decide +kernel
theorem dX8_builds_132 : decode cX8_builds 132 = .ok (.iload 5, 2) := by decide +kernel
theorem dX8_builds_134 : decode cX8_builds 134 = .ok (.iastore, 1) := by decide +kernel
theorem dX8_builds_135 : decode cX8_builds 135 = .ok (.iinc 3 1, 3) := by decide +kernel
theorem dX8_builds_138 : decode cX8_builds 138 = .ok (.goto (-114), 3) := by decide +kernel
theorem dX8_builds_141 : decode cX8_builds 141 = .ok (.iinc 2 1, 3) := by decide +kernel
theorem dX8_builds_144 : decode cX8_builds 144 = .ok (.goto (-130), 3) := by decide +kernel
theorem dX8_builds_147 : decode cX8_builds 147 = .ok (.iconst 1, 1) := by decide +kernel
theorem dX8_builds_148 : decode cX8_builds 148 = .ok (.ireturn, 1) := by decide +kernel
theorem dX8_isFinished_0 : decode cX8_isFinished 0 = .ok (.iconst 0, 1) := by decide +kernel
theorem dX8_isFinished_1 : decode cX8_isFinished 1 = .ok (.istore_n 3, 1) := by decide +kernel
theorem dX8_isFinished_2 : decode cX8_isFinished 2 = .ok (.iload_n 3, 1) := by decide +kernel
theorem dX8_isFinished_3 : decode cX8_isFinished 3 = .ok (.aload_n 0, 1) := by decide +kernel
theorem dX8_isFinished_4 : decode cX8_isFinished 4 = .ok (.getfield 96, 3) := by decide +kernel
theorem dX8_isFinished_7 : decode cX8_isFinished 7 = .ok (.if_icmp .ge 42, 3) := by decide +kernel
theorem dX8_isFinished_10 : decode cX8_isFinished 10 = .ok (.iload_n 2, 1) := by decide +kernel
theorem dX8_isFinished_11 : decode cX8_isFinished 11 = .ok (.iload_n 3, 1) := by decide +kernel
theorem dX8_isFinished_12 : decode cX8_isFinished 12 = .ok (.invokestatic 121, 3) := by decide +kernel
theorem dX8_isFinished_15 : decode cX8_isFinished 15 = .ok (.iconst 1, 1) := by decide +kernel
theorem dX8_isFinished_16 : decode cX8_isFinished 16 = .ok (.if_icmp .ne 27, 3) := by decide +kernel
theorem dX8_isFinished_19 : decode cX8_isFinished 19 = .ok (.aload_n 0, 1) := by decide +kernel
theorem dX8_isFinished_20 : decode cX8_isFinished 20 = .ok (.getfield 19, 3) := by decide +kernel
theorem dX8_isFinished_23 : decode cX8_isFinished 23 = .ok (.iload_n 3, 1) := by decide +kernel
theorem dX8_isFinished_24 : decode cX8_isFinished 24 = .ok (.iaload, 1) := by decide +kernel
theorem dX8_isFinished_25 : decode cX8_isFinished 25 = .ok (.aload_n 0, 1) := by decide +kernel
theorem dX8_isFinished_26 : decode cX8_isFinished 26 = .ok (.getfield 31, 3) := by decide +kernel
theorem dX8_isFinished_29 : decode cX8_isFinished 29 = .ok (.iload_n 1, 1) := by decide +kernel
theorem dX8_isFinished_30 : decode cX8_isFinished 30 = .ok (.iaload, 1) := by decide +kernel
theorem dX8_isFinished_31 : decode cX8_isFinished 31 = .ok (.iload_n 3, 1) := by decide +kernel
theorem dX8_isFinished_32 : decode cX8_isFinished 32 = .ok (.invokestatic 128, 3) := by decide +kernel
theorem dX8_isFinished_35 : decode cX8_isFinished 35 = .ok (.invokestatic 121, 3) := by decide +kernel
theorem dX8_isFinished_38 : decode cX8_isFinished 38 = .ok (.ifCond .ne 5, 3) := by decide +kernel
theorem dX8_isFinished_41 : decode cX8_isFinished 41 = .ok (.iconst 0, 1) := by decide +kernel
theorem dX8_isFinished_42 : decode cX8_isFinished 42 = .ok (.ireturn, 1) := by decide +kernel
theorem dX8_isFinished_43 : decode cX8_isFinished 43 = .ok (.iinc 3 1, 3) := by decide +kernel
theorem dX8_isFinished_46 : decode cX8_isFinished 46 = .ok (.goto (-44), 3) := by decide +kernel
theorem dX8_isFinished_49 : decode cX8_isFinished 49 = .ok (.iconst 1, 1) := by decide +kernel
theorem dX8_isFinished_50 : decode cX8_isFinished 50 = .ok (.ireturn, 1) := by decide +kernel
theorem dX8_all_0 : decode cX8_all 0 = .ok (.iconst 1, 1) := by decide +kernel
theorem dX8_all_1 : decode cX8_all 1 = .ok (.aload_n 0, 1) := by decide +kernel
theorem dX8_all_2 : decode cX8_all 2 = .ok (.getfield 96, 3) := by decide +kernel
theorem dX8_all_5 : decode cX8_all 5 = .ok (.ishl, 1) := by decide +kernel
theorem dX8_all_6 : decode cX8_all 6 = .ok (.iconst 1, 1) := by decide +kernel
theorem dX8_all_7 : decode cX8_all 7 = .ok (.isub, 1) := by decide +kernel
theorem dX8_all_8 : decode cX8_all 8 = .ok (.ireturn, 1) := by decide +kernel
theorem dX8_clashes_0 : decode cX8_clashes 0 = .ok (.aload_n 0, 1) := by decide +kernel
theorem dX8_clashes_1 : decode cX8_clashes 1 = .ok (.getfield 118, 3) := by decide +kernel
theorem dX8_clashes_4 : decode cX8_clashes 4 = .ok (.iload_n 2, 1) := by decide +kernel
theorem dX8_clashes_5 : decode cX8_clashes 5 = .ok (.invokestatic 121, 3) := by decide +kernel
theorem dX8_clashes_8 : decode cX8_clashes 8 = .ok (.ifCond .ne 5, 3) := by decide +kernel
theorem dX8_clashes_11 : decode cX8_clashes 11 = .ok (.iconst 0, 1) := by decide +kernel
theorem dX8_clashes_12 : decode cX8_clashes 12 = .ok (.ireturn, 1) := by decide +kernel
theorem dX8_clashes_13 : decode cX8_clashes 13 = .ok (.iconst 0, 1) := by decide +kernel
theorem dX8_clashes_14 : decode cX8_clashes 14 = .ok (.istore_n 3, 1) := by decide +kernel
theorem dX8_clashes_15 : decode cX8_clashes 15 = .ok (.iconst 0, 1) := by decide +kernel
theorem dX8_clashes_16 : decode cX8_clashes 16 = .ok (.istore 4, 2) := by decide +kernel
theorem dX8_clashes_18 : decode cX8_clashes 18 = .ok (.iconst 0, 1) := by decide +kernel
theorem dX8_clashes_19 : decode cX8_clashes 19 = .ok (.istore 5, 2) := by decide +kernel
theorem dX8_clashes_21 : decode cX8_clashes 21 = .ok (.iload 5, 2) := by decide +kernel
theorem dX8_clashes_23 : decode cX8_clashes 23 = .ok (.aload_n 0, 1) := by decide +kernel
theorem dX8_clashes_24 : decode cX8_clashes 24 = .ok (.getfield 96, 3) := by decide +kernel
theorem dX8_clashes_27 : decode cX8_clashes 27 = .ok (.if_icmp .ge 145, 3) := by decide +kernel
theorem dX8_clashes_30 : decode cX8_clashes 30 = .ok (.aload_n 0, 1) := by decide +kernel
theorem dX8_clashes_31 : decode cX8_clashes 31 = .ok (.getfield 16, 3) := by decide +kernel
theorem dX8_clashes_34 : decode cX8_clashes 34 = .ok (.iload 5, 2) := by decide +kernel
theorem dX8_clashes_36 : decode cX8_clashes 36 = .ok (.iaload, 1) := by decide +kernel
theorem dX8_clashes_37 : decode cX8_clashes 37 = .ok (.iload_n 2, 1) := by decide +kernel
theorem dX8_clashes_38 : decode cX8_clashes 38 = .ok (.invokestatic 121, 3) := by decide +kernel
theorem dX8_clashes_41 : decode cX8_clashes 41 = .ok (.iconst 1, 1) := by decide +kernel
theorem dX8_clashes_42 : decode cX8_clashes 42 = .ok (.if_icmp .ne 7, 3) := by decide +kernel
theorem dX8_clashes_45 : decode cX8_clashes 45 = .ok (.iconst 1, 1) := by decide +kernel
theorem dX8_clashes_46 : decode cX8_clashes 46 = .ok (.goto 4, 3) := by decide +kernel
theorem dX8_clashes_49 : decode cX8_clashes 49 = .ok (.iconst 0, 1) := by decide +kernel
theorem dX8_clashes_50 : decode cX8_clashes 50 = .ok (.istore 6, 2) := by decide +kernel
theorem dX8_clashes_52 : decode cX8_clashes 52 = .ok (.aload_n 0, 1) := by decide +kernel
theorem dX8_clashes_53 : decode cX8_clashes 53 = .ok (.getfield 28, 3) := by decide +kernel
theorem dX8_clashes_56 : decode cX8_clashes 56 = .ok (.iload 5, 2) := by decide +kernel
theorem dX8_clashes_58 : decode cX8_clashes 58 = .ok (.aload_n 0, 1) := by decide +kernel
theorem dX8_clashes_59 : decode cX8_clashes 59 = .ok (.getfield 31, 3) := by decide +kernel
theorem dX8_clashes_62 : decode cX8_clashes 62 = .ok (.iload_n 1, 1) := by decide +kernel
theorem dX8_clashes_63 : decode cX8_clashes 63 = .ok (.iaload, 1) := by decide +kernel
theorem dX8_clashes_64 : decode cX8_clashes 64 = .ok (.iload 5, 2) := by decide +kernel
theorem dX8_clashes_66 : decode cX8_clashes 66 = .ok (.invokestatic 128, 3) := by decide +kernel
theorem dX8_clashes_69 : decode cX8_clashes 69 = .ok (.iload_n 2, 1) := by decide +kernel
theorem dX8_clashes_70 : decode cX8_clashes 70 = .ok (.invokestatic 81, 3) := by decide +kernel
theorem dX8_clashes_73 : decode cX8_clashes 73 = .ok (.iaload, 1) := by decide +kernel
theorem dX8_clashes_74 : decode cX8_clashes 74 = .ok (.bipush (-9), 2) := by decide +kernel
theorem dX8_clashes_76 : decode cX8_clashes 76 = .ok (.if_icmp .eq 7, 3) := by decide +kernel
theorem dX8_clashes_79 : decode cX8_clashes 79 = .ok (.iconst 1, 1) := by decide +kernel
theorem dX8_clashes_80 : decode cX8_clashes 80 = .ok (.goto 4, 3) := by decide +kernel
theorem dX8_clashes_83 : decode cX8_clashes 83 = .ok (.iconst 0, 1) := by decide +kernel
theorem dX8_clashes_84 : decode cX8_clashes 84 = .ok (.istore 7, 2) := by decide +kernel
theorem dX8_clashes_86 : decode cX8_clashes 86 = .ok (.iload 6, 2) := by decide +kernel
theorem dX8_clashes_88 : decode cX8_clashes 88 = .ok (.ifCond .eq 20, 3) := by decide +kernel
theorem dX8_clashes_91 : decode cX8_clashes 91 = .ok (.aload_n 0, 1) := by decide +kernel
theorem dX8_clashes_92 : decode cX8_clashes 92 = .ok (.getfield 13, 3) := by decide +kernel
theorem dX8_clashes_95 : decode cX8_clashes 95 = .ok (.iload 5, 2) := by decide +kernel
theorem dX8_clashes_97 : decode cX8_clashes 97 = .ok (.iaload, 1) := by decide +kernel
theorem dX8_clashes_98 : decode cX8_clashes 98 = .ok (.ifCond .ne 10, 3) := by decide +kernel
theorem dX8_clashes_101 : decode cX8_clashes 101 = .ok (.iload 7, 2) := by decide +kernel
theorem dX8_clashes_103 : decode cX8_clashes 103 = .ok (.ifCond .ne 5, 3) := by decide +kernel
theorem dX8_clashes_106 : decode cX8_clashes 106 = .ok (.iconst 0, 1) := by decide +kernel
theorem dX8_clashes_107 : decode cX8_clashes 107 = .ok (.ireturn, 1) := by decide +kernel
theorem dX8_clashes_108 : decode cX8_clashes 108 = .ok (.iload_n 3, 1) := by decide +kernel
theorem dX8_clashes_109 : decode cX8_clashes 109 = .ok (.ifCond .ne 18, 3) := by decide +kernel
theorem dX8_clashes_112 : decode cX8_clashes 112 = .ok (.iload 6, 2) := by decide +kernel
theorem dX8_clashes_114 : decode cX8_clashes 114 = .ok (.ifCond .eq 17, 3) := by decide +kernel
theorem dX8_clashes_117 : decode cX8_clashes 117 = .ok (.aload_n 0, 1) := by decide +kernel
theorem dX8_clashes_118 : decode cX8_clashes 118 = .ok (.getfield 13, 3) := by decide +kernel
theorem dX8_clashes_121 : decode cX8_clashes 121 = .ok (.iload 5, 2) := by decide +kernel
theorem dX8_clashes_123 : decode cX8_clashes 123 = .ok (.iaload, 1) := by decide +kernel
theorem dX8_clashes_124 : decode cX8_clashes 124 = .ok (.ifCond .ne 7, 3) := by decide +kernel
theorem dX8_clashes_127 : decode cX8_clashes 127 = .ok (.iconst 1, 1) := by decide +kernel
theorem dX8_clashes_128 : decode cX8_clashes 128 = .ok (.goto 4, 3) := by decide +kernel
theorem dX8_clashes_131 : decode cX8_clashes 131 = .ok (.iconst 0, 1) := by decide +kernel
theorem dX8_clashes_132 : decode cX8_clashes 132 = .ok (.istore_n 3, 1) := by decide +kernel
theorem dX8_clashes_133 : decode cX8_clashes 133 = .ok (.iload 4, 2) := by decide +kernel
theorem dX8_clashes_135 : decode cX8_clashes 135 = .ok (.ifCond .ne 24, 3) := by decide +kernel
theorem dX8_clashes_138 : decode cX8_clashes 138 = .ok (.iload 6, 2) := by decide +kernel
theorem dX8_clashes_140 : decode cX8_clashes 140 = .ok (.ifCond .eq 23, 3) := by decide +kernel
theorem dX8_clashes_143 : decode cX8_clashes 143 = .ok (.aload_n 0, 1) := by decide +kernel
theorem dX8_clashes_144 : decode cX8_clashes 144 = .ok (.getfield 13, 3) := by decide +kernel
theorem dX8_clashes_147 : decode cX8_clashes 147 = .ok (.iload 5, 2) := by decide +kernel
theorem dX8_clashes_149 : decode cX8_clashes 149 = .ok (.iaload, 1) := by decide +kernel
theorem dX8_clashes_150 : decode cX8_clashes 150 = .ok (.iconst 1, 1) := by decide +kernel
theorem dX8_clashes_151 : decode cX8_clashes 151 = .ok (.if_icmp .ne 12, 3) := by decide +kernel
theorem dX8_clashes_154 : decode cX8_clashes 154 = .ok (.iload 7, 2) := by decide +kernel
theorem dX8_clashes_156 : decode cX8_clashes 156 = .ok (.ifCond .ne 7, 3) := by decide +kernel
theorem dX8_clashes_159 : decode cX8_clashes 159 = .ok (.iconst 1, 1) := by decide +kernel
theorem dX8_clashes_160 : decode cX8_clashes 160 = .ok (.goto 4, 3) := by decide +kernel
theorem dX8_clashes_163 : decode cX8_clashes 163 = .ok (.iconst 0, 1) := by decide +kernel
theorem dX8_clashes_164 : decode cX8_clashes 164 = .ok (.istore 4, 2) := by decide +kernel
theorem dX8_clashes_166 : decode cX8_clashes 166 = .ok (.iinc 5 1, 3) := by decide +kernel
theorem dX8_clashes_169 : decode cX8_clashes 169 = .ok (.goto (-148), 3) := by decide +kernel
theorem dX8_clashes_172 : decode cX8_clashes 172 = .ok (.iload_n 3, 1) := by decide +kernel
theorem dX8_clashes_173 : decode cX8_clashes 173 = .ok (.ifCond .eq 12, 3) := by decide +kernel
theorem dX8_clashes_176 : decode cX8_clashes 176 = .ok (.iload 4, 2) := by decide +kernel
theorem dX8_clashes_178 : decode cX8_clashes 178 = .ok (.ifCond .eq 7, 3) := by decide +kernel
theorem dX8_clashes_181 : decode cX8_clashes 181 = .ok (.iconst 1, 1) := by decide +kernel
theorem dX8_clashes_182 : decode cX8_clashes 182 = .ok (.goto 4, 3) := by decide +kernel
theorem dX8_clashes_185 : decode cX8_clashes 185 = .ok (.iconst 0, 1) := by decide +kernel
theorem dX8_clashes_186 : decode cX8_clashes 186 = .ok (.ireturn, 1) := by decide +kernel
theorem dX8_loses_0 : decode cX8_loses 0 = .ok (.aload_n 0, 1) := by decide +kernel
theorem dX8_loses_1 : decode cX8_loses 1 = .ok (.getfield 37, 3) := by decide +kernel
theorem dX8_loses_4 : decode cX8_loses 4 = .ok (.iload_n 1, 1) := by decide +kernel
theorem dX8_loses_5 : decode cX8_loses 5 = .ok (.iload_n 2, 1) := by decide +kernel
theorem dX8_loses_6 : decode cX8_loses 6 = .ok (.iastore, 1) := by decide +kernel
theorem dX8_loses_7 : decode cX8_loses 7 = .ok (.aload_n 0, 1) := by decide +kernel
theorem dX8_loses_8 : decode cX8_loses 8 = .ok (.getfield 40, 3) := by decide +kernel
theorem dX8_loses_11 : decode cX8_loses 11 = .ok (.iload_n 1, 1) := by decide +kernel
theorem dX8_loses_12 : decode cX8_loses 12 = .ok (.iload_n 3, 1) := by decide +kernel
theorem dX8_loses_13 : decode cX8_loses 13 = .ok (.iastore, 1) := by decide +kernel
theorem dX8_loses_14 : decode cX8_loses 14 = .ok (.aload_n 0, 1) := by decide +kernel
theorem dX8_loses_15 : decode cX8_loses 15 = .ok (.getfield 43, 3) := by decide +kernel
theorem dX8_loses_18 : decode cX8_loses 18 = .ok (.iload_n 1, 1) := by decide +kernel
theorem dX8_loses_19 : decode cX8_loses 19 = .ok (.iload 4, 2) := by decide +kernel
theorem dX8_loses_21 : decode cX8_loses 21 = .ok (.iastore, 1) := by decide +kernel
theorem dX8_loses_22 : decode cX8_loses 22 = .ok (.return_, 1) := by decide +kernel
theorem dX8_losesClashes_0 : decode cX8_losesClashes 0 = .ok (.iconst 0, 1) := by decide +kernel
theorem dX8_losesClashes_1 : decode cX8_losesClashes 1 = .ok (.istore_n 1, 1) := by decide +kernel
theorem dX8_losesClashes_2 : decode cX8_losesClashes 2 = .ok (.iload_n 1, 1) := by decide +kernel
theorem dX8_losesClashes_3 : decode cX8_losesClashes 3 = .ok (.aload_n 0, 1) := by decide +kernel
theorem dX8_losesClashes_4 : decode cX8_losesClashes 4 = .ok (.getfield 131, 3) := by decide +kernel
theorem dX8_losesClashes_7 : decode cX8_losesClashes 7 = .ok (.if_icmp .ge 47, 3) := by decide +kernel
theorem dX8_losesClashes_10 : decode cX8_losesClashes 10 = .ok (.aload_n 0, 1) := by decide +kernel
theorem dX8_losesClashes_11 : decode cX8_losesClashes 11 = .ok (.getfield 37, 3) := by decide +kernel
theorem dX8_losesClashes_14 : decode cX8_losesClashes 14 = .ok (.iload_n 1, 1) := by decide +kernel
theorem dX8_losesClashes_15 : decode cX8_losesClashes 15 = .ok (.bipush (-9), 2) := by decide +kernel
theorem dX8_losesClashes_17 : decode cX8_losesClashes 17 = .ok (.iastore, 1) := by decide +kernel
theorem dX8_losesClashes_18 : decode cX8_losesClashes 18 = .ok (.bipush 7, 2) := by decide +kernel
theorem dX8_losesClashes_20 : decode cX8_losesClashes 20 = .ok (.istore_n 2, 1) := by decide +kernel
theorem dX8_losesClashes_21 : decode cX8_losesClashes 21 = .ok (.iload_n 2, 1) := by decide +kernel
theorem dX8_losesClashes_22 : decode cX8_losesClashes 22 = .ok (.ifCond .lt 26, 3) := by decide +kernel
theorem dX8_losesClashes_25 : decode cX8_losesClashes 25 = .ok (.aload_n 0, 1) := by decide +kernel
theorem dX8_losesClashes_26 : decode cX8_losesClashes 26 = .ok (.iload_n 1, 1) := by decide +kernel
theorem dX8_losesClashes_27 : decode cX8_losesClashes 27 = .ok (.iload_n 2, 1) := by decide +kernel
theorem dX8_losesClashes_28 : decode cX8_losesClashes 28 = .ok (.invokevirtual 141, 3) := by decide +kernel
theorem dX8_losesClashes_31 : decode cX8_losesClashes 31 = .ok (.ifCond .eq 11, 3) := by decide +kernel
theorem dX8_losesClashes_34 : decode cX8_losesClashes 34 = .ok (.aload_n 0, 1) := by decide +kernel
theorem dX8_losesClashes_35 : decode cX8_losesClashes 35 = .ok (.iload_n 1, 1) := by decide +kernel
theorem dX8_losesClashes_36 : decode cX8_losesClashes 36 = .ok (.iconst 0, 1) := by decide +kernel
theorem dX8_losesClashes_37 : decode cX8_losesClashes 37 = .ok (.iconst 1, 1) := by decide +kernel
theorem dX8_losesClashes_38 : decode cX8_losesClashes 38 = .ok (.iload_n 2, 1) := by decide +kernel
theorem dX8_losesClashes_39 : decode cX8_losesClashes 39 = .ok (.invokevirtual 145, 3) := by decide +kernel
theorem dX8_losesClashes_42 : decode cX8_losesClashes 42 = .ok (.iinc 2 (-1), 3) := by decide +kernel
theorem dX8_losesClashes_45 : decode cX8_losesClashes 45 = .ok (.goto (-24), 3) := by decide +kernel
theorem dX8_losesClashes_48 : decode cX8_losesClashes 48 = .ok (.iinc 1 1, 3) := by decide +kernel
theorem dX8_losesClashes_51 : decode cX8_losesClashes 51 = .ok (.goto (-49), 3) := by decide +kernel
theorem dX8_losesClashes_54 : decode cX8_losesClashes 54 = .ok (.return_, 1) := by decide +kernel
theorem dX8_pushes_0 : decode cX8_pushes 0 = .ok (.iconst 0, 1) := by decide +kernel
theorem dX8_pushes_1 : decode cX8_pushes 1 = .ok (.istore_n 3, 1) := by decide +kernel
theorem dX8_pushes_2 : decode cX8_pushes 2 = .ok (.iload_n 3, 1) := by decide +kernel
theorem dX8_pushes_3 : decode cX8_pushes 3 = .ok (.bipush 8, 2) := by decide +kernel
theorem dX8_pushes_5 : decode cX8_pushes 5 = .ok (.if_icmp .ge 66, 3) := by decide +kernel
theorem dX8_pushes_8 : decode cX8_pushes 8 = .ok (.aload_n 0, 1) := by decide +kernel
theorem dX8_pushes_9 : decode cX8_pushes 9 = .ok (.getfield 34, 3) := by decide +kernel
theorem dX8_pushes_12 : decode cX8_pushes 12 = .ok (.bipush 8, 2) := by decide +kernel
theorem dX8_pushes_14 : decode cX8_pushes 14 = .ok (.iload_n 1, 1) := by decide +kernel
theorem dX8_pushes_15 : decode cX8_pushes 15 = .ok (.imul, 1) := by decide +kernel
theorem dX8_pushes_16 : decode cX8_pushes 16 = .ok (.iload_n 3, 1) := by decide +kernel
theorem dX8_pushes_17 : decode cX8_pushes 17 = .ok (.iadd, 1) := by decide +kernel
theorem dX8_pushes_18 : decode cX8_pushes 18 = .ok (.iaload, 1) := by decide +kernel
theorem dX8_pushes_19 : decode cX8_pushes 19 = .ok (.istore 4, 2) := by decide +kernel
theorem dX8_pushes_21 : decode cX8_pushes 21 = .ok (.aload_n 0, 1) := by decide +kernel
theorem dX8_pushes_22 : decode cX8_pushes 22 = .ok (.getfield 118, 3) := by decide +kernel
theorem dX8_pushes_25 : decode cX8_pushes 25 = .ok (.iload_n 3, 1) := by decide +kernel
theorem dX8_pushes_26 : decode cX8_pushes 26 = .ok (.invokestatic 121, 3) := by decide +kernel
theorem dX8_pushes_29 : decode cX8_pushes 29 = .ok (.iconst 1, 1) := by decide +kernel
theorem dX8_pushes_30 : decode cX8_pushes 30 = .ok (.if_icmp .ne 35, 3) := by decide +kernel
theorem dX8_pushes_33 : decode cX8_pushes 33 = .ok (.iload 4, 2) := by decide +kernel
theorem dX8_pushes_35 : decode cX8_pushes 35 = .ok (.bipush (-9), 2) := by decide +kernel
theorem dX8_pushes_37 : decode cX8_pushes 37 = .ok (.if_icmp .eq 28, 3) := by decide +kernel
theorem dX8_pushes_40 : decode cX8_pushes 40 = .ok (.aload_n 0, 1) := by decide +kernel
theorem dX8_pushes_41 : decode cX8_pushes 41 = .ok (.getfield 37, 3) := by decide +kernel
theorem dX8_pushes_44 : decode cX8_pushes 44 = .ok (.iload 4, 2) := by decide +kernel
theorem dX8_pushes_46 : decode cX8_pushes 46 = .ok (.iaload, 1) := by decide +kernel
theorem dX8_pushes_47 : decode cX8_pushes 47 = .ok (.bipush (-9), 2) := by decide +kernel
theorem dX8_pushes_49 : decode cX8_pushes 49 = .ok (.if_icmp .eq 16, 3) := by decide +kernel
theorem dX8_pushes_52 : decode cX8_pushes 52 = .ok (.aload_n 0, 1) := by decide +kernel
theorem dX8_pushes_53 : decode cX8_pushes 53 = .ok (.getfield 37, 3) := by decide +kernel
theorem dX8_pushes_56 : decode cX8_pushes 56 = .ok (.iload 4, 2) := by decide +kernel
theorem dX8_pushes_58 : decode cX8_pushes 58 = .ok (.iaload, 1) := by decide +kernel
theorem dX8_pushes_59 : decode cX8_pushes 59 = .ok (.iload_n 2, 1) := by decide +kernel
theorem dX8_pushes_60 : decode cX8_pushes 60 = .ok (.if_icmp .ge 5, 3) := by decide +kernel
theorem dX8_pushes_63 : decode cX8_pushes 63 = .ok (.iload_n 3, 1) := by decide +kernel
theorem dX8_pushes_64 : decode cX8_pushes 64 = .ok (.ireturn, 1) := by decide +kernel
theorem dX8_pushes_65 : decode cX8_pushes 65 = .ok (.iinc 3 1, 3) := by decide +kernel
theorem dX8_pushes_68 : decode cX8_pushes 68 = .ok (.goto (-66), 3) := by decide +kernel
theorem dX8_pushes_71 : decode cX8_pushes 71 = .ok (.bipush (-9), 2) := by decide +kernel
theorem dX8_pushes_73 : decode cX8_pushes 73 = .ok (.ireturn, 1) := by decide +kernel
theorem dX8_losesPushed_0 : decode cX8_losesPushed 0 = .ok (.iconst 0, 1) := by decide +kernel
theorem dX8_losesPushed_1 : decode cX8_losesPushed 1 = .ok (.istore_n 2, 1) := by decide +kernel
theorem dX8_losesPushed_2 : decode cX8_losesPushed 2 = .ok (.iconst 0, 1) := by decide +kernel
theorem dX8_losesPushed_3 : decode cX8_losesPushed 3 = .ok (.istore_n 3, 1) := by decide +kernel
theorem dX8_losesPushed_4 : decode cX8_losesPushed 4 = .ok (.iload_n 3, 1) := by decide +kernel
theorem dX8_losesPushed_5 : decode cX8_losesPushed 5 = .ok (.aload_n 0, 1) := by decide +kernel
theorem dX8_losesPushed_6 : decode cX8_losesPushed 6 = .ok (.getfield 131, 3) := by decide +kernel
theorem dX8_losesPushed_9 : decode cX8_losesPushed 9 = .ok (.if_icmp .ge 51, 3) := by decide +kernel
theorem dX8_losesPushed_12 : decode cX8_losesPushed 12 = .ok (.aload_n 0, 1) := by decide +kernel
theorem dX8_losesPushed_13 : decode cX8_losesPushed 13 = .ok (.getfield 37, 3) := by decide +kernel
theorem dX8_losesPushed_16 : decode cX8_losesPushed 16 = .ok (.iload_n 3, 1) := by decide +kernel
theorem dX8_losesPushed_17 : decode cX8_losesPushed 17 = .ok (.iaload, 1) := by decide +kernel
theorem dX8_losesPushed_18 : decode cX8_losesPushed 18 = .ok (.bipush (-9), 2) := by decide +kernel
theorem dX8_losesPushed_20 : decode cX8_losesPushed 20 = .ok (.if_icmp .ne 12, 3) := by decide +kernel
theorem dX8_losesPushed_23 : decode cX8_losesPushed 23 = .ok (.aload_n 0, 1) := by decide +kernel
theorem dX8_losesPushed_24 : decode cX8_losesPushed 24 = .ok (.iload_n 3, 1) := by decide +kernel
theorem dX8_losesPushed_25 : decode cX8_losesPushed 25 = .ok (.iload_n 1, 1) := by decide +kernel
theorem dX8_losesPushed_26 : decode cX8_losesPushed 26 = .ok (.invokevirtual 149, 3) := by decide +kernel
theorem dX8_losesPushed_29 : decode cX8_losesPushed 29 = .ok (.goto 5, 3) := by decide +kernel
theorem dX8_losesPushed_32 : decode cX8_losesPushed 32 = .ok (.bipush (-9), 2) := by decide +kernel
theorem dX8_losesPushed_34 : decode cX8_losesPushed 34 = .ok (.istore 4, 2) := by decide +kernel
theorem dX8_losesPushed_36 : decode cX8_losesPushed 36 = .ok (.iload 4, 2) := by decide +kernel
theorem dX8_losesPushed_38 : decode cX8_losesPushed 38 = .ok (.bipush (-9), 2) := by decide +kernel
theorem dX8_losesPushed_40 : decode cX8_losesPushed 40 = .ok (.if_icmp .eq 14, 3) := by decide +kernel
theorem dX8_losesPushed_43 : decode cX8_losesPushed 43 = .ok (.aload_n 0, 1) := by decide +kernel
theorem dX8_losesPushed_44 : decode cX8_losesPushed 44 = .ok (.iload_n 3, 1) := by decide +kernel
theorem dX8_losesPushed_45 : decode cX8_losesPushed 45 = .ok (.iload_n 1, 1) := by decide +kernel
theorem dX8_losesPushed_46 : decode cX8_losesPushed 46 = .ok (.iconst 2, 1) := by decide +kernel
theorem dX8_losesPushed_47 : decode cX8_losesPushed 47 = .ok (.iload 4, 2) := by decide +kernel
theorem dX8_losesPushed_49 : decode cX8_losesPushed 49 = .ok (.invokevirtual 145, 3) := by decide +kernel
theorem dX8_losesPushed_52 : decode cX8_losesPushed 52 = .ok (.iconst 1, 1) := by decide +kernel
theorem dX8_losesPushed_53 : decode cX8_losesPushed 53 = .ok (.istore_n 2, 1) := by decide +kernel
theorem dX8_losesPushed_54 : decode cX8_losesPushed 54 = .ok (.iinc 3 1, 3) := by decide +kernel
theorem dX8_losesPushed_57 : decode cX8_losesPushed 57 = .ok (.goto (-53), 3) := by decide +kernel
theorem dX8_losesPushed_60 : decode cX8_losesPushed 60 = .ok (.iload_n 2, 1) := by decide +kernel
theorem dX8_losesPushed_61 : decode cX8_losesPushed 61 = .ok (.ireturn, 1) := by decide +kernel
theorem dX8_findEnds_0 : decode cX8_findEnds 0 = .ok (.iconst 0, 1) := by decide +kernel
theorem dX8_findEnds_1 : decode cX8_findEnds 1 = .ok (.istore_n 2, 1) := by decide +kernel
theorem dX8_findEnds_2 : decode cX8_findEnds 2 = .ok (.iload_n 2, 1) := by decide +kernel
theorem dX8_findEnds_3 : decode cX8_findEnds 3 = .ok (.aload_n 0, 1) := by decide +kernel
theorem dX8_findEnds_4 : decode cX8_findEnds 4 = .ok (.getfield 131, 3) := by decide +kernel
theorem dX8_findEnds_7 : decode cX8_findEnds 7 = .ok (.if_icmp .ge 40, 3) := by decide +kernel
theorem dX8_findEnds_10 : decode cX8_findEnds 10 = .ok (.aload_n 0, 1) := by decide +kernel
theorem dX8_findEnds_11 : decode cX8_findEnds 11 = .ok (.getfield 46, 3) := by decide +kernel
theorem dX8_findEnds_14 : decode cX8_findEnds 14 = .ok (.iload_n 2, 1) := by decide +kernel
theorem dX8_findEnds_15 : decode cX8_findEnds 15 = .ok (.aload_n 0, 1) := by decide +kernel
theorem dX8_findEnds_16 : decode cX8_findEnds 16 = .ok (.getfield 37, 3) := by decide +kernel
theorem dX8_findEnds_19 : decode cX8_findEnds 19 = .ok (.iload_n 2, 1) := by decide +kernel
theorem dX8_findEnds_20 : decode cX8_findEnds 20 = .ok (.iaload, 1) := by decide +kernel
theorem dX8_findEnds_21 : decode cX8_findEnds 21 = .ok (.bipush (-9), 2) := by decide +kernel
theorem dX8_findEnds_23 : decode cX8_findEnds 23 = .ok (.if_icmp .ne 16, 3) := by decide +kernel
theorem dX8_findEnds_26 : decode cX8_findEnds 26 = .ok (.aload_n 0, 1) := by decide +kernel
theorem dX8_findEnds_27 : decode cX8_findEnds 27 = .ok (.iload_n 2, 1) := by decide +kernel
theorem dX8_findEnds_28 : decode cX8_findEnds 28 = .ok (.iload_n 1, 1) := by decide +kernel
theorem dX8_findEnds_29 : decode cX8_findEnds 29 = .ok (.invokevirtual 152, 3) := by decide +kernel
theorem dX8_findEnds_32 : decode cX8_findEnds 32 = .ok (.ifCond .eq 7, 3) := by decide +kernel
theorem dX8_findEnds_35 : decode cX8_findEnds 35 = .ok (.iconst 1, 1) := by decide +kernel
theorem dX8_findEnds_36 : decode cX8_findEnds 36 = .ok (.goto 4, 3) := by decide +kernel
theorem dX8_findEnds_39 : decode cX8_findEnds 39 = .ok (.iconst 0, 1) := by decide +kernel
theorem dX8_findEnds_40 : decode cX8_findEnds 40 = .ok (.bastore, 1) := by decide +kernel
theorem dX8_findEnds_41 : decode cX8_findEnds 41 = .ok (.iinc 2 1, 3) := by decide +kernel
theorem dX8_findEnds_44 : decode cX8_findEnds 44 = .ok (.goto (-42), 3) := by decide +kernel
theorem dX8_findEnds_47 : decode cX8_findEnds 47 = .ok (.iconst 1, 1) := by decide +kernel
theorem dX8_findEnds_48 : decode cX8_findEnds 48 = .ok (.istore_n 2, 1) := by decide +kernel
theorem dX8_findEnds_49 : decode cX8_findEnds 49 = .ok (.iload_n 2, 1) := by decide +kernel
theorem dX8_findEnds_50 : decode cX8_findEnds 50 = .ok (.ifCond .eq 90, 3) := by decide +kernel
theorem dX8_findEnds_53 : decode cX8_findEnds 53 = .ok (.iconst 0, 1) := by decide +kernel
theorem dX8_findEnds_54 : decode cX8_findEnds 54 = .ok (.istore_n 2, 1) := by decide +kernel
theorem dX8_findEnds_55 : decode cX8_findEnds 55 = .ok (.iconst 0, 1) := by decide +kernel
theorem dX8_findEnds_56 : decode cX8_findEnds 56 = .ok (.istore_n 3, 1) := by decide +kernel
theorem dX8_findEnds_57 : decode cX8_findEnds 57 = .ok (.iload_n 3, 1) := by decide +kernel
theorem dX8_findEnds_58 : decode cX8_findEnds 58 = .ok (.bipush 8, 2) := by decide +kernel
theorem dX8_findEnds_60 : decode cX8_findEnds 60 = .ok (.aload_n 0, 1) := by decide +kernel
theorem dX8_findEnds_61 : decode cX8_findEnds 61 = .ok (.getfield 131, 3) := by decide +kernel
theorem dX8_findEnds_64 : decode cX8_findEnds 64 = .ok (.imul, 1) := by decide +kernel
theorem dX8_findEnds_65 : decode cX8_findEnds 65 = .ok (.if_icmp .ge 72, 3) := by decide +kernel
theorem dX8_findEnds_68 : decode cX8_findEnds 68 = .ok (.iload_n 3, 1) := by decide +kernel
theorem dX8_findEnds_69 : decode cX8_findEnds 69 = .ok (.bipush 8, 2) := by decide +kernel
theorem dX8_findEnds_71 : decode cX8_findEnds 71 = .ok (.idiv, 1) := by decide +kernel
theorem dX8_findEnds_72 : decode cX8_findEnds 72 = .ok (.istore 4, 2) := by decide +kernel
theorem dX8_findEnds_74 : decode cX8_findEnds 74 = .ok (.aload_n 0, 1) := by decide +kernel
theorem dX8_findEnds_75 : decode cX8_findEnds 75 = .ok (.getfield 46, 3) := by decide +kernel
theorem dX8_findEnds_78 : decode cX8_findEnds 78 = .ok (.iload 4, 2) := by decide +kernel
theorem dX8_findEnds_80 : decode cX8_findEnds 80 = .ok (.baload, 1) := by decide +kernel
theorem dX8_findEnds_81 : decode cX8_findEnds 81 = .ok (.ifCond .ne 50, 3) := by decide +kernel
theorem dX8_findEnds_84 : decode cX8_findEnds 84 = .ok (.aload_n 0, 1) := by decide +kernel
theorem dX8_findEnds_85 : decode cX8_findEnds 85 = .ok (.getfield 37, 3) := by decide +kernel
theorem dX8_findEnds_88 : decode cX8_findEnds 88 = .ok (.iload 4, 2) := by decide +kernel
theorem dX8_findEnds_90 : decode cX8_findEnds 90 = .ok (.iaload, 1) := by decide +kernel
theorem dX8_findEnds_91 : decode cX8_findEnds 91 = .ok (.bipush (-9), 2) := by decide +kernel
theorem dX8_findEnds_93 : decode cX8_findEnds 93 = .ok (.if_icmp .ne 38, 3) := by decide +kernel
theorem dX8_findEnds_96 : decode cX8_findEnds 96 = .ok (.aload_n 0, 1) := by decide +kernel
theorem dX8_findEnds_97 : decode cX8_findEnds 97 = .ok (.getfield 34, 3) := by decide +kernel
theorem dX8_findEnds_100 : decode cX8_findEnds 100 = .ok (.iload_n 3, 1) := by decide +kernel
theorem dX8_findEnds_101 : decode cX8_findEnds 101 = .ok (.iaload, 1) := by decide +kernel
theorem dX8_findEnds_102 : decode cX8_findEnds 102 = .ok (.bipush (-9), 2) := by decide +kernel
theorem dX8_findEnds_104 : decode cX8_findEnds 104 = .ok (.if_icmp .eq 27, 3) := by decide +kernel
theorem dX8_findEnds_107 : decode cX8_findEnds 107 = .ok (.aload_n 0, 1) := by decide +kernel
theorem dX8_findEnds_108 : decode cX8_findEnds 108 = .ok (.getfield 46, 3) := by decide +kernel
theorem dX8_findEnds_111 : decode cX8_findEnds 111 = .ok (.aload_n 0, 1) := by decide +kernel
theorem dX8_findEnds_112 : decode cX8_findEnds 112 = .ok (.getfield 34, 3) := by decide +kernel
theorem dX8_findEnds_115 : decode cX8_findEnds 115 = .ok (.iload_n 3, 1) := by decide +kernel
theorem dX8_findEnds_116 : decode cX8_findEnds 116 = .ok (.iaload, 1) := by decide +kernel
theorem dX8_findEnds_117 : decode cX8_findEnds 117 = .ok (.baload, 1) := by decide +kernel
theorem dX8_findEnds_118 : decode cX8_findEnds 118 = .ok (.ifCond .eq 13, 3) := by decide +kernel
theorem dX8_findEnds_121 : decode cX8_findEnds 121 = .ok (.aload_n 0, 1) := by decide +kernel
theorem dX8_findEnds_122 : decode cX8_findEnds 122 = .ok (.getfield 46, 3) := by decide +kernel
theorem dX8_findEnds_125 : decode cX8_findEnds 125 = .ok (.iload 4, 2) := by decide +kernel
theorem dX8_findEnds_127 : decode cX8_findEnds 127 = .ok (.iconst 1, 1) := by decide +kernel
theorem dX8_findEnds_128 : decode cX8_findEnds 128 = .ok (.bastore, 1) := by decide +kernel
theorem dX8_findEnds_129 : decode cX8_findEnds 129 = .ok (.iconst 1, 1) := by decide +kernel
theorem dX8_findEnds_130 : decode cX8_findEnds 130 = .ok (.istore_n 2, 1) := by decide +kernel
theorem dX8_findEnds_131 : decode cX8_findEnds 131 = .ok (.iinc 3 1, 3) := by decide +kernel
theorem dX8_findEnds_134 : decode cX8_findEnds 134 = .ok (.goto (-77), 3) := by decide +kernel
theorem dX8_findEnds_137 : decode cX8_findEnds 137 = .ok (.goto (-88), 3) := by decide +kernel
theorem dX8_findEnds_140 : decode cX8_findEnds 140 = .ok (.return_, 1) := by decide +kernel
theorem dX8_losesStuck_0 : decode cX8_losesStuck 0 = .ok (.aload_n 0, 1) := by decide +kernel
theorem dX8_losesStuck_1 : decode cX8_losesStuck 1 = .ok (.aload_n 0, 1) := by decide +kernel
theorem dX8_losesStuck_2 : decode cX8_losesStuck 2 = .ok (.invokevirtual 155, 3) := by decide +kernel
theorem dX8_losesStuck_5 : decode cX8_losesStuck 5 = .ok (.invokevirtual 158, 3) := by decide +kernel
theorem dX8_losesStuck_8 : decode cX8_losesStuck 8 = .ok (.iconst 0, 1) := by decide +kernel
theorem dX8_losesStuck_9 : decode cX8_losesStuck 9 = .ok (.istore_n 2, 1) := by decide +kernel
theorem dX8_losesStuck_10 : decode cX8_losesStuck 10 = .ok (.iconst 0, 1) := by decide +kernel
theorem dX8_losesStuck_11 : decode cX8_losesStuck 11 = .ok (.istore_n 3, 1) := by decide +kernel
theorem dX8_losesStuck_12 : decode cX8_losesStuck 12 = .ok (.iload_n 3, 1) := by decide +kernel
theorem dX8_losesStuck_13 : decode cX8_losesStuck 13 = .ok (.aload_n 0, 1) := by decide +kernel
theorem dX8_losesStuck_14 : decode cX8_losesStuck 14 = .ok (.getfield 131, 3) := by decide +kernel
theorem dX8_losesStuck_17 : decode cX8_losesStuck 17 = .ok (.if_icmp .ge 40, 3) := by decide +kernel
theorem dX8_losesStuck_20 : decode cX8_losesStuck 20 = .ok (.aload_n 0, 1) := by decide +kernel
theorem dX8_losesStuck_21 : decode cX8_losesStuck 21 = .ok (.getfield 37, 3) := by decide +kernel
theorem dX8_losesStuck_24 : decode cX8_losesStuck 24 = .ok (.iload_n 3, 1) := by decide +kernel
theorem dX8_losesStuck_25 : decode cX8_losesStuck 25 = .ok (.iaload, 1) := by decide +kernel
theorem dX8_losesStuck_26 : decode cX8_losesStuck 26 = .ok (.bipush (-9), 2) := by decide +kernel
theorem dX8_losesStuck_28 : decode cX8_losesStuck 28 = .ok (.if_icmp .ne 23, 3) := by decide +kernel
theorem dX8_losesStuck_31 : decode cX8_losesStuck 31 = .ok (.aload_n 0, 1) := by decide +kernel
theorem dX8_losesStuck_32 : decode cX8_losesStuck 32 = .ok (.getfield 46, 3) := by decide +kernel
theorem dX8_losesStuck_35 : decode cX8_losesStuck 35 = .ok (.iload_n 3, 1) := by decide +kernel
theorem dX8_losesStuck_36 : decode cX8_losesStuck 36 = .ok (.baload, 1) := by decide +kernel
theorem dX8_losesStuck_37 : decode cX8_losesStuck 37 = .ok (.ifCond .ne 14, 3) := by decide +kernel
theorem dX8_losesStuck_40 : decode cX8_losesStuck 40 = .ok (.aload_n 0, 1) := by decide +kernel
theorem dX8_losesStuck_41 : decode cX8_losesStuck 41 = .ok (.iload_n 3, 1) := by decide +kernel
theorem dX8_losesStuck_42 : decode cX8_losesStuck 42 = .ok (.iload_n 1, 1) := by decide +kernel
theorem dX8_losesStuck_43 : decode cX8_losesStuck 43 = .ok (.iconst 3, 1) := by decide +kernel
theorem dX8_losesStuck_44 : decode cX8_losesStuck 44 = .ok (.bipush (-9), 2) := by decide +kernel
theorem dX8_losesStuck_46 : decode cX8_losesStuck 46 = .ok (.invokevirtual 145, 3) := by decide +kernel
theorem dX8_losesStuck_49 : decode cX8_losesStuck 49 = .ok (.iconst 1, 1) := by decide +kernel
theorem dX8_losesStuck_50 : decode cX8_losesStuck 50 = .ok (.istore_n 2, 1) := by decide +kernel
theorem dX8_losesStuck_51 : decode cX8_losesStuck 51 = .ok (.iinc 3 1, 3) := by decide +kernel
theorem dX8_losesStuck_54 : decode cX8_losesStuck 54 = .ok (.goto (-42), 3) := by decide +kernel
theorem dX8_losesStuck_57 : decode cX8_losesStuck 57 = .ok (.iload_n 2, 1) := by decide +kernel
theorem dX8_losesStuck_58 : decode cX8_losesStuck 58 = .ok (.ireturn, 1) := by decide +kernel
theorem dX8_findControlled_0 : decode cX8_findControlled 0 = .ok (.iconst 0, 1) := by decide +kernel
theorem dX8_findControlled_1 : decode cX8_findControlled 1 = .ok (.istore_n 1, 1) := by decide +kernel
theorem dX8_findControlled_2 : decode cX8_findControlled 2 = .ok (.iload_n 1, 1) := by decide +kernel
theorem dX8_findControlled_3 : decode cX8_findControlled 3 = .ok (.aload_n 0, 1) := by decide +kernel
theorem dX8_findControlled_4 : decode cX8_findControlled 4 = .ok (.getfield 131, 3) := by decide +kernel
theorem dX8_findControlled_7 : decode cX8_findControlled 7 = .ok (.if_icmp .ge 35, 3) := by decide +kernel
theorem dX8_findControlled_10 : decode cX8_findControlled 10 = .ok (.aload_n 0, 1) := by decide +kernel
theorem dX8_findControlled_11 : decode cX8_findControlled 11 = .ok (.getfield 50, 3) := by decide +kernel
theorem dX8_findControlled_14 : decode cX8_findControlled 14 = .ok (.iload_n 1, 1) := by decide +kernel
theorem dX8_findControlled_15 : decode cX8_findControlled 15 = .ok (.iload_n 1, 1) := by decide +kernel
theorem dX8_findControlled_16 : decode cX8_findControlled 16 = .ok (.ifCond .ne 18, 3) := by decide +kernel
theorem dX8_findControlled_19 : decode cX8_findControlled 19 = .ok (.aload_n 0, 1) := by decide +kernel
theorem dX8_findControlled_20 : decode cX8_findControlled 20 = .ok (.getfield 37, 3) := by decide +kernel
theorem dX8_findControlled_23 : decode cX8_findControlled 23 = .ok (.iconst 0, 1) := by decide +kernel
theorem dX8_findControlled_24 : decode cX8_findControlled 24 = .ok (.iaload, 1) := by decide +kernel
theorem dX8_findControlled_25 : decode cX8_findControlled 25 = .ok (.bipush (-9), 2) := by decide +kernel
theorem dX8_findControlled_27 : decode cX8_findControlled 27 = .ok (.if_icmp .ne 7, 3) := by decide +kernel
theorem dX8_findControlled_30 : decode cX8_findControlled 30 = .ok (.iconst 1, 1) := by decide +kernel
theorem dX8_findControlled_31 : decode cX8_findControlled 31 = .ok (.goto 4, 3) := by decide +kernel
theorem dX8_findControlled_34 : decode cX8_findControlled 34 = .ok (.iconst 0, 1) := by decide +kernel
theorem dX8_findControlled_35 : decode cX8_findControlled 35 = .ok (.bastore, 1) := by decide +kernel
theorem dX8_findControlled_36 : decode cX8_findControlled 36 = .ok (.iinc 1 1, 3) := by decide +kernel
theorem dX8_findControlled_39 : decode cX8_findControlled 39 = .ok (.goto (-37), 3) := by decide +kernel
theorem dX8_findControlled_42 : decode cX8_findControlled 42 = .ok (.iconst 1, 1) := by decide +kernel
theorem dX8_findControlled_43 : decode cX8_findControlled 43 = .ok (.istore_n 1, 1) := by decide +kernel
theorem dX8_findControlled_44 : decode cX8_findControlled 44 = .ok (.iload_n 1, 1) := by decide +kernel
theorem dX8_findControlled_45 : decode cX8_findControlled 45 = .ok (.ifCond .eq 81, 3) := by decide +kernel
theorem dX8_findControlled_48 : decode cX8_findControlled 48 = .ok (.iconst 0, 1) := by decide +kernel
theorem dX8_findControlled_49 : decode cX8_findControlled 49 = .ok (.istore_n 1, 1) := by decide +kernel
theorem dX8_findControlled_50 : decode cX8_findControlled 50 = .ok (.iconst 0, 1) := by decide +kernel
theorem dX8_findControlled_51 : decode cX8_findControlled 51 = .ok (.istore_n 2, 1) := by decide +kernel
theorem dX8_findControlled_52 : decode cX8_findControlled 52 = .ok (.iload_n 2, 1) := by decide +kernel
theorem dX8_findControlled_53 : decode cX8_findControlled 53 = .ok (.bipush 8, 2) := by decide +kernel
theorem dX8_findControlled_55 : decode cX8_findControlled 55 = .ok (.aload_n 0, 1) := by decide +kernel
theorem dX8_findControlled_56 : decode cX8_findControlled 56 = .ok (.getfield 131, 3) := by decide +kernel
theorem dX8_findControlled_59 : decode cX8_findControlled 59 = .ok (.imul, 1) := by decide +kernel
theorem dX8_findControlled_60 : decode cX8_findControlled 60 = .ok (.if_icmp .ge 63, 3) := by decide +kernel
theorem dX8_findControlled_63 : decode cX8_findControlled 63 = .ok (.aload_n 0, 1) := by decide +kernel
theorem dX8_findControlled_64 : decode cX8_findControlled 64 = .ok (.getfield 34, 3) := by decide +kernel
theorem dX8_findControlled_67 : decode cX8_findControlled 67 = .ok (.iload_n 2, 1) := by decide +kernel
theorem dX8_findControlled_68 : decode cX8_findControlled 68 = .ok (.iaload, 1) := by decide +kernel
theorem dX8_findControlled_69 : decode cX8_findControlled 69 = .ok (.istore_n 3, 1) := by decide +kernel
theorem dX8_findControlled_70 : decode cX8_findControlled 70 = .ok (.aload_n 0, 1) := by decide +kernel
theorem dX8_findControlled_71 : decode cX8_findControlled 71 = .ok (.getfield 50, 3) := by decide +kernel
theorem dX8_findControlled_74 : decode cX8_findControlled 74 = .ok (.iload_n 2, 1) := by decide +kernel
theorem dX8_findControlled_75 : decode cX8_findControlled 75 = .ok (.bipush 8, 2) := by decide +kernel
theorem dX8_findControlled_77 : decode cX8_findControlled 77 = .ok (.idiv, 1) := by decide +kernel
theorem dX8_findControlled_78 : decode cX8_findControlled 78 = .ok (.baload, 1) := by decide +kernel
theorem dX8_findControlled_79 : decode cX8_findControlled 79 = .ok (.ifCond .eq 38, 3) := by decide +kernel
theorem dX8_findControlled_82 : decode cX8_findControlled 82 = .ok (.iload_n 3, 1) := by decide +kernel
theorem dX8_findControlled_83 : decode cX8_findControlled 83 = .ok (.bipush (-9), 2) := by decide +kernel
theorem dX8_findControlled_85 : decode cX8_findControlled 85 = .ok (.if_icmp .eq 32, 3) := by decide +kernel
theorem dX8_findControlled_88 : decode cX8_findControlled 88 = .ok (.aload_n 0, 1) := by decide +kernel
theorem dX8_findControlled_89 : decode cX8_findControlled 89 = .ok (.getfield 37, 3) := by decide +kernel
theorem dX8_findControlled_92 : decode cX8_findControlled 92 = .ok (.iload_n 3, 1) := by decide +kernel
theorem dX8_findControlled_93 : decode cX8_findControlled 93 = .ok (.iaload, 1) := by decide +kernel
theorem dX8_findControlled_94 : decode cX8_findControlled 94 = .ok (.bipush (-9), 2) := by decide +kernel
theorem dX8_findControlled_96 : decode cX8_findControlled 96 = .ok (.if_icmp .ne 21, 3) := by decide +kernel
theorem dX8_findControlled_99 : decode cX8_findControlled 99 = .ok (.aload_n 0, 1) := by decide +kernel
theorem dX8_findControlled_100 : decode cX8_findControlled 100 = .ok (.getfield 50, 3) := by decide +kernel
theorem dX8_findControlled_103 : decode cX8_findControlled 103 = .ok (.iload_n 3, 1) := by decide +kernel
theorem dX8_findControlled_104 : decode cX8_findControlled 104 = .ok (.baload, 1) := by decide +kernel
theorem dX8_findControlled_105 : decode cX8_findControlled 105 = .ok (.ifCond .ne 12, 3) := by decide +kernel
theorem dX8_findControlled_108 : decode cX8_findControlled 108 = .ok (.aload_n 0, 1) := by decide +kernel
theorem dX8_findControlled_109 : decode cX8_findControlled 109 = .ok (.getfield 50, 3) := by decide +kernel
theorem dX8_findControlled_112 : decode cX8_findControlled 112 = .ok (.iload_n 3, 1) := by decide +kernel
theorem dX8_findControlled_113 : decode cX8_findControlled 113 = .ok (.iconst 1, 1) := by decide +kernel
theorem dX8_findControlled_114 : decode cX8_findControlled 114 = .ok (.bastore, 1) := by decide +kernel
theorem dX8_findControlled_115 : decode cX8_findControlled 115 = .ok (.iconst 1, 1) := by decide +kernel
theorem dX8_findControlled_116 : decode cX8_findControlled 116 = .ok (.istore_n 1, 1) := by decide +kernel
theorem dX8_findControlled_117 : decode cX8_findControlled 117 = .ok (.iinc 2 1, 3) := by decide +kernel
theorem dX8_findControlled_120 : decode cX8_findControlled 120 = .ok (.goto (-68), 3) := by decide +kernel
theorem dX8_findControlled_123 : decode cX8_findControlled 123 = .ok (.goto (-79), 3) := by decide +kernel
theorem dX8_findControlled_126 : decode cX8_findControlled 126 = .ok (.return_, 1) := by decide +kernel
theorem dX8_knows_0 : decode cX8_knows 0 = .ok (.aload_n 0, 1) := by decide +kernel
theorem dX8_knows_1 : decode cX8_knows 1 = .ok (.getfield 105, 3) := by decide +kernel
theorem dX8_knows_4 : decode cX8_knows 4 = .ok (.ifCond .eq 4, 3) := by decide +kernel
theorem dX8_knows_7 : decode cX8_knows 7 = .ok (.return_, 1) := by decide +kernel
theorem dX8_knows_8 : decode cX8_knows 8 = .ok (.aload_n 0, 1) := by decide +kernel
theorem dX8_knows_9 : decode cX8_knows 9 = .ok (.iconst 1, 1) := by decide +kernel
theorem dX8_knows_10 : decode cX8_knows 10 = .ok (.putfield 105, 3) := by decide +kernel
theorem dX8_knows_13 : decode cX8_knows 13 = .ok (.aload_n 0, 1) := by decide +kernel
theorem dX8_knows_14 : decode cX8_knows 14 = .ok (.iconst 0, 1) := by decide +kernel
theorem dX8_knows_15 : decode cX8_knows 15 = .ok (.putfield 162, 3) := by decide +kernel
theorem dX8_knows_18 : decode cX8_knows 18 = .ok (.aload_n 0, 1) := by decide +kernel
theorem dX8_knows_19 : decode cX8_knows 19 = .ok (.aload_n 0, 1) := by decide +kernel
theorem dX8_knows_20 : decode cX8_knows 20 = .ok (.invokevirtual 155, 3) := by decide +kernel
theorem dX8_knows_23 : decode cX8_knows 23 = .ok (.invokevirtual 165, 3) := by decide +kernel
theorem dX8_knows_26 : decode cX8_knows 26 = .ok (.ifCond .ne 4, 3) := by decide +kernel
theorem dX8_knows_29 : decode cX8_knows 29 = .ok (.return_, 1) := by decide +kernel
theorem dX8_knows_30 : decode cX8_knows 30 = .ok (.aload_n 0, 1) := by decide +kernel
theorem dX8_knows_31 : decode cX8_knows 31 = .ok (.invokevirtual 168, 3) := by decide +kernel
theorem dX8_knows_34 : decode cX8_knows 34 = .ok (.aload_n 0, 1) := by decide +kernel
theorem dX8_knows_35 : decode cX8_knows 35 = .ok (.iconst 1, 1) := by decide +kernel
theorem dX8_knows_36 : decode cX8_knows 36 = .ok (.putfield 162, 3) := by decide +kernel
theorem dX8_knows_39 : decode cX8_knows 39 = .ok (.aload_n 0, 1) := by decide +kernel
theorem dX8_knows_40 : decode cX8_knows 40 = .ok (.aload_n 0, 1) := by decide +kernel
theorem dX8_knows_41 : decode cX8_knows 41 = .ok (.getfield 162, 3) := by decide +kernel
theorem dX8_knows_44 : decode cX8_knows 44 = .ok (.invokevirtual 171, 3) := by decide +kernel
theorem dX8_knows_47 : decode cX8_knows 47 = .ok (.ifCond .ne 14, 3) := by decide +kernel
theorem dX8_knows_50 : decode cX8_knows 50 = .ok (.aload_n 0, 1) := by decide +kernel
theorem dX8_knows_51 : decode cX8_knows 51 = .ok (.aload_n 0, 1) := by decide +kernel
theorem dX8_knows_52 : decode cX8_knows 52 = .ok (.getfield 162, 3) := by decide +kernel
theorem dX8_knows_55 : decode cX8_knows 55 = .ok (.invokevirtual 174, 3) := by decide +kernel
theorem dX8_knows_58 : decode cX8_knows 58 = .ok (.ifCond .eq 16, 3) := by decide +kernel
theorem dX8_knows_61 : decode cX8_knows 61 = .ok (.aload_n 0, 1) := by decide +kernel
theorem dX8_knows_62 : decode cX8_knows 62 = .ok (.dup, 1) := by decide +kernel
theorem dX8_knows_63 : decode cX8_knows 63 = .ok (.getfield 162, 3) := by decide +kernel
theorem dX8_knows_66 : decode cX8_knows 66 = .ok (.iconst 1, 1) := by decide +kernel
theorem dX8_knows_67 : decode cX8_knows 67 = .ok (.iadd, 1) := by decide +kernel
theorem dX8_knows_68 : decode cX8_knows 68 = .ok (.putfield 162, 3) := by decide +kernel
theorem dX8_knows_71 : decode cX8_knows 71 = .ok (.goto (-32), 3) := by decide +kernel
theorem dX8_knows_74 : decode cX8_knows 74 = .ok (.aload_n 0, 1) := by decide +kernel
theorem dX8_knows_75 : decode cX8_knows 75 = .ok (.invokevirtual 177, 3) := by decide +kernel
theorem dX8_knows_78 : decode cX8_knows 78 = .ok (.return_, 1) := by decide +kernel
theorem dX8_isJoint_0 : decode cX8_isJoint 0 = .ok (.aload_n 0, 1) := by decide +kernel
theorem dX8_isJoint_1 : decode cX8_isJoint 1 = .ok (.invokevirtual 180, 3) := by decide +kernel
theorem dX8_isJoint_4 : decode cX8_isJoint 4 = .ok (.iload_n 1, 1) := by decide +kernel
theorem dX8_isJoint_5 : decode cX8_isJoint 5 = .ok (.iconst 0, 1) := by decide +kernel
theorem dX8_isJoint_6 : decode cX8_isJoint 6 = .ok (.aload_n 0, 1) := by decide +kernel
theorem dX8_isJoint_7 : decode cX8_isJoint 7 = .ok (.getfield 131, 3) := by decide +kernel
theorem dX8_isJoint_10 : decode cX8_isJoint 10 = .ok (.iconst 1, 1) := by decide +kernel
theorem dX8_isJoint_11 : decode cX8_isJoint 11 = .ok (.isub, 1) := by decide +kernel
theorem dX8_isJoint_12 : decode cX8_isJoint 12 = .ok (.invokestatic 59, 3) := by decide +kernel
theorem dX8_isJoint_15 : decode cX8_isJoint 15 = .ok (.ireturn, 1) := by decide +kernel
theorem dX8_stateOf_0 : decode cX8_stateOf 0 = .ok (.aload_n 0, 1) := by decide +kernel
theorem dX8_stateOf_1 : decode cX8_stateOf 1 = .ok (.iload_n 1, 1) := by decide +kernel
theorem dX8_stateOf_2 : decode cX8_stateOf 2 = .ok (.invokevirtual 183, 3) := by decide +kernel
theorem dX8_stateOf_5 : decode cX8_stateOf 5 = .ok (.ifCond .eq 24, 3) := by decide +kernel
theorem dX8_stateOf_8 : decode cX8_stateOf 8 = .ok (.aload_n 0, 1) := by decide +kernel
theorem dX8_stateOf_9 : decode cX8_stateOf 9 = .ok (.iload_n 2, 1) := by decide +kernel
theorem dX8_stateOf_10 : decode cX8_stateOf 10 = .ok (.invokevirtual 125, 3) := by decide +kernel
theorem dX8_stateOf_13 : decode cX8_stateOf 13 = .ok (.ifCond .eq 16, 3) := by decide +kernel
theorem dX8_stateOf_16 : decode cX8_stateOf 16 = .ok (.aload_n 0, 1) := by decide +kernel
theorem dX8_stateOf_17 : decode cX8_stateOf 17 = .ok (.getfield 31, 3) := by decide +kernel
theorem dX8_stateOf_20 : decode cX8_stateOf 20 = .ok (.iload_n 1, 1) := by decide +kernel
theorem dX8_stateOf_21 : decode cX8_stateOf 21 = .ok (.iaload, 1) := by decide +kernel
theorem dX8_stateOf_22 : decode cX8_stateOf 22 = .ok (.iload_n 2, 1) := by decide +kernel
theorem dX8_stateOf_23 : decode cX8_stateOf 23 = .ok (.invokestatic 128, 3) := by decide +kernel
theorem dX8_stateOf_26 : decode cX8_stateOf 26 = .ok (.goto 4, 3) := by decide +kernel
theorem dX8_stateOf_29 : decode cX8_stateOf 29 = .ok (.iconst (-1), 1) := by decide +kernel
theorem dX8_stateOf_30 : decode cX8_stateOf 30 = .ok (.ireturn, 1) := by decide +kernel
theorem dX8_leads_0 : decode cX8_leads 0 = .ok (.aload_n 0, 1) := by decide +kernel
theorem dX8_leads_1 : decode cX8_leads 1 = .ok (.iload_n 1, 1) := by decide +kernel
theorem dX8_leads_2 : decode cX8_leads 2 = .ok (.invokevirtual 183, 3) := by decide +kernel
theorem dX8_leads_5 : decode cX8_leads 5 = .ok (.ifCond .eq 24, 3) := by decide +kernel
theorem dX8_leads_8 : decode cX8_leads 8 = .ok (.iload_n 2, 1) := by decide +kernel
theorem dX8_leads_9 : decode cX8_leads 9 = .ok (.invokestatic 115, 3) := by decide +kernel
theorem dX8_leads_12 : decode cX8_leads 12 = .ok (.ifCond .eq 17, 3) := by decide +kernel
theorem dX8_leads_15 : decode cX8_leads 15 = .ok (.aload_n 0, 1) := by decide +kernel
theorem dX8_leads_16 : decode cX8_leads 16 = .ok (.getfield 34, 3) := by decide +kernel
theorem dX8_leads_19 : decode cX8_leads 19 = .ok (.bipush 8, 2) := by decide +kernel
theorem dX8_leads_21 : decode cX8_leads 21 = .ok (.iload_n 1, 1) := by decide +kernel
theorem dX8_leads_22 : decode cX8_leads 22 = .ok (.imul, 1) := by decide +kernel
theorem dX8_leads_23 : decode cX8_leads 23 = .ok (.iload_n 2, 1) := by decide +kernel
theorem dX8_leads_24 : decode cX8_leads 24 = .ok (.iadd, 1) := by decide +kernel
theorem dX8_leads_25 : decode cX8_leads 25 = .ok (.iaload, 1) := by decide +kernel
theorem dX8_leads_26 : decode cX8_leads 26 = .ok (.goto 4, 3) := by decide +kernel
theorem dX8_leads_29 : decode cX8_leads 29 = .ok (.iconst (-1), 1) := by decide +kernel
theorem dX8_leads_30 : decode cX8_leads 30 = .ok (.ireturn, 1) := by decide +kernel
theorem dX8_isBarred_0 : decode cX8_isBarred 0 = .ok (.aload_n 0, 1) := by decide +kernel
theorem dX8_isBarred_1 : decode cX8_isBarred 1 = .ok (.getfield 34, 3) := by decide +kernel
theorem dX8_isBarred_4 : decode cX8_isBarred 4 = .ok (.bipush 8, 2) := by decide +kernel
theorem dX8_isBarred_6 : decode cX8_isBarred 6 = .ok (.iload_n 1, 1) := by decide +kernel
theorem dX8_isBarred_7 : decode cX8_isBarred 7 = .ok (.imul, 1) := by decide +kernel
theorem dX8_isBarred_8 : decode cX8_isBarred 8 = .ok (.iload_n 2, 1) := by decide +kernel
theorem dX8_isBarred_9 : decode cX8_isBarred 9 = .ok (.iadd, 1) := by decide +kernel
theorem dX8_isBarred_10 : decode cX8_isBarred 10 = .ok (.iaload, 1) := by decide +kernel
theorem dX8_isBarred_11 : decode cX8_isBarred 11 = .ok (.istore_n 3, 1) := by decide +kernel
theorem dX8_isBarred_12 : decode cX8_isBarred 12 = .ok (.iload_n 3, 1) := by decide +kernel
theorem dX8_isBarred_13 : decode cX8_isBarred 13 = .ok (.bipush (-9), 2) := by decide +kernel
theorem dX8_isBarred_15 : decode cX8_isBarred 15 = .ok (.if_icmp .eq 18, 3) := by decide +kernel
theorem dX8_isBarred_18 : decode cX8_isBarred 18 = .ok (.aload_n 0, 1) := by decide +kernel
theorem dX8_isBarred_19 : decode cX8_isBarred 19 = .ok (.getfield 37, 3) := by decide +kernel
theorem dX8_isBarred_22 : decode cX8_isBarred 22 = .ok (.iload_n 3, 1) := by decide +kernel
theorem dX8_isBarred_23 : decode cX8_isBarred 23 = .ok (.iaload, 1) := by decide +kernel
theorem dX8_isBarred_24 : decode cX8_isBarred 24 = .ok (.bipush (-9), 2) := by decide +kernel
theorem dX8_isBarred_26 : decode cX8_isBarred 26 = .ok (.if_icmp .eq 7, 3) := by decide +kernel
theorem dX8_isBarred_29 : decode cX8_isBarred 29 = .ok (.iconst 1, 1) := by decide +kernel
theorem dX8_isBarred_30 : decode cX8_isBarred 30 = .ok (.goto 4, 3) := by decide +kernel
theorem dX8_isBarred_33 : decode cX8_isBarred 33 = .ok (.iconst 0, 1) := by decide +kernel
theorem dX8_isBarred_34 : decode cX8_isBarred 34 = .ok (.ireturn, 1) := by decide +kernel
theorem dX8_eventsAt_0 : decode cX8_eventsAt 0 = .ok (.iconst 0, 1) := by decide +kernel
theorem dX8_eventsAt_1 : decode cX8_eventsAt 1 = .ok (.istore_n 3, 1) := by decide +kernel
theorem dX8_eventsAt_2 : decode cX8_eventsAt 2 = .ok (.iconst 0, 1) := by decide +kernel
theorem dX8_eventsAt_3 : decode cX8_eventsAt 3 = .ok (.istore 4, 2) := by decide +kernel
theorem dX8_eventsAt_5 : decode cX8_eventsAt 5 = .ok (.iload 4, 2) := by decide +kernel
theorem dX8_eventsAt_7 : decode cX8_eventsAt 7 = .ok (.bipush 8, 2) := by decide +kernel
theorem dX8_eventsAt_9 : decode cX8_eventsAt 9 = .ok (.if_icmp .ge 79, 3) := by decide +kernel
theorem dX8_eventsAt_12 : decode cX8_eventsAt 12 = .ok (.iload_n 2, 1) := by decide +kernel
theorem dX8_eventsAt_13 : decode cX8_eventsAt 13 = .ok (.iconst 1, 1) := by decide +kernel
theorem dX8_eventsAt_14 : decode cX8_eventsAt 14 = .ok (.if_icmp .ne 28, 3) := by decide +kernel
theorem dX8_eventsAt_17 : decode cX8_eventsAt 17 = .ok (.aload_n 0, 1) := by decide +kernel
theorem dX8_eventsAt_18 : decode cX8_eventsAt 18 = .ok (.getfield 34, 3) := by decide +kernel
theorem dX8_eventsAt_21 : decode cX8_eventsAt 21 = .ok (.bipush 8, 2) := by decide +kernel
theorem dX8_eventsAt_23 : decode cX8_eventsAt 23 = .ok (.iload_n 1, 1) := by decide +kernel
theorem dX8_eventsAt_24 : decode cX8_eventsAt 24 = .ok (.imul, 1) := by decide +kernel
theorem dX8_eventsAt_25 : decode cX8_eventsAt 25 = .ok (.iload 4, 2) := by decide +kernel
theorem dX8_eventsAt_27 : decode cX8_eventsAt 27 = .ok (.iadd, 1) := by decide +kernel
theorem dX8_eventsAt_28 : decode cX8_eventsAt 28 = .ok (.iaload, 1) := by decide +kernel
theorem dX8_eventsAt_29 : decode cX8_eventsAt 29 = .ok (.bipush (-9), 2) := by decide +kernel
theorem dX8_eventsAt_31 : decode cX8_eventsAt 31 = .ok (.if_icmp .eq 7, 3) := by decide +kernel
theorem dX8_eventsAt_34 : decode cX8_eventsAt 34 = .ok (.iconst 1, 1) := by decide +kernel
theorem dX8_eventsAt_35 : decode cX8_eventsAt 35 = .ok (.goto 29, 3) := by decide +kernel
theorem dX8_eventsAt_38 : decode cX8_eventsAt 38 = .ok (.iconst 0, 1) := by decide +kernel
theorem dX8_eventsAt_39 : decode cX8_eventsAt 39 = .ok (.goto 25, 3) := by decide +kernel
theorem dX8_eventsAt_42 : decode cX8_eventsAt 42 = .ok (.iload_n 2, 1) := by decide +kernel
theorem dX8_eventsAt_43 : decode cX8_eventsAt 43 = .ok (.iconst 2, 1) := by decide +kernel
theorem dX8_eventsAt_44 : decode cX8_eventsAt 44 = .ok (.if_icmp .ne 13, 3) := by decide +kernel
theorem dX8_eventsAt_47 : decode cX8_eventsAt 47 = .ok (.aload_n 0, 1) := by decide +kernel
theorem dX8_eventsAt_48 : decode cX8_eventsAt 48 = .ok (.iload_n 1, 1) := by decide +kernel
theorem dX8_eventsAt_49 : decode cX8_eventsAt 49 = .ok (.iload 4, 2) := by decide +kernel
theorem dX8_eventsAt_51 : decode cX8_eventsAt 51 = .ok (.invokevirtual 141, 3) := by decide +kernel
theorem dX8_eventsAt_54 : decode cX8_eventsAt 54 = .ok (.goto 10, 3) := by decide +kernel
theorem dX8_eventsAt_57 : decode cX8_eventsAt 57 = .ok (.aload_n 0, 1) := by decide +kernel
theorem dX8_eventsAt_58 : decode cX8_eventsAt 58 = .ok (.iload_n 1, 1) := by decide +kernel
theorem dX8_eventsAt_59 : decode cX8_eventsAt 59 = .ok (.iload 4, 2) := by decide +kernel
theorem dX8_eventsAt_61 : decode cX8_eventsAt 61 = .ok (.invokevirtual 186, 3) := by decide +kernel
theorem dX8_eventsAt_64 : decode cX8_eventsAt 64 = .ok (.istore 5, 2) := by decide +kernel
theorem dX8_eventsAt_66 : decode cX8_eventsAt 66 = .ok (.iload_n 3, 1) := by decide +kernel
theorem dX8_eventsAt_67 : decode cX8_eventsAt 67 = .ok (.iload 5, 2) := by decide +kernel
theorem dX8_eventsAt_69 : decode cX8_eventsAt 69 = .ok (.ifCond .eq 10, 3) := by decide +kernel
theorem dX8_eventsAt_72 : decode cX8_eventsAt 72 = .ok (.iconst 1, 1) := by decide +kernel
theorem dX8_eventsAt_73 : decode cX8_eventsAt 73 = .ok (.iload 4, 2) := by decide +kernel
theorem dX8_eventsAt_75 : decode cX8_eventsAt 75 = .ok (.ishl, 1) := by decide +kernel
theorem dX8_eventsAt_76 : decode cX8_eventsAt 76 = .ok (.goto 4, 3) := by decide +kernel
theorem dX8_eventsAt_79 : decode cX8_eventsAt 79 = .ok (.iconst 0, 1) := by decide +kernel
theorem dX8_eventsAt_80 : decode cX8_eventsAt 80 = .ok (.ior, 1) := by decide +kernel
theorem dX8_eventsAt_81 : decode cX8_eventsAt 81 = .ok (.istore_n 3, 1) := by decide +kernel
theorem dX8_eventsAt_82 : decode cX8_eventsAt 82 = .ok (.iinc 4 1, 3) := by decide +kernel
theorem dX8_eventsAt_85 : decode cX8_eventsAt 85 = .ok (.goto (-80), 3) := by decide +kernel
theorem dX8_eventsAt_88 : decode cX8_eventsAt 88 = .ok (.iload_n 3, 1) := by decide +kernel
theorem dX8_eventsAt_89 : decode cX8_eventsAt 89 = .ok (.ireturn, 1) := by decide +kernel
theorem dX8_joint_0 : decode cX8_joint 0 = .ok (.aload_n 0, 1) := by decide +kernel
theorem dX8_joint_1 : decode cX8_joint 1 = .ok (.iload_n 1, 1) := by decide +kernel
theorem dX8_joint_2 : decode cX8_joint 2 = .ok (.invokevirtual 183, 3) := by decide +kernel
theorem dX8_joint_5 : decode cX8_joint 5 = .ok (.ifCond .ne 5, 3) := by decide +kernel
theorem dX8_joint_8 : decode cX8_joint 8 = .ok (.iconst (-1), 1) := by decide +kernel
theorem dX8_joint_9 : decode cX8_joint 9 = .ok (.ireturn, 1) := by decide +kernel
theorem dX8_joint_10 : decode cX8_joint 10 = .ok (.iload_n 2, 1) := by decide +kernel
theorem dX8_joint_11 : decode cX8_joint 11 = .ok (.tableswitch 127 0 6 #[41, 59, 59, 66, 83, 98, 105], 41) := by decide +kernel
theorem dX8_joint_52 : decode cX8_joint 52 = .ok (.aload_n 0, 1) := by decide +kernel
theorem dX8_joint_53 : decode cX8_joint 53 = .ok (.iload_n 1, 1) := by decide +kernel
theorem dX8_joint_54 : decode cX8_joint 54 = .ok (.aload_n 0, 1) := by decide +kernel
theorem dX8_joint_55 : decode cX8_joint 55 = .ok (.invokevirtual 155, 3) := by decide +kernel
theorem dX8_joint_58 : decode cX8_joint 58 = .ok (.invokevirtual 152, 3) := by decide +kernel
theorem dX8_joint_61 : decode cX8_joint 61 = .ok (.ifCond .eq 7, 3) := by decide +kernel
theorem dX8_joint_64 : decode cX8_joint 64 = .ok (.iconst 1, 1) := by decide +kernel
theorem dX8_joint_65 : decode cX8_joint 65 = .ok (.goto 4, 3) := by decide +kernel
theorem dX8_joint_68 : decode cX8_joint 68 = .ok (.iconst 0, 1) := by decide +kernel
theorem dX8_joint_69 : decode cX8_joint 69 = .ok (.ireturn, 1) := by decide +kernel
theorem dX8_joint_70 : decode cX8_joint 70 = .ok (.aload_n 0, 1) := by decide +kernel
theorem dX8_joint_71 : decode cX8_joint 71 = .ok (.iload_n 1, 1) := by decide +kernel
theorem dX8_joint_72 : decode cX8_joint 72 = .ok (.iload_n 2, 1) := by decide +kernel
theorem dX8_joint_73 : decode cX8_joint 73 = .ok (.invokevirtual 189, 3) := by decide +kernel
theorem dX8_joint_76 : decode cX8_joint 76 = .ok (.ireturn, 1) := by decide +kernel
theorem dX8_joint_77 : decode cX8_joint 77 = .ok (.aload_n 0, 1) := by decide +kernel
theorem dX8_joint_78 : decode cX8_joint 78 = .ok (.getfield 37, 3) := by decide +kernel
theorem dX8_joint_81 : decode cX8_joint 81 = .ok (.iload_n 1, 1) := by decide +kernel
theorem dX8_joint_82 : decode cX8_joint 82 = .ok (.iaload, 1) := by decide +kernel
theorem dX8_joint_83 : decode cX8_joint 83 = .ok (.bipush (-9), 2) := by decide +kernel
theorem dX8_joint_85 : decode cX8_joint 85 = .ok (.if_icmp .ne 7, 3) := by decide +kernel
theorem dX8_joint_88 : decode cX8_joint 88 = .ok (.iconst 1, 1) := by decide +kernel
theorem dX8_joint_89 : decode cX8_joint 89 = .ok (.goto 4, 3) := by decide +kernel
theorem dX8_joint_92 : decode cX8_joint 92 = .ok (.iconst 0, 1) := by decide +kernel
theorem dX8_joint_93 : decode cX8_joint 93 = .ok (.ireturn, 1) := by decide +kernel
theorem dX8_joint_94 : decode cX8_joint 94 = .ok (.aload_n 0, 1) := by decide +kernel
theorem dX8_joint_95 : decode cX8_joint 95 = .ok (.getfield 50, 3) := by decide +kernel
theorem dX8_joint_98 : decode cX8_joint 98 = .ok (.iload_n 1, 1) := by decide +kernel
theorem dX8_joint_99 : decode cX8_joint 99 = .ok (.baload, 1) := by decide +kernel
theorem dX8_joint_100 : decode cX8_joint 100 = .ok (.ifCond .eq 7, 3) := by decide +kernel
theorem dX8_joint_103 : decode cX8_joint 103 = .ok (.iconst 1, 1) := by decide +kernel
theorem dX8_joint_104 : decode cX8_joint 104 = .ok (.goto 4, 3) := by decide +kernel
theorem dX8_joint_107 : decode cX8_joint 107 = .ok (.iconst 0, 1) := by decide +kernel
theorem dX8_joint_108 : decode cX8_joint 108 = .ok (.ireturn, 1) := by decide +kernel
theorem dX8_joint_109 : decode cX8_joint 109 = .ok (.aload_n 0, 1) := by decide +kernel
theorem dX8_joint_110 : decode cX8_joint 110 = .ok (.getfield 37, 3) := by decide +kernel
theorem dX8_joint_113 : decode cX8_joint 113 = .ok (.iload_n 1, 1) := by decide +kernel
theorem dX8_joint_114 : decode cX8_joint 114 = .ok (.iaload, 1) := by decide +kernel
theorem dX8_joint_115 : decode cX8_joint 115 = .ok (.ireturn, 1) := by decide +kernel
theorem dX8_joint_116 : decode cX8_joint 116 = .ok (.aload_n 0, 1) := by decide +kernel
theorem dX8_joint_117 : decode cX8_joint 117 = .ok (.getfield 50, 3) := by decide +kernel
theorem dX8_joint_120 : decode cX8_joint 120 = .ok (.iload_n 1, 1) := by decide +kernel
theorem dX8_joint_121 : decode cX8_joint 121 = .ok (.baload, 1) := by decide +kernel
theorem dX8_joint_122 : decode cX8_joint 122 = .ok (.ifCond .eq 13, 3) := by decide +kernel
theorem dX8_joint_125 : decode cX8_joint 125 = .ok (.aload_n 0, 1) := by decide +kernel
theorem dX8_joint_126 : decode cX8_joint 126 = .ok (.iload_n 1, 1) := by decide +kernel
theorem dX8_joint_127 : decode cX8_joint 127 = .ok (.bipush 6, 2) := by decide +kernel
theorem dX8_joint_129 : decode cX8_joint 129 = .ok (.invokevirtual 189, 3) := by decide +kernel
theorem dX8_joint_132 : decode cX8_joint 132 = .ok (.goto 5, 3) := by decide +kernel
theorem dX8_joint_135 : decode cX8_joint 135 = .ok (.bipush (-9), 2) := by decide +kernel
theorem dX8_joint_137 : decode cX8_joint 137 = .ok (.ireturn, 1) := by decide +kernel
theorem dX8_joint_138 : decode cX8_joint 138 = .ok (.bipush (-2), 2) := by decide +kernel
theorem dX8_joint_140 : decode cX8_joint 140 = .ok (.ireturn, 1) := by decide +kernel
theorem dX8_why_0 : decode cX8_why 0 = .ok (.aload_n 0, 1) := by decide +kernel
theorem dX8_why_1 : decode cX8_why 1 = .ok (.iload_n 1, 1) := by decide +kernel
theorem dX8_why_2 : decode cX8_why 2 = .ok (.invokevirtual 183, 3) := by decide +kernel
theorem dX8_why_5 : decode cX8_why 5 = .ok (.ifCond .ne 5, 3) := by decide +kernel
theorem dX8_why_8 : decode cX8_why 8 = .ok (.iconst (-1), 1) := by decide +kernel
theorem dX8_why_9 : decode cX8_why 9 = .ok (.ireturn, 1) := by decide +kernel
theorem dX8_why_10 : decode cX8_why 10 = .ok (.iload_n 2, 1) := by decide +kernel
theorem dX8_why_11 : decode cX8_why 11 = .ok (.iconst 0, 1) := by decide +kernel
theorem dX8_why_12 : decode cX8_why 12 = .ok (.sipush 149, 3) := by decide +kernel
theorem dX8_why_15 : decode cX8_why 15 = .ok (.invokestatic 59, 3) := by decide +kernel
theorem dX8_why_18 : decode cX8_why 18 = .ok (.ifCond .eq 12, 3) := by decide +kernel
theorem dX8_why_21 : decode cX8_why 21 = .ok (.iload_n 3, 1) := by decide +kernel
theorem dX8_why_22 : decode cX8_why 22 = .ok (.iconst 0, 1) := by decide +kernel
theorem dX8_why_23 : decode cX8_why 23 = .ok (.iconst 2, 1) := by decide +kernel
theorem dX8_why_24 : decode cX8_why 24 = .ok (.invokestatic 59, 3) := by decide +kernel
theorem dX8_why_27 : decode cX8_why 27 = .ok (.ifCond .ne 6, 3) := by decide +kernel
theorem dX8_why_30 : decode cX8_why 30 = .ok (.bipush (-2), 2) := by decide +kernel
theorem dX8_why_32 : decode cX8_why 32 = .ok (.ireturn, 1) := by decide +kernel
theorem dX8_why_33 : decode cX8_why 33 = .ok (.iload_n 1, 1) := by decide +kernel
theorem dX8_why_34 : decode cX8_why 34 = .ok (.istore 4, 2) := by decide +kernel
theorem dX8_why_36 : decode cX8_why 36 = .ok (.aload_n 0, 1) := by decide +kernel
theorem dX8_why_37 : decode cX8_why 37 = .ok (.getfield 37, 3) := by decide +kernel
theorem dX8_why_40 : decode cX8_why 40 = .ok (.iload 4, 2) := by decide +kernel
theorem dX8_why_42 : decode cX8_why 42 = .ok (.iaload, 1) := by decide +kernel
theorem dX8_why_43 : decode cX8_why 43 = .ok (.bipush (-9), 2) := by decide +kernel
theorem dX8_why_45 : decode cX8_why 45 = .ok (.if_icmp .ne 6, 3) := by decide +kernel
theorem dX8_why_48 : decode cX8_why 48 = .ok (.bipush (-9), 2) := by decide +kernel
theorem dX8_why_50 : decode cX8_why 50 = .ok (.ireturn, 1) := by decide +kernel
theorem dX8_why_51 : decode cX8_why 51 = .ok (.iconst 0, 1) := by decide +kernel
theorem dX8_why_52 : decode cX8_why 52 = .ok (.istore 5, 2) := by decide +kernel
theorem dX8_why_54 : decode cX8_why 54 = .ok (.iload 5, 2) := by decide +kernel
theorem dX8_why_56 : decode cX8_why 56 = .ok (.iload_n 2, 1) := by decide +kernel
theorem dX8_why_57 : decode cX8_why 57 = .ok (.if_icmp .ge 43, 3) := by decide +kernel
theorem dX8_why_60 : decode cX8_why 60 = .ok (.aload_n 0, 1) := by decide +kernel
theorem dX8_why_61 : decode cX8_why 61 = .ok (.getfield 40, 3) := by decide +kernel
theorem dX8_why_64 : decode cX8_why 64 = .ok (.iload 4, 2) := by decide +kernel
theorem dX8_why_66 : decode cX8_why 66 = .ok (.iaload, 1) := by decide +kernel
theorem dX8_why_67 : decode cX8_why 67 = .ok (.iconst 2, 1) := by decide +kernel
theorem dX8_why_68 : decode cX8_why 68 = .ok (.if_icmp .eq 6, 3) := by decide +kernel
theorem dX8_why_71 : decode cX8_why 71 = .ok (.bipush (-9), 2) := by decide +kernel
theorem dX8_why_73 : decode cX8_why 73 = .ok (.ireturn, 1) := by decide +kernel
theorem dX8_why_74 : decode cX8_why 74 = .ok (.aload_n 0, 1) := by decide +kernel
theorem dX8_why_75 : decode cX8_why 75 = .ok (.getfield 34, 3) := by decide +kernel
theorem dX8_why_78 : decode cX8_why 78 = .ok (.bipush 8, 2) := by decide +kernel
theorem dX8_why_80 : decode cX8_why 80 = .ok (.iload 4, 2) := by decide +kernel
theorem dX8_why_82 : decode cX8_why 82 = .ok (.imul, 1) := by decide +kernel
theorem dX8_why_83 : decode cX8_why 83 = .ok (.aload_n 0, 1) := by decide +kernel
theorem dX8_why_84 : decode cX8_why 84 = .ok (.getfield 43, 3) := by decide +kernel
theorem dX8_why_87 : decode cX8_why 87 = .ok (.iload 4, 2) := by decide +kernel
theorem dX8_why_89 : decode cX8_why 89 = .ok (.iaload, 1) := by decide +kernel
theorem dX8_why_90 : decode cX8_why 90 = .ok (.iadd, 1) := by decide +kernel
theorem dX8_why_91 : decode cX8_why 91 = .ok (.iaload, 1) := by decide +kernel
theorem dX8_why_92 : decode cX8_why 92 = .ok (.istore 4, 2) := by decide +kernel
theorem dX8_why_94 : decode cX8_why 94 = .ok (.iinc 5 1, 3) := by decide +kernel
theorem dX8_why_97 : decode cX8_why 97 = .ok (.goto (-43), 3) := by decide +kernel
theorem dX8_why_100 : decode cX8_why 100 = .ok (.iload_n 3, 1) := by decide +kernel
theorem dX8_why_101 : decode cX8_why 101 = .ok (.ifCond .ne 13, 3) := by decide +kernel
theorem dX8_why_104 : decode cX8_why 104 = .ok (.aload_n 0, 1) := by decide +kernel
theorem dX8_why_105 : decode cX8_why 105 = .ok (.getfield 40, 3) := by decide +kernel
theorem dX8_why_108 : decode cX8_why 108 = .ok (.iload 4, 2) := by decide +kernel
theorem dX8_why_110 : decode cX8_why 110 = .ok (.iaload, 1) := by decide +kernel
theorem dX8_why_111 : decode cX8_why 111 = .ok (.goto 20, 3) := by decide +kernel
theorem dX8_why_114 : decode cX8_why 114 = .ok (.iload_n 3, 1) := by decide +kernel
theorem dX8_why_115 : decode cX8_why 115 = .ok (.iconst 1, 1) := by decide +kernel
theorem dX8_why_116 : decode cX8_why 116 = .ok (.if_icmp .ne 13, 3) := by decide +kernel
theorem dX8_why_119 : decode cX8_why 119 = .ok (.aload_n 0, 1) := by decide +kernel
theorem dX8_why_120 : decode cX8_why 120 = .ok (.getfield 43, 3) := by decide +kernel
theorem dX8_why_123 : decode cX8_why 123 = .ok (.iload 4, 2) := by decide +kernel
theorem dX8_why_125 : decode cX8_why 125 = .ok (.iaload, 1) := by decide +kernel
theorem dX8_why_126 : decode cX8_why 126 = .ok (.goto 5, 3) := by decide +kernel
theorem dX8_why_129 : decode cX8_why 129 = .ok (.iload 4, 2) := by decide +kernel
theorem dX8_why_131 : decode cX8_why 131 = .ok (.ireturn, 1) := by decide +kernel
theorem dX8_wave_0 : decode cX8_wave 0 = .ok (.aload_n 0, 1) := by decide +kernel
theorem dX8_wave_1 : decode cX8_wave 1 = .ok (.invokevirtual 180, 3) := by decide +kernel
theorem dX8_wave_4 : decode cX8_wave 4 = .ok (.iload_n 1, 1) := by decide +kernel
theorem dX8_wave_5 : decode cX8_wave 5 = .ok (.iconst 0, 1) := by decide +kernel
theorem dX8_wave_6 : decode cX8_wave 6 = .ok (.aload_n 0, 1) := by decide +kernel
theorem dX8_wave_7 : decode cX8_wave 7 = .ok (.getfield 162, 3) := by decide +kernel
theorem dX8_wave_10 : decode cX8_wave 10 = .ok (.iconst 1, 1) := by decide +kernel
theorem dX8_wave_11 : decode cX8_wave 11 = .ok (.isub, 1) := by decide +kernel
theorem dX8_wave_12 : decode cX8_wave 12 = .ok (.invokestatic 59, 3) := by decide +kernel
theorem dX8_wave_15 : decode cX8_wave 15 = .ok (.ifCond .ne 5, 3) := by decide +kernel
theorem dX8_wave_18 : decode cX8_wave 18 = .ok (.iconst (-1), 1) := by decide +kernel
theorem dX8_wave_19 : decode cX8_wave 19 = .ok (.ireturn, 1) := by decide +kernel
theorem dX8_wave_20 : decode cX8_wave 20 = .ok (.iconst 0, 1) := by decide +kernel
theorem dX8_wave_21 : decode cX8_wave 21 = .ok (.istore_n 2, 1) := by decide +kernel
theorem dX8_wave_22 : decode cX8_wave 22 = .ok (.iconst 0, 1) := by decide +kernel
theorem dX8_wave_23 : decode cX8_wave 23 = .ok (.istore_n 3, 1) := by decide +kernel
theorem dX8_wave_24 : decode cX8_wave 24 = .ok (.iload_n 3, 1) := by decide +kernel
theorem dX8_wave_25 : decode cX8_wave 25 = .ok (.aload_n 0, 1) := by decide +kernel
theorem dX8_wave_26 : decode cX8_wave 26 = .ok (.getfield 131, 3) := by decide +kernel
theorem dX8_wave_29 : decode cX8_wave 29 = .ok (.if_icmp .ge 27, 3) := by decide +kernel
theorem dX8_wave_32 : decode cX8_wave 32 = .ok (.iload_n 2, 1) := by decide +kernel
theorem dX8_wave_33 : decode cX8_wave 33 = .ok (.aload_n 0, 1) := by decide +kernel
theorem dX8_wave_34 : decode cX8_wave 34 = .ok (.getfield 37, 3) := by decide +kernel
theorem dX8_wave_37 : decode cX8_wave 37 = .ok (.iload_n 3, 1) := by decide +kernel
theorem dX8_wave_38 : decode cX8_wave 38 = .ok (.iaload, 1) := by decide +kernel
theorem dX8_wave_39 : decode cX8_wave 39 = .ok (.iload_n 1, 1) := by decide +kernel
theorem dX8_wave_40 : decode cX8_wave 40 = .ok (.if_icmp .ne 7, 3) := by decide +kernel
theorem dX8_wave_43 : decode cX8_wave 43 = .ok (.iconst 1, 1) := by decide +kernel
theorem dX8_wave_44 : decode cX8_wave 44 = .ok (.goto 4, 3) := by decide +kernel
theorem dX8_wave_47 : decode cX8_wave 47 = .ok (.iconst 0, 1) := by decide +kernel
theorem dX8_wave_48 : decode cX8_wave 48 = .ok (.iadd, 1) := by decide +kernel
theorem dX8_wave_49 : decode cX8_wave 49 = .ok (.istore_n 2, 1) := by decide +kernel
theorem dX8_wave_50 : decode cX8_wave 50 = .ok (.iinc 3 1, 3) := by decide +kernel
theorem dX8_wave_53 : decode cX8_wave 53 = .ok (.goto (-29), 3) := by decide +kernel
theorem dX8_wave_56 : decode cX8_wave 56 = .ok (.iload_n 2, 1) := by decide +kernel
theorem dX8_wave_57 : decode cX8_wave 57 = .ok (.ireturn, 1) := by decide +kernel
theorem dX8_some_0 : decode cX8_some 0 = .ok (.iload_n 1, 1) := by decide +kernel
theorem dX8_some_1 : decode cX8_some 1 = .ok (.ifCond .lt 20, 3) := by decide +kernel
theorem dX8_some_4 : decode cX8_some 4 = .ok (.iload_n 1, 1) := by decide +kernel
theorem dX8_some_5 : decode cX8_some 5 = .ok (.aload_n 0, 1) := by decide +kernel
theorem dX8_some_6 : decode cX8_some 6 = .ok (.invokevirtual 155, 3) := by decide +kernel
theorem dX8_some_9 : decode cX8_some 9 = .ok (.if_icmp .gt 12, 3) := by decide +kernel
theorem dX8_some_12 : decode cX8_some 12 = .ok (.iload_n 2, 1) := by decide +kernel
theorem dX8_some_13 : decode cX8_some 13 = .ok (.iconst 0, 1) := by decide +kernel
theorem dX8_some_14 : decode cX8_some 14 = .ok (.iconst 1, 1) := by decide +kernel
theorem dX8_some_15 : decode cX8_some 15 = .ok (.invokestatic 59, 3) := by decide +kernel
theorem dX8_some_18 : decode cX8_some 18 = .ok (.ifCond .ne 6, 3) := by decide +kernel
theorem dX8_some_21 : decode cX8_some 21 = .ok (.bipush (-2), 2) := by decide +kernel
theorem dX8_some_23 : decode cX8_some 23 = .ok (.ireturn, 1) := by decide +kernel
theorem dX8_some_24 : decode cX8_some 24 = .ok (.aload_n 0, 1) := by decide +kernel
theorem dX8_some_25 : decode cX8_some 25 = .ok (.iconst 0, 1) := by decide +kernel
theorem dX8_some_26 : decode cX8_some 26 = .ok (.putfield 105, 3) := by decide +kernel
theorem dX8_some_29 : decode cX8_some 29 = .ok (.aload_n 0, 1) := by decide +kernel
theorem dX8_some_30 : decode cX8_some 30 = .ok (.iload_n 1, 1) := by decide +kernel
theorem dX8_some_31 : decode cX8_some 31 = .ok (.invokevirtual 165, 3) := by decide +kernel
theorem dX8_some_34 : decode cX8_some 34 = .ok (.ifCond .ne 6, 3) := by decide +kernel
theorem dX8_some_37 : decode cX8_some 37 = .ok (.bipush (-9), 2) := by decide +kernel
theorem dX8_some_39 : decode cX8_some 39 = .ok (.ireturn, 1) := by decide +kernel
theorem dX8_some_40 : decode cX8_some 40 = .ok (.iconst 0, 1) := by decide +kernel
theorem dX8_some_41 : decode cX8_some 41 = .ok (.istore_n 3, 1) := by decide +kernel
theorem dX8_some_42 : decode cX8_some 42 = .ok (.iload_n 3, 1) := by decide +kernel
theorem dX8_some_43 : decode cX8_some 43 = .ok (.aload_n 0, 1) := by decide +kernel
theorem dX8_some_44 : decode cX8_some 44 = .ok (.getfield 131, 3) := by decide +kernel
theorem dX8_some_47 : decode cX8_some 47 = .ok (.if_icmp .ge 17, 3) := by decide +kernel
theorem dX8_some_50 : decode cX8_some 50 = .ok (.aload_n 0, 1) := by decide +kernel
theorem dX8_some_51 : decode cX8_some 51 = .ok (.getfield 37, 3) := by decide +kernel
theorem dX8_some_54 : decode cX8_some 54 = .ok (.iload_n 3, 1) := by decide +kernel
theorem dX8_some_55 : decode cX8_some 55 = .ok (.bipush (-9), 2) := by decide +kernel
theorem dX8_some_57 : decode cX8_some 57 = .ok (.iastore, 1) := by decide +kernel
theorem dX8_some_58 : decode cX8_some 58 = .ok (.iinc 3 1, 3) := by decide +kernel
theorem dX8_some_61 : decode cX8_some 61 = .ok (.goto (-19), 3) := by decide +kernel
theorem dX8_some_64 : decode cX8_some 64 = .ok (.aload_n 0, 1) := by decide +kernel
theorem dX8_some_65 : decode cX8_some 65 = .ok (.iload_n 1, 1) := by decide +kernel
theorem dX8_some_66 : decode cX8_some 66 = .ok (.invokevirtual 158, 3) := by decide +kernel
theorem dX8_some_69 : decode cX8_some 69 = .ok (.iconst 0, 1) := by decide +kernel
theorem dX8_some_70 : decode cX8_some 70 = .ok (.istore_n 3, 1) := by decide +kernel
theorem dX8_some_71 : decode cX8_some 71 = .ok (.iconst 0, 1) := by decide +kernel
theorem dX8_some_72 : decode cX8_some 72 = .ok (.istore 4, 2) := by decide +kernel
theorem dX8_some_74 : decode cX8_some 74 = .ok (.iload 4, 2) := by decide +kernel
theorem dX8_some_76 : decode cX8_some 76 = .ok (.aload_n 0, 1) := by decide +kernel
theorem dX8_some_77 : decode cX8_some 77 = .ok (.getfield 131, 3) := by decide +kernel
theorem dX8_some_80 : decode cX8_some 80 = .ok (.if_icmp .ge 27, 3) := by decide +kernel
theorem dX8_some_83 : decode cX8_some 83 = .ok (.iload_n 3, 1) := by decide +kernel
theorem dX8_some_84 : decode cX8_some 84 = .ok (.aload_n 0, 1) := by decide +kernel
theorem dX8_some_85 : decode cX8_some 85 = .ok (.getfield 46, 3) := by decide +kernel
theorem dX8_some_88 : decode cX8_some 88 = .ok (.iload 4, 2) := by decide +kernel
theorem dX8_some_90 : decode cX8_some 90 = .ok (.baload, 1) := by decide +kernel
theorem dX8_some_91 : decode cX8_some 91 = .ok (.ifCond .eq 7, 3) := by decide +kernel
theorem dX8_some_94 : decode cX8_some 94 = .ok (.iconst 0, 1) := by decide +kernel
theorem dX8_some_95 : decode cX8_some 95 = .ok (.goto 4, 3) := by decide +kernel
theorem dX8_some_98 : decode cX8_some 98 = .ok (.iconst 1, 1) := by decide +kernel
theorem dX8_some_99 : decode cX8_some 99 = .ok (.iadd, 1) := by decide +kernel
theorem dX8_some_100 : decode cX8_some 100 = .ok (.istore_n 3, 1) := by decide +kernel
theorem dX8_some_101 : decode cX8_some 101 = .ok (.iinc 4 1, 3) := by decide +kernel
theorem dX8_some_104 : decode cX8_some 104 = .ok (.goto (-30), 3) := by decide +kernel
theorem dX8_some_107 : decode cX8_some 107 = .ok (.iload_n 2, 1) := by decide +kernel
theorem dX8_some_108 : decode cX8_some 108 = .ok (.ifCond .ne 10, 3) := by decide +kernel
theorem dX8_some_111 : decode cX8_some 111 = .ok (.aload_n 0, 1) := by decide +kernel
theorem dX8_some_112 : decode cX8_some 112 = .ok (.getfield 131, 3) := by decide +kernel
theorem dX8_some_115 : decode cX8_some 115 = .ok (.goto 4, 3) := by decide +kernel
theorem dX8_some_118 : decode cX8_some 118 = .ok (.iload_n 3, 1) := by decide +kernel
theorem dX8_some_119 : decode cX8_some 119 = .ok (.ireturn, 1) := by decide +kernel
theorem dX8_isShut_0 : decode cX8_isShut 0 = .ok (.aload_n 0, 1) := by decide +kernel
theorem dX8_isShut_1 : decode cX8_isShut 1 = .ok (.invokevirtual 180, 3) := by decide +kernel
theorem dX8_isShut_4 : decode cX8_isShut 4 = .ok (.aload_n 0, 1) := by decide +kernel
theorem dX8_isShut_5 : decode cX8_isShut 5 = .ok (.getfield 131, 3) := by decide +kernel
theorem dX8_isShut_8 : decode cX8_isShut 8 = .ok (.ifCond .eq 12, 3) := by decide +kernel
theorem dX8_isShut_11 : decode cX8_isShut 11 = .ok (.aload_n 0, 1) := by decide +kernel
theorem dX8_isShut_12 : decode cX8_isShut 12 = .ok (.getfield 50, 3) := by decide +kernel
theorem dX8_isShut_15 : decode cX8_isShut 15 = .ok (.iconst 0, 1) := by decide +kernel
theorem dX8_isShut_16 : decode cX8_isShut 16 = .ok (.baload, 1) := by decide +kernel
theorem dX8_isShut_17 : decode cX8_isShut 17 = .ok (.ifCond .ne 7, 3) := by decide +kernel
theorem dX8_isShut_20 : decode cX8_isShut 20 = .ok (.iconst 1, 1) := by decide +kernel
theorem dX8_isShut_21 : decode cX8_isShut 21 = .ok (.goto 4, 3) := by decide +kernel
theorem dX8_isShut_24 : decode cX8_isShut 24 = .ok (.iconst 0, 1) := by decide +kernel
theorem dX8_isShut_25 : decode cX8_isShut 25 = .ok (.ireturn, 1) := by decide +kernel
theorem dX8_go_0 : decode cX8_go 0 = .ok (.iload_n 1, 1) := by decide +kernel
theorem dX8_go_1 : decode cX8_go 1 = .ok (.invokestatic 115, 3) := by decide +kernel
theorem dX8_go_4 : decode cX8_go 4 = .ok (.ifCond .ne 5, 3) := by decide +kernel
theorem dX8_go_7 : decode cX8_go 7 = .ok (.iconst (-1), 1) := by decide +kernel
theorem dX8_go_8 : decode cX8_go 8 = .ok (.ireturn, 1) := by decide +kernel
theorem dX8_go_9 : decode cX8_go 9 = .ok (.aload_n 0, 1) := by decide +kernel
theorem dX8_go_10 : decode cX8_go 10 = .ok (.invokevirtual 192, 3) := by decide +kernel
theorem dX8_go_13 : decode cX8_go 13 = .ok (.ifCond .eq 6, 3) := by decide +kernel
theorem dX8_go_16 : decode cX8_go 16 = .ok (.bipush (-3), 2) := by decide +kernel
theorem dX8_go_18 : decode cX8_go 18 = .ok (.ireturn, 1) := by decide +kernel
theorem dX8_go_19 : decode cX8_go 19 = .ok (.aload_n 0, 1) := by decide +kernel
theorem dX8_go_20 : decode cX8_go 20 = .ok (.getfield 34, 3) := by decide +kernel
theorem dX8_go_23 : decode cX8_go 23 = .ok (.bipush 8, 2) := by decide +kernel
theorem dX8_go_25 : decode cX8_go 25 = .ok (.aload_n 0, 1) := by decide +kernel
theorem dX8_go_26 : decode cX8_go 26 = .ok (.getfield 109, 3) := by decide +kernel
theorem dX8_go_29 : decode cX8_go 29 = .ok (.imul, 1) := by decide +kernel
theorem dX8_go_30 : decode cX8_go 30 = .ok (.iload_n 1, 1) := by decide +kernel
theorem dX8_go_31 : decode cX8_go 31 = .ok (.iadd, 1) := by decide +kernel
theorem dX8_go_32 : decode cX8_go 32 = .ok (.iaload, 1) := by decide +kernel
theorem dX8_go_33 : decode cX8_go 33 = .ok (.istore_n 2, 1) := by decide +kernel
theorem dX8_go_34 : decode cX8_go 34 = .ok (.iload_n 2, 1) := by decide +kernel
theorem dX8_go_35 : decode cX8_go 35 = .ok (.bipush (-9), 2) := by decide +kernel
theorem dX8_go_37 : decode cX8_go 37 = .ok (.if_icmp .eq 14, 3) := by decide +kernel
theorem dX8_go_40 : decode cX8_go 40 = .ok (.aload_n 0, 1) := by decide +kernel
theorem dX8_go_41 : decode cX8_go 41 = .ok (.getfield 37, 3) := by decide +kernel
theorem dX8_go_44 : decode cX8_go 44 = .ok (.iload_n 2, 1) := by decide +kernel
theorem dX8_go_45 : decode cX8_go 45 = .ok (.iaload, 1) := by decide +kernel
theorem dX8_go_46 : decode cX8_go 46 = .ok (.bipush (-9), 2) := by decide +kernel
theorem dX8_go_48 : decode cX8_go 48 = .ok (.if_icmp .eq 6, 3) := by decide +kernel
theorem dX8_go_51 : decode cX8_go 51 = .ok (.bipush (-9), 2) := by decide +kernel
theorem dX8_go_53 : decode cX8_go 53 = .ok (.ireturn, 1) := by decide +kernel
theorem dX8_go_54 : decode cX8_go 54 = .ok (.aload_n 0, 1) := by decide +kernel
theorem dX8_go_55 : decode cX8_go 55 = .ok (.getfield 112, 3) := by decide +kernel
theorem dX8_go_58 : decode cX8_go 58 = .ok (.bipush 16, 2) := by decide +kernel
theorem dX8_go_60 : decode cX8_go 60 = .ok (.if_icmp .ne 41, 3) := by decide +kernel
theorem dX8_go_63 : decode cX8_go 63 = .ok (.iconst 1, 1) := by decide +kernel
theorem dX8_go_64 : decode cX8_go 64 = .ok (.istore_n 3, 1) := by decide +kernel
theorem dX8_go_65 : decode cX8_go 65 = .ok (.iload_n 3, 1) := by decide +kernel
theorem dX8_go_66 : decode cX8_go 66 = .ok (.bipush 16, 2) := by decide +kernel
theorem dX8_go_68 : decode cX8_go 68 = .ok (.if_icmp .ge 23, 3) := by decide +kernel
theorem dX8_go_71 : decode cX8_go 71 = .ok (.aload_n 0, 1) := by decide +kernel
theorem dX8_go_72 : decode cX8_go 72 = .ok (.getfield 53, 3) := by decide +kernel
theorem dX8_go_75 : decode cX8_go 75 = .ok (.iload_n 3, 1) := by decide +kernel
theorem dX8_go_76 : decode cX8_go 76 = .ok (.iconst 1, 1) := by decide +kernel
theorem dX8_go_77 : decode cX8_go 77 = .ok (.isub, 1) := by decide +kernel
theorem dX8_go_78 : decode cX8_go 78 = .ok (.aload_n 0, 1) := by decide +kernel
theorem dX8_go_79 : decode cX8_go 79 = .ok (.getfield 53, 3) := by decide +kernel
theorem dX8_go_82 : decode cX8_go 82 = .ok (.iload_n 3, 1) := by decide +kernel
theorem dX8_go_83 : decode cX8_go 83 = .ok (.iaload, 1) := by decide +kernel
theorem dX8_go_84 : decode cX8_go 84 = .ok (.iastore, 1) := by decide +kernel
theorem dX8_go_85 : decode cX8_go 85 = .ok (.iinc 3 1, 3) := by decide +kernel
theorem dX8_go_88 : decode cX8_go 88 = .ok (.goto (-23), 3) := by decide +kernel
theorem dX8_go_91 : decode cX8_go 91 = .ok (.aload_n 0, 1) := by decide +kernel
theorem dX8_go_92 : decode cX8_go 92 = .ok (.dup, 1) := by decide +kernel
theorem dX8_go_93 : decode cX8_go 93 = .ok (.getfield 112, 3) := by decide +kernel
theorem dX8_go_96 : decode cX8_go 96 = .ok (.iconst 1, 1) := by decide +kernel
theorem dX8_go_97 : decode cX8_go 97 = .ok (.isub, 1) := by decide +kernel
theorem dX8_go_98 : decode cX8_go 98 = .ok (.putfield 112, 3) := by decide +kernel
theorem dX8_go_101 : decode cX8_go 101 = .ok (.aload_n 0, 1) := by decide +kernel
theorem dX8_go_102 : decode cX8_go 102 = .ok (.getfield 53, 3) := by decide +kernel
theorem dX8_go_105 : decode cX8_go 105 = .ok (.aload_n 0, 1) := by decide +kernel
theorem dX8_go_106 : decode cX8_go 106 = .ok (.getfield 112, 3) := by decide +kernel
theorem dX8_go_109 : decode cX8_go 109 = .ok (.aload_n 0, 1) := by decide +kernel
theorem dX8_go_110 : decode cX8_go 110 = .ok (.getfield 109, 3) := by decide +kernel
theorem dX8_go_113 : decode cX8_go 113 = .ok (.iastore, 1) := by decide +kernel
theorem dX8_go_114 : decode cX8_go 114 = .ok (.aload_n 0, 1) := by decide +kernel
theorem dX8_go_115 : decode cX8_go 115 = .ok (.dup, 1) := by decide +kernel
theorem dX8_go_116 : decode cX8_go 116 = .ok (.getfield 112, 3) := by decide +kernel
theorem dX8_go_119 : decode cX8_go 119 = .ok (.iconst 1, 1) := by decide +kernel
theorem dX8_go_120 : decode cX8_go 120 = .ok (.iadd, 1) := by decide +kernel
theorem dX8_go_121 : decode cX8_go 121 = .ok (.putfield 112, 3) := by decide +kernel
theorem dX8_go_124 : decode cX8_go 124 = .ok (.aload_n 0, 1) := by decide +kernel
theorem dX8_go_125 : decode cX8_go 125 = .ok (.iload_n 2, 1) := by decide +kernel
theorem dX8_go_126 : decode cX8_go 126 = .ok (.putfield 109, 3) := by decide +kernel
theorem dX8_go_129 : decode cX8_go 129 = .ok (.aload_n 0, 1) := by decide +kernel
theorem dX8_go_130 : decode cX8_go 130 = .ok (.getfield 109, 3) := by decide +kernel
theorem dX8_go_133 : decode cX8_go 133 = .ok (.ireturn, 1) := by decide +kernel
theorem dX8_back_0 : decode cX8_back 0 = .ok (.aload_n 0, 1) := by decide +kernel
theorem dX8_back_1 : decode cX8_back 1 = .ok (.getfield 112, 3) := by decide +kernel
theorem dX8_back_4 : decode cX8_back 4 = .ok (.ifCond .ne 6, 3) := by decide +kernel
theorem dX8_back_7 : decode cX8_back 7 = .ok (.bipush (-3), 2) := by decide +kernel
theorem dX8_back_9 : decode cX8_back 9 = .ok (.ireturn, 1) := by decide +kernel
theorem dX8_back_10 : decode cX8_back 10 = .ok (.aload_n 0, 1) := by decide +kernel
theorem dX8_back_11 : decode cX8_back 11 = .ok (.dup, 1) := by decide +kernel
theorem dX8_back_12 : decode cX8_back 12 = .ok (.getfield 112, 3) := by decide +kernel
theorem dX8_back_15 : decode cX8_back 15 = .ok (.iconst 1, 1) := by decide +kernel
theorem dX8_back_16 : decode cX8_back 16 = .ok (.isub, 1) := by decide +kernel
theorem dX8_back_17 : decode cX8_back 17 = .ok (.putfield 112, 3) := by decide +kernel
theorem dX8_back_20 : decode cX8_back 20 = .ok (.aload_n 0, 1) := by decide +kernel
theorem dX8_back_21 : decode cX8_back 21 = .ok (.aload_n 0, 1) := by decide +kernel
theorem dX8_back_22 : decode cX8_back 22 = .ok (.getfield 53, 3) := by decide +kernel
theorem dX8_back_25 : decode cX8_back 25 = .ok (.aload_n 0, 1) := by decide +kernel
theorem dX8_back_26 : decode cX8_back 26 = .ok (.getfield 112, 3) := by decide +kernel
theorem dX8_back_29 : decode cX8_back 29 = .ok (.iaload, 1) := by decide +kernel
theorem dX8_back_30 : decode cX8_back 30 = .ok (.putfield 109, 3) := by decide +kernel
theorem dX8_back_33 : decode cX8_back 33 = .ok (.aload_n 0, 1) := by decide +kernel
theorem dX8_back_34 : decode cX8_back 34 = .ok (.getfield 109, 3) := by decide +kernel
theorem dX8_back_37 : decode cX8_back 37 = .ok (.ireturn, 1) := by decide +kernel
theorem dX8_at_0 : decode cX8_at 0 = .ok (.aload_n 0, 1) := by decide +kernel
theorem dX8_at_1 : decode cX8_at 1 = .ok (.invokevirtual 192, 3) := by decide +kernel
theorem dX8_at_4 : decode cX8_at 4 = .ok (.ifCond .eq 8, 3) := by decide +kernel
theorem dX8_at_7 : decode cX8_at 7 = .ok (.bipush (-3), 2) := by decide +kernel
theorem dX8_at_9 : decode cX8_at 9 = .ok (.goto 7, 3) := by decide +kernel
theorem dX8_at_12 : decode cX8_at 12 = .ok (.aload_n 0, 1) := by decide +kernel
theorem dX8_at_13 : decode cX8_at 13 = .ok (.getfield 109, 3) := by decide +kernel
theorem dX8_at_16 : decode cX8_at 16 = .ok (.ireturn, 1) := by decide +kernel
theorem dX8_findFar_0 : decode cX8_findFar 0 = .ok (.iconst 1, 1) := by decide +kernel
theorem dX8_findFar_1 : decode cX8_findFar 1 = .ok (.istore_n 1, 1) := by decide +kernel
theorem dX8_findFar_2 : decode cX8_findFar 2 = .ok (.iload_n 1, 1) := by decide +kernel
theorem dX8_findFar_3 : decode cX8_findFar 3 = .ok (.ifCond .eq 136, 3) := by decide +kernel
theorem dX8_findFar_6 : decode cX8_findFar 6 = .ok (.iconst 0, 1) := by decide +kernel
theorem dX8_findFar_7 : decode cX8_findFar 7 = .ok (.istore_n 1, 1) := by decide +kernel
theorem dX8_findFar_8 : decode cX8_findFar 8 = .ok (.iconst 0, 1) := by decide +kernel
theorem dX8_findFar_9 : decode cX8_findFar 9 = .ok (.istore_n 2, 1) := by decide +kernel
theorem dX8_findFar_10 : decode cX8_findFar 10 = .ok (.iload_n 2, 1) := by decide +kernel
theorem dX8_findFar_11 : decode cX8_findFar 11 = .ok (.bipush 8, 2) := by decide +kernel
theorem dX8_findFar_13 : decode cX8_findFar 13 = .ok (.aload_n 0, 1) := by decide +kernel
theorem dX8_findFar_14 : decode cX8_findFar 14 = .ok (.getfield 131, 3) := by decide +kernel
theorem dX8_findFar_17 : decode cX8_findFar 17 = .ok (.imul, 1) := by decide +kernel
theorem dX8_findFar_18 : decode cX8_findFar 18 = .ok (.if_icmp .ge 118, 3) := by decide +kernel
theorem dX8_findFar_21 : decode cX8_findFar 21 = .ok (.iload_n 2, 1) := by decide +kernel
theorem dX8_findFar_22 : decode cX8_findFar 22 = .ok (.bipush 8, 2) := by decide +kernel
theorem dX8_findFar_24 : decode cX8_findFar 24 = .ok (.idiv, 1) := by decide +kernel
theorem dX8_findFar_25 : decode cX8_findFar 25 = .ok (.istore_n 3, 1) := by decide +kernel
theorem dX8_findFar_26 : decode cX8_findFar 26 = .ok (.aload_n 0, 1) := by decide +kernel
theorem dX8_findFar_27 : decode cX8_findFar 27 = .ok (.getfield 34, 3) := by decide +kernel
theorem dX8_findFar_30 : decode cX8_findFar 30 = .ok (.iload_n 2, 1) := by decide +kernel
theorem dX8_findFar_31 : decode cX8_findFar 31 = .ok (.iaload, 1) := by decide +kernel
theorem dX8_findFar_32 : decode cX8_findFar 32 = .ok (.istore 4, 2) := by decide +kernel
theorem dX8_findFar_34 : decode cX8_findFar 34 = .ok (.aload_n 0, 1) := by decide +kernel
theorem dX8_findFar_35 : decode cX8_findFar 35 = .ok (.getfield 50, 3) := by decide +kernel
theorem dX8_findFar_38 : decode cX8_findFar 38 = .ok (.iload_n 3, 1) := by decide +kernel
theorem dX8_findFar_39 : decode cX8_findFar 39 = .ok (.baload, 1) := by decide +kernel
theorem dX8_findFar_40 : decode cX8_findFar 40 = .ok (.ifCond .eq 36, 3) := by decide +kernel
theorem dX8_findFar_43 : decode cX8_findFar 43 = .ok (.iload 4, 2) := by decide +kernel
theorem dX8_findFar_45 : decode cX8_findFar 45 = .ok (.bipush (-9), 2) := by decide +kernel
theorem dX8_findFar_47 : decode cX8_findFar 47 = .ok (.if_icmp .eq 29, 3) := by decide +kernel
theorem dX8_findFar_50 : decode cX8_findFar 50 = .ok (.aload_n 0, 1) := by decide +kernel
theorem dX8_findFar_51 : decode cX8_findFar 51 = .ok (.getfield 50, 3) := by decide +kernel
theorem dX8_findFar_54 : decode cX8_findFar 54 = .ok (.iload 4, 2) := by decide +kernel
theorem dX8_findFar_56 : decode cX8_findFar 56 = .ok (.baload, 1) := by decide +kernel
theorem dX8_findFar_57 : decode cX8_findFar 57 = .ok (.ifCond .eq 19, 3) := by decide +kernel
theorem dX8_findFar_60 : decode cX8_findFar 60 = .ok (.aload_n 0, 1) := by decide +kernel
theorem dX8_findFar_61 : decode cX8_findFar 61 = .ok (.getfield 56, 3) := by decide +kernel
theorem dX8_findFar_64 : decode cX8_findFar 64 = .ok (.iload 4, 2) := by decide +kernel
theorem dX8_findFar_66 : decode cX8_findFar 66 = .ok (.iaload, 1) := by decide +kernel
theorem dX8_findFar_67 : decode cX8_findFar 67 = .ok (.bipush (-9), 2) := by decide +kernel
theorem dX8_findFar_69 : decode cX8_findFar 69 = .ok (.if_icmp .eq 7, 3) := by decide +kernel
theorem dX8_findFar_72 : decode cX8_findFar 72 = .ok (.iconst 1, 1) := by decide +kernel
theorem dX8_findFar_73 : decode cX8_findFar 73 = .ok (.goto 4, 3) := by decide +kernel
theorem dX8_findFar_76 : decode cX8_findFar 76 = .ok (.iconst 0, 1) := by decide +kernel
theorem dX8_findFar_77 : decode cX8_findFar 77 = .ok (.istore 5, 2) := by decide +kernel
theorem dX8_findFar_79 : decode cX8_findFar 79 = .ok (.iload 5, 2) := by decide +kernel
theorem dX8_findFar_81 : decode cX8_findFar 81 = .ok (.ifCond .eq 49, 3) := by decide +kernel
theorem dX8_findFar_84 : decode cX8_findFar 84 = .ok (.aload_n 0, 1) := by decide +kernel
theorem dX8_findFar_85 : decode cX8_findFar 85 = .ok (.getfield 56, 3) := by decide +kernel
theorem dX8_findFar_88 : decode cX8_findFar 88 = .ok (.iload_n 3, 1) := by decide +kernel
theorem dX8_findFar_89 : decode cX8_findFar 89 = .ok (.iaload, 1) := by decide +kernel
theorem dX8_findFar_90 : decode cX8_findFar 90 = .ok (.bipush (-9), 2) := by decide +kernel
theorem dX8_findFar_92 : decode cX8_findFar 92 = .ok (.if_icmp .eq 21, 3) := by decide +kernel
theorem dX8_findFar_95 : decode cX8_findFar 95 = .ok (.aload_n 0, 1) := by decide +kernel
theorem dX8_findFar_96 : decode cX8_findFar 96 = .ok (.getfield 56, 3) := by decide +kernel
theorem dX8_findFar_99 : decode cX8_findFar 99 = .ok (.iload 4, 2) := by decide +kernel
theorem dX8_findFar_101 : decode cX8_findFar 101 = .ok (.iaload, 1) := by decide +kernel
theorem dX8_findFar_102 : decode cX8_findFar 102 = .ok (.iconst 1, 1) := by decide +kernel
theorem dX8_findFar_103 : decode cX8_findFar 103 = .ok (.iadd, 1) := by decide +kernel
theorem dX8_findFar_104 : decode cX8_findFar 104 = .ok (.aload_n 0, 1) := by decide +kernel
theorem dX8_findFar_105 : decode cX8_findFar 105 = .ok (.getfield 56, 3) := by decide +kernel
theorem dX8_findFar_108 : decode cX8_findFar 108 = .ok (.iload_n 3, 1) := by decide +kernel
theorem dX8_findFar_109 : decode cX8_findFar 109 = .ok (.iaload, 1) := by decide +kernel
theorem dX8_findFar_110 : decode cX8_findFar 110 = .ok (.if_icmp .ge 20, 3) := by decide +kernel
theorem dX8_findFar_113 : decode cX8_findFar 113 = .ok (.aload_n 0, 1) := by decide +kernel
theorem dX8_findFar_114 : decode cX8_findFar 114 = .ok (.getfield 56, 3) := by decide +kernel
theorem dX8_findFar_117 : decode cX8_findFar 117 = .ok (.iload_n 3, 1) := by decide +kernel
theorem dX8_findFar_118 : decode cX8_findFar 118 = .ok (.aload_n 0, 1) := by decide +kernel
theorem dX8_findFar_119 : decode cX8_findFar 119 = .ok (.getfield 56, 3) := by decide +kernel
theorem dX8_findFar_122 : decode cX8_findFar 122 = .ok (.iload 4, 2) := by decide +kernel
theorem dX8_findFar_124 : decode cX8_findFar 124 = .ok (.iaload, 1) := by decide +kernel
theorem dX8_findFar_125 : decode cX8_findFar 125 = .ok (.iconst 1, 1) := by decide +kernel
theorem dX8_findFar_126 : decode cX8_findFar 126 = .ok (.iadd, 1) := by decide +kernel
theorem dX8_findFar_127 : decode cX8_findFar 127 = .ok (.iastore, 1) := by decide +kernel
theorem dX8_findFar_128 : decode cX8_findFar 128 = .ok (.iconst 1, 1) := by decide +kernel
theorem dX8_findFar_129 : decode cX8_findFar 129 = .ok (.istore_n 1, 1) := by decide +kernel
theorem dX8_findFar_130 : decode cX8_findFar 130 = .ok (.iinc 2 1, 3) := by decide +kernel
theorem dX8_findFar_133 : decode cX8_findFar 133 = .ok (.goto (-123), 3) := by decide +kernel
theorem dX8_findFar_136 : decode cX8_findFar 136 = .ok (.goto (-134), 3) := by decide +kernel
theorem dX8_findFar_139 : decode cX8_findFar 139 = .ok (.return_, 1) := by decide +kernel
theorem dX8_nearer_0 : decode cX8_nearer 0 = .ok (.iconst 0, 1) := by decide +kernel
theorem dX8_nearer_1 : decode cX8_nearer 1 = .ok (.istore_n 2, 1) := by decide +kernel
theorem dX8_nearer_2 : decode cX8_nearer 2 = .ok (.aload_n 0, 1) := by decide +kernel
theorem dX8_nearer_3 : decode cX8_nearer 3 = .ok (.getfield 34, 3) := by decide +kernel
theorem dX8_nearer_6 : decode cX8_nearer 6 = .ok (.bipush 8, 2) := by decide +kernel
theorem dX8_nearer_8 : decode cX8_nearer 8 = .ok (.iload_n 1, 1) := by decide +kernel
theorem dX8_nearer_9 : decode cX8_nearer 9 = .ok (.imul, 1) := by decide +kernel
theorem dX8_nearer_10 : decode cX8_nearer 10 = .ok (.iload_n 2, 1) := by decide +kernel
theorem dX8_nearer_11 : decode cX8_nearer 11 = .ok (.iadd, 1) := by decide +kernel
theorem dX8_nearer_12 : decode cX8_nearer 12 = .ok (.iaload, 1) := by decide +kernel
theorem dX8_nearer_13 : decode cX8_nearer 13 = .ok (.bipush (-9), 2) := by decide +kernel
theorem dX8_nearer_15 : decode cX8_nearer 15 = .ok (.if_icmp .eq 49, 3) := by decide +kernel
theorem dX8_nearer_18 : decode cX8_nearer 18 = .ok (.aload_n 0, 1) := by decide +kernel
theorem dX8_nearer_19 : decode cX8_nearer 19 = .ok (.getfield 50, 3) := by decide +kernel
theorem dX8_nearer_22 : decode cX8_nearer 22 = .ok (.aload_n 0, 1) := by decide +kernel
theorem dX8_nearer_23 : decode cX8_nearer 23 = .ok (.getfield 34, 3) := by decide +kernel
theorem dX8_nearer_26 : decode cX8_nearer 26 = .ok (.bipush 8, 2) := by decide +kernel
theorem dX8_nearer_28 : decode cX8_nearer 28 = .ok (.iload_n 1, 1) := by decide +kernel
theorem dX8_nearer_29 : decode cX8_nearer 29 = .ok (.imul, 1) := by decide +kernel
theorem dX8_nearer_30 : decode cX8_nearer 30 = .ok (.iload_n 2, 1) := by decide +kernel
theorem dX8_nearer_31 : decode cX8_nearer 31 = .ok (.iadd, 1) := by decide +kernel
theorem dX8_nearer_32 : decode cX8_nearer 32 = .ok (.iaload, 1) := by decide +kernel
theorem dX8_nearer_33 : decode cX8_nearer 33 = .ok (.baload, 1) := by decide +kernel
theorem dX8_nearer_34 : decode cX8_nearer 34 = .ok (.ifCond .eq 30, 3) := by decide +kernel
theorem dX8_nearer_37 : decode cX8_nearer 37 = .ok (.aload_n 0, 1) := by decide +kernel
theorem dX8_nearer_38 : decode cX8_nearer 38 = .ok (.getfield 56, 3) := by decide +kernel
theorem dX8_nearer_41 : decode cX8_nearer 41 = .ok (.aload_n 0, 1) := by decide +kernel
theorem dX8_nearer_42 : decode cX8_nearer 42 = .ok (.getfield 34, 3) := by decide +kernel
theorem dX8_nearer_45 : decode cX8_nearer 45 = .ok (.bipush 8, 2) := by decide +kernel
theorem dX8_nearer_47 : decode cX8_nearer 47 = .ok (.iload_n 1, 1) := by decide +kernel
theorem dX8_nearer_48 : decode cX8_nearer 48 = .ok (.imul, 1) := by decide +kernel
theorem dX8_nearer_49 : decode cX8_nearer 49 = .ok (.iload_n 2, 1) := by decide +kernel
theorem dX8_nearer_50 : decode cX8_nearer 50 = .ok (.iadd, 1) := by decide +kernel
theorem dX8_nearer_51 : decode cX8_nearer 51 = .ok (.iaload, 1) := by decide +kernel
theorem dX8_nearer_52 : decode cX8_nearer 52 = .ok (.iaload, 1) := by decide +kernel
theorem dX8_nearer_53 : decode cX8_nearer 53 = .ok (.aload_n 0, 1) := by decide +kernel
theorem dX8_nearer_54 : decode cX8_nearer 54 = .ok (.getfield 56, 3) := by decide +kernel
theorem dX8_nearer_57 : decode cX8_nearer 57 = .ok (.iload_n 1, 1) := by decide +kernel
theorem dX8_nearer_58 : decode cX8_nearer 58 = .ok (.iaload, 1) := by decide +kernel
theorem dX8_nearer_59 : decode cX8_nearer 59 = .ok (.iconst 1, 1) := by decide +kernel
theorem dX8_nearer_60 : decode cX8_nearer 60 = .ok (.isub, 1) := by decide +kernel
theorem dX8_nearer_61 : decode cX8_nearer 61 = .ok (.if_icmp .eq 9, 3) := by decide +kernel
theorem dX8_nearer_64 : decode cX8_nearer 64 = .ok (.iinc 2 1, 3) := by decide +kernel
theorem dX8_nearer_67 : decode cX8_nearer 67 = .ok (.goto (-65), 3) := by decide +kernel
theorem dX8_nearer_70 : decode cX8_nearer 70 = .ok (.iload_n 2, 1) := by decide +kernel
theorem dX8_nearer_71 : decode cX8_nearer 71 = .ok (.ireturn, 1) := by decide +kernel
theorem dX8_tellWord_0 : decode cX8_tellWord 0 = .ok (.iload_n 2, 1) := by decide +kernel
theorem dX8_tellWord_1 : decode cX8_tellWord 1 = .ok (.bipush (-9), 2) := by decide +kernel
theorem dX8_tellWord_3 : decode cX8_tellWord 3 = .ok (.if_icmp .eq 14, 3) := by decide +kernel
theorem dX8_tellWord_6 : decode cX8_tellWord 6 = .ok (.aload_n 0, 1) := by decide +kernel
theorem dX8_tellWord_7 : decode cX8_tellWord 7 = .ok (.getfield 56, 3) := by decide +kernel
theorem dX8_tellWord_10 : decode cX8_tellWord 10 = .ok (.iload_n 1, 1) := by decide +kernel
theorem dX8_tellWord_11 : decode cX8_tellWord 11 = .ok (.iaload, 1) := by decide +kernel
theorem dX8_tellWord_12 : decode cX8_tellWord 12 = .ok (.bipush (-9), 2) := by decide +kernel
theorem dX8_tellWord_14 : decode cX8_tellWord 14 = .ok (.if_icmp .ne 10, 3) := by decide +kernel
theorem dX8_tellWord_17 : decode cX8_tellWord 17 = .ok (.aload_n 0, 1) := by decide +kernel
theorem dX8_tellWord_18 : decode cX8_tellWord 18 = .ok (.getfield 56, 3) := by decide +kernel
theorem dX8_tellWord_21 : decode cX8_tellWord 21 = .ok (.iload_n 1, 1) := by decide +kernel
theorem dX8_tellWord_22 : decode cX8_tellWord 22 = .ok (.iaload, 1) := by decide +kernel
theorem dX8_tellWord_23 : decode cX8_tellWord 23 = .ok (.ireturn, 1) := by decide +kernel
theorem dX8_tellWord_24 : decode cX8_tellWord 24 = .ok (.iload_n 2, 1) := by decide +kernel
theorem dX8_tellWord_25 : decode cX8_tellWord 25 = .ok (.aload_n 0, 1) := by decide +kernel
theorem dX8_tellWord_26 : decode cX8_tellWord 26 = .ok (.getfield 56, 3) := by decide +kernel
theorem dX8_tellWord_29 : decode cX8_tellWord 29 = .ok (.iload_n 1, 1) := by decide +kernel
theorem dX8_tellWord_30 : decode cX8_tellWord 30 = .ok (.iaload, 1) := by decide +kernel
theorem dX8_tellWord_31 : decode cX8_tellWord 31 = .ok (.if_icmp .lt 6, 3) := by decide +kernel
theorem dX8_tellWord_34 : decode cX8_tellWord 34 = .ok (.bipush (-9), 2) := by decide +kernel
theorem dX8_tellWord_36 : decode cX8_tellWord 36 = .ok (.ireturn, 1) := by decide +kernel
theorem dX8_tellWord_37 : decode cX8_tellWord 37 = .ok (.iload_n 1, 1) := by decide +kernel
theorem dX8_tellWord_38 : decode cX8_tellWord 38 = .ok (.istore_n 3, 1) := by decide +kernel
theorem dX8_tellWord_39 : decode cX8_tellWord 39 = .ok (.iconst 0, 1) := by decide +kernel
theorem dX8_tellWord_40 : decode cX8_tellWord 40 = .ok (.istore 4, 2) := by decide +kernel
theorem dX8_tellWord_42 : decode cX8_tellWord 42 = .ok (.iload 4, 2) := by decide +kernel
theorem dX8_tellWord_44 : decode cX8_tellWord 44 = .ok (.iload_n 2, 1) := by decide +kernel
theorem dX8_tellWord_45 : decode cX8_tellWord 45 = .ok (.if_icmp .ge 25, 3) := by decide +kernel
theorem dX8_tellWord_48 : decode cX8_tellWord 48 = .ok (.aload_n 0, 1) := by decide +kernel
theorem dX8_tellWord_49 : decode cX8_tellWord 49 = .ok (.getfield 34, 3) := by decide +kernel
theorem dX8_tellWord_52 : decode cX8_tellWord 52 = .ok (.bipush 8, 2) := by decide +kernel
theorem dX8_tellWord_54 : decode cX8_tellWord 54 = .ok (.iload_n 3, 1) := by decide +kernel
theorem dX8_tellWord_55 : decode cX8_tellWord 55 = .ok (.imul, 1) := by decide +kernel
theorem dX8_tellWord_56 : decode cX8_tellWord 56 = .ok (.aload_n 0, 1) := by decide +kernel
theorem dX8_tellWord_57 : decode cX8_tellWord 57 = .ok (.iload_n 3, 1) := by decide +kernel
theorem dX8_tellWord_58 : decode cX8_tellWord 58 = .ok (.invokevirtual 195, 3) := by decide +kernel
theorem dX8_tellWord_61 : decode cX8_tellWord 61 = .ok (.iadd, 1) := by decide +kernel
theorem dX8_tellWord_62 : decode cX8_tellWord 62 = .ok (.iaload, 1) := by decide +kernel
theorem dX8_tellWord_63 : decode cX8_tellWord 63 = .ok (.istore_n 3, 1) := by decide +kernel
theorem dX8_tellWord_64 : decode cX8_tellWord 64 = .ok (.iinc 4 1, 3) := by decide +kernel
theorem dX8_tellWord_67 : decode cX8_tellWord 67 = .ok (.goto (-25), 3) := by decide +kernel
theorem dX8_tellWord_70 : decode cX8_tellWord 70 = .ok (.aload_n 0, 1) := by decide +kernel
theorem dX8_tellWord_71 : decode cX8_tellWord 71 = .ok (.iload_n 3, 1) := by decide +kernel
theorem dX8_tellWord_72 : decode cX8_tellWord 72 = .ok (.invokevirtual 195, 3) := by decide +kernel
theorem dX8_tellWord_75 : decode cX8_tellWord 75 = .ok (.ireturn, 1) := by decide +kernel
theorem dX8_isPlace_0 : decode cX8_isPlace 0 = .ok (.iload_n 0, 1) := by decide +kernel
theorem dX8_isPlace_1 : decode cX8_isPlace 1 = .ok (.bipush (-9), 2) := by decide +kernel
theorem dX8_isPlace_3 : decode cX8_isPlace 3 = .ok (.if_icmp .eq 14, 3) := by decide +kernel
theorem dX8_isPlace_6 : decode cX8_isPlace 6 = .ok (.iload_n 0, 1) := by decide +kernel
theorem dX8_isPlace_7 : decode cX8_isPlace 7 = .ok (.iconst 0, 1) := by decide +kernel
theorem dX8_isPlace_8 : decode cX8_isPlace 8 = .ok (.sipush 149, 3) := by decide +kernel
theorem dX8_isPlace_11 : decode cX8_isPlace 11 = .ok (.invokestatic 59, 3) := by decide +kernel
theorem dX8_isPlace_14 : decode cX8_isPlace 14 = .ok (.ifCond .eq 7, 3) := by decide +kernel
theorem dX8_isPlace_17 : decode cX8_isPlace 17 = .ok (.iconst 1, 1) := by decide +kernel
theorem dX8_isPlace_18 : decode cX8_isPlace 18 = .ok (.goto 4, 3) := by decide +kernel
theorem dX8_isPlace_21 : decode cX8_isPlace 21 = .ok (.iconst 0, 1) := by decide +kernel
theorem dX8_isPlace_22 : decode cX8_isPlace 22 = .ok (.ireturn, 1) := by decide +kernel
theorem dX8_finish_0 : decode cX8_finish 0 = .ok (.iload_n 1, 1) := by decide +kernel
theorem dX8_finish_1 : decode cX8_finish 1 = .ok (.invokestatic 198, 3) := by decide +kernel
theorem dX8_finish_4 : decode cX8_finish 4 = .ok (.ifCond .ne 6, 3) := by decide +kernel
theorem dX8_finish_7 : decode cX8_finish 7 = .ok (.bipush (-2), 2) := by decide +kernel
theorem dX8_finish_9 : decode cX8_finish 9 = .ok (.ireturn, 1) := by decide +kernel
theorem dX8_finish_10 : decode cX8_finish 10 = .ok (.aload_n 0, 1) := by decide +kernel
theorem dX8_finish_11 : decode cX8_finish 11 = .ok (.invokevirtual 192, 3) := by decide +kernel
theorem dX8_finish_14 : decode cX8_finish 14 = .ok (.ifCond .eq 6, 3) := by decide +kernel
theorem dX8_finish_17 : decode cX8_finish 17 = .ok (.bipush (-3), 2) := by decide +kernel
theorem dX8_finish_19 : decode cX8_finish 19 = .ok (.ireturn, 1) := by decide +kernel
theorem dX8_finish_20 : decode cX8_finish 20 = .ok (.iconst 0, 1) := by decide +kernel
theorem dX8_finish_21 : decode cX8_finish 21 = .ok (.istore_n 2, 1) := by decide +kernel
theorem dX8_finish_22 : decode cX8_finish 22 = .ok (.iload_n 2, 1) := by decide +kernel
theorem dX8_finish_23 : decode cX8_finish 23 = .ok (.aload_n 0, 1) := by decide +kernel
theorem dX8_finish_24 : decode cX8_finish 24 = .ok (.getfield 131, 3) := by decide +kernel
theorem dX8_finish_27 : decode cX8_finish 27 = .ok (.if_icmp .ge 42, 3) := by decide +kernel
theorem dX8_finish_30 : decode cX8_finish 30 = .ok (.aload_n 0, 1) := by decide +kernel
theorem dX8_finish_31 : decode cX8_finish 31 = .ok (.getfield 56, 3) := by decide +kernel
theorem dX8_finish_34 : decode cX8_finish 34 = .ok (.iload_n 2, 1) := by decide +kernel
theorem dX8_finish_35 : decode cX8_finish 35 = .ok (.aload_n 0, 1) := by decide +kernel
theorem dX8_finish_36 : decode cX8_finish 36 = .ok (.getfield 50, 3) := by decide +kernel
theorem dX8_finish_39 : decode cX8_finish 39 = .ok (.iload_n 2, 1) := by decide +kernel
theorem dX8_finish_40 : decode cX8_finish 40 = .ok (.baload, 1) := by decide +kernel
theorem dX8_finish_41 : decode cX8_finish 41 = .ok (.ifCond .eq 19, 3) := by decide +kernel
theorem dX8_finish_44 : decode cX8_finish 44 = .ok (.aload_n 0, 1) := by decide +kernel
theorem dX8_finish_45 : decode cX8_finish 45 = .ok (.iload_n 2, 1) := by decide +kernel
theorem dX8_finish_46 : decode cX8_finish 46 = .ok (.aload_n 0, 1) := by decide +kernel
theorem dX8_finish_47 : decode cX8_finish 47 = .ok (.invokevirtual 155, 3) := by decide +kernel
theorem dX8_finish_50 : decode cX8_finish 50 = .ok (.invokevirtual 152, 3) := by decide +kernel
theorem dX8_finish_53 : decode cX8_finish 53 = .ok (.ifCond .eq 7, 3) := by decide +kernel
theorem dX8_finish_56 : decode cX8_finish 56 = .ok (.iconst 0, 1) := by decide +kernel
theorem dX8_finish_57 : decode cX8_finish 57 = .ok (.goto 5, 3) := by decide +kernel
theorem dX8_finish_60 : decode cX8_finish 60 = .ok (.bipush (-9), 2) := by decide +kernel
theorem dX8_finish_62 : decode cX8_finish 62 = .ok (.iastore, 1) := by decide +kernel
theorem dX8_finish_63 : decode cX8_finish 63 = .ok (.iinc 2 1, 3) := by decide +kernel
theorem dX8_finish_66 : decode cX8_finish 66 = .ok (.goto (-44), 3) := by decide +kernel
theorem dX8_finish_69 : decode cX8_finish 69 = .ok (.aload_n 0, 1) := by decide +kernel
theorem dX8_finish_70 : decode cX8_finish 70 = .ok (.invokevirtual 201, 3) := by decide +kernel
theorem dX8_finish_73 : decode cX8_finish 73 = .ok (.aload_n 0, 1) := by decide +kernel
theorem dX8_finish_74 : decode cX8_finish 74 = .ok (.aload_n 0, 1) := by decide +kernel
theorem dX8_finish_75 : decode cX8_finish 75 = .ok (.getfield 109, 3) := by decide +kernel
theorem dX8_finish_78 : decode cX8_finish 78 = .ok (.iload_n 1, 1) := by decide +kernel
theorem dX8_finish_79 : decode cX8_finish 79 = .ok (.invokevirtual 204, 3) := by decide +kernel
theorem dX8_finish_82 : decode cX8_finish 82 = .ok (.ireturn, 1) := by decide +kernel
theorem dX8_word_0 : decode cX8_word 0 = .ok (.aload_n 0, 1) := by decide +kernel
theorem dX8_word_1 : decode cX8_word 1 = .ok (.iload_n 1, 1) := by decide +kernel
theorem dX8_word_2 : decode cX8_word 2 = .ok (.invokevirtual 183, 3) := by decide +kernel
theorem dX8_word_5 : decode cX8_word 5 = .ok (.ifCond .ne 5, 3) := by decide +kernel
theorem dX8_word_8 : decode cX8_word 8 = .ok (.iconst (-1), 1) := by decide +kernel
theorem dX8_word_9 : decode cX8_word 9 = .ok (.ireturn, 1) := by decide +kernel
theorem dX8_word_10 : decode cX8_word 10 = .ok (.iload_n 2, 1) := by decide +kernel
theorem dX8_word_11 : decode cX8_word 11 = .ok (.invokestatic 198, 3) := by decide +kernel
theorem dX8_word_14 : decode cX8_word 14 = .ok (.ifCond .ne 6, 3) := by decide +kernel
theorem dX8_word_17 : decode cX8_word 17 = .ok (.bipush (-2), 2) := by decide +kernel
theorem dX8_word_19 : decode cX8_word 19 = .ok (.ireturn, 1) := by decide +kernel
theorem dX8_word_20 : decode cX8_word 20 = .ok (.aload_n 0, 1) := by decide +kernel
theorem dX8_word_21 : decode cX8_word 21 = .ok (.getfield 50, 3) := by decide +kernel
theorem dX8_word_24 : decode cX8_word 24 = .ok (.iload_n 1, 1) := by decide +kernel
theorem dX8_word_25 : decode cX8_word 25 = .ok (.baload, 1) := by decide +kernel
theorem dX8_word_26 : decode cX8_word 26 = .ok (.ifCond .ne 6, 3) := by decide +kernel
theorem dX8_word_29 : decode cX8_word 29 = .ok (.bipush (-9), 2) := by decide +kernel
theorem dX8_word_31 : decode cX8_word 31 = .ok (.ireturn, 1) := by decide +kernel
theorem dX8_word_32 : decode cX8_word 32 = .ok (.iconst 0, 1) := by decide +kernel
theorem dX8_word_33 : decode cX8_word 33 = .ok (.istore_n 3, 1) := by decide +kernel
theorem dX8_word_34 : decode cX8_word 34 = .ok (.iload_n 3, 1) := by decide +kernel
theorem dX8_word_35 : decode cX8_word 35 = .ok (.aload_n 0, 1) := by decide +kernel
theorem dX8_word_36 : decode cX8_word 36 = .ok (.getfield 131, 3) := by decide +kernel
theorem dX8_word_39 : decode cX8_word 39 = .ok (.if_icmp .ge 26, 3) := by decide +kernel
theorem dX8_word_42 : decode cX8_word 42 = .ok (.aload_n 0, 1) := by decide +kernel
theorem dX8_word_43 : decode cX8_word 43 = .ok (.getfield 56, 3) := by decide +kernel
theorem dX8_word_46 : decode cX8_word 46 = .ok (.iload_n 3, 1) := by decide +kernel
theorem dX8_word_47 : decode cX8_word 47 = .ok (.iload_n 3, 1) := by decide +kernel
theorem dX8_word_48 : decode cX8_word 48 = .ok (.iload_n 1, 1) := by decide +kernel
theorem dX8_word_49 : decode cX8_word 49 = .ok (.if_icmp .ne 7, 3) := by decide +kernel
theorem dX8_word_52 : decode cX8_word 52 = .ok (.iconst 0, 1) := by decide +kernel
theorem dX8_word_53 : decode cX8_word 53 = .ok (.goto 5, 3) := by decide +kernel
theorem dX8_word_56 : decode cX8_word 56 = .ok (.bipush (-9), 2) := by decide +kernel
theorem dX8_word_58 : decode cX8_word 58 = .ok (.iastore, 1) := by decide +kernel
theorem dX8_word_59 : decode cX8_word 59 = .ok (.iinc 3 1, 3) := by decide +kernel
theorem dX8_word_62 : decode cX8_word 62 = .ok (.goto (-28), 3) := by decide +kernel
theorem dX8_word_65 : decode cX8_word 65 = .ok (.aload_n 0, 1) := by decide +kernel
theorem dX8_word_66 : decode cX8_word 66 = .ok (.invokevirtual 201, 3) := by decide +kernel
theorem dX8_word_69 : decode cX8_word 69 = .ok (.aload_n 0, 1) := by decide +kernel
theorem dX8_word_70 : decode cX8_word 70 = .ok (.iconst 0, 1) := by decide +kernel
theorem dX8_word_71 : decode cX8_word 71 = .ok (.iload_n 2, 1) := by decide +kernel
theorem dX8_word_72 : decode cX8_word 72 = .ok (.invokevirtual 204, 3) := by decide +kernel
theorem dX8_word_75 : decode cX8_word 75 = .ok (.ireturn, 1) := by decide +kernel
theorem dX8_many_0 : decode cX8_many 0 = .ok (.aload_n 0, 1) := by decide +kernel
theorem dX8_many_1 : decode cX8_many 1 = .ok (.invokevirtual 180, 3) := by decide +kernel
theorem dX8_many_4 : decode cX8_many 4 = .ok (.iconst 0, 1) := by decide +kernel
theorem dX8_many_5 : decode cX8_many 5 = .ok (.istore_n 2, 1) := by decide +kernel
theorem dX8_many_6 : decode cX8_many 6 = .ok (.iconst 0, 1) := by decide +kernel
theorem dX8_many_7 : decode cX8_many 7 = .ok (.istore_n 3, 1) := by decide +kernel
theorem dX8_many_8 : decode cX8_many 8 = .ok (.iconst 0, 1) := by decide +kernel
theorem dX8_many_9 : decode cX8_many 9 = .ok (.istore 4, 2) := by decide +kernel
theorem dX8_many_11 : decode cX8_many 11 = .ok (.iconst 0, 1) := by decide +kernel
theorem dX8_many_12 : decode cX8_many 12 = .ok (.istore 5, 2) := by decide +kernel
theorem dX8_many_14 : decode cX8_many 14 = .ok (.iload 5, 2) := by decide +kernel
theorem dX8_many_16 : decode cX8_many 16 = .ok (.aload_n 0, 1) := by decide +kernel
theorem dX8_many_17 : decode cX8_many 17 = .ok (.getfield 131, 3) := by decide +kernel
theorem dX8_many_20 : decode cX8_many 20 = .ok (.if_icmp .ge 94, 3) := by decide +kernel
theorem dX8_many_23 : decode cX8_many 23 = .ok (.iload_n 2, 1) := by decide +kernel
theorem dX8_many_24 : decode cX8_many 24 = .ok (.aload_n 0, 1) := by decide +kernel
theorem dX8_many_25 : decode cX8_many 25 = .ok (.getfield 37, 3) := by decide +kernel
theorem dX8_many_28 : decode cX8_many 28 = .ok (.iload 5, 2) := by decide +kernel
theorem dX8_many_30 : decode cX8_many 30 = .ok (.iaload, 1) := by decide +kernel
theorem dX8_many_31 : decode cX8_many 31 = .ok (.bipush (-9), 2) := by decide +kernel
theorem dX8_many_33 : decode cX8_many 33 = .ok (.if_icmp .eq 7, 3) := by decide +kernel
theorem dX8_many_36 : decode cX8_many 36 = .ok (.iconst 1, 1) := by decide +kernel
theorem dX8_many_37 : decode cX8_many 37 = .ok (.goto 4, 3) := by decide +kernel
theorem dX8_many_40 : decode cX8_many 40 = .ok (.iconst 0, 1) := by decide +kernel
theorem dX8_many_41 : decode cX8_many 41 = .ok (.iadd, 1) := by decide +kernel
theorem dX8_many_42 : decode cX8_many 42 = .ok (.istore_n 2, 1) := by decide +kernel
theorem dX8_many_43 : decode cX8_many 43 = .ok (.iload_n 3, 1) := by decide +kernel
theorem dX8_many_44 : decode cX8_many 44 = .ok (.aload_n 0, 1) := by decide +kernel
theorem dX8_many_45 : decode cX8_many 45 = .ok (.getfield 50, 3) := by decide +kernel
theorem dX8_many_48 : decode cX8_many 48 = .ok (.iload 5, 2) := by decide +kernel
theorem dX8_many_50 : decode cX8_many 50 = .ok (.baload, 1) := by decide +kernel
theorem dX8_many_51 : decode cX8_many 51 = .ok (.ifCond .eq 7, 3) := by decide +kernel
theorem dX8_many_54 : decode cX8_many 54 = .ok (.iconst 1, 1) := by decide +kernel
theorem dX8_many_55 : decode cX8_many 55 = .ok (.goto 4, 3) := by decide +kernel
theorem dX8_many_58 : decode cX8_many 58 = .ok (.iconst 0, 1) := by decide +kernel
theorem dX8_many_59 : decode cX8_many 59 = .ok (.iadd, 1) := by decide +kernel
theorem dX8_many_60 : decode cX8_many 60 = .ok (.istore_n 3, 1) := by decide +kernel
theorem dX8_many_61 : decode cX8_many 61 = .ok (.iconst 0, 1) := by decide +kernel
theorem dX8_many_62 : decode cX8_many 62 = .ok (.istore 6, 2) := by decide +kernel
theorem dX8_many_64 : decode cX8_many 64 = .ok (.iload 6, 2) := by decide +kernel
theorem dX8_many_66 : decode cX8_many 66 = .ok (.bipush 8, 2) := by decide +kernel
theorem dX8_many_68 : decode cX8_many 68 = .ok (.if_icmp .ge 40, 3) := by decide +kernel
theorem dX8_many_71 : decode cX8_many 71 = .ok (.iload 4, 2) := by decide +kernel
theorem dX8_many_73 : decode cX8_many 73 = .ok (.aload_n 0, 1) := by decide +kernel
theorem dX8_many_74 : decode cX8_many 74 = .ok (.getfield 50, 3) := by decide +kernel
theorem dX8_many_77 : decode cX8_many 77 = .ok (.iload 5, 2) := by decide +kernel
theorem dX8_many_79 : decode cX8_many 79 = .ok (.baload, 1) := by decide +kernel
theorem dX8_many_80 : decode cX8_many 80 = .ok (.ifCond .eq 18, 3) := by decide +kernel
theorem dX8_many_83 : decode cX8_many 83 = .ok (.aload_n 0, 1) := by decide +kernel
theorem dX8_many_84 : decode cX8_many 84 = .ok (.iload 5, 2) := by decide +kernel
theorem dX8_many_86 : decode cX8_many 86 = .ok (.iload 6, 2) := by decide +kernel
theorem dX8_many_88 : decode cX8_many 88 = .ok (.invokevirtual 186, 3) := by decide +kernel
theorem dX8_many_91 : decode cX8_many 91 = .ok (.ifCond .eq 7, 3) := by decide +kernel
theorem dX8_many_94 : decode cX8_many 94 = .ok (.iconst 1, 1) := by decide +kernel
theorem dX8_many_95 : decode cX8_many 95 = .ok (.goto 4, 3) := by decide +kernel
theorem dX8_many_98 : decode cX8_many 98 = .ok (.iconst 0, 1) := by decide +kernel
theorem dX8_many_99 : decode cX8_many 99 = .ok (.iadd, 1) := by decide +kernel
theorem dX8_many_100 : decode cX8_many 100 = .ok (.istore 4, 2) := by decide +kernel
theorem dX8_many_102 : decode cX8_many 102 = .ok (.iinc 6 1, 3) := by decide +kernel
theorem dX8_many_105 : decode cX8_many 105 = .ok (.goto (-41), 3) := by decide +kernel
theorem dX8_many_108 : decode cX8_many 108 = .ok (.iinc 5 1, 3) := by decide +kernel
theorem dX8_many_111 : decode cX8_many 111 = .ok (.goto (-97), 3) := by decide +kernel
theorem dX8_many_114 : decode cX8_many 114 = .ok (.iload_n 1, 1) := by decide +kernel
theorem dX8_many_115 : decode cX8_many 115 = .ok (.tableswitch 89 0 7 #[45, 50, 55, 72, 74, 76, 81, 86], 45) := by decide +kernel
theorem dX8_many_160 : decode cX8_many 160 = .ok (.aload_n 0, 1) := by decide +kernel
theorem dX8_many_161 : decode cX8_many 161 = .ok (.getfield 96, 3) := by decide +kernel
theorem dX8_many_164 : decode cX8_many 164 = .ok (.ireturn, 1) := by decide +kernel
theorem dX8_many_165 : decode cX8_many 165 = .ok (.aload_n 0, 1) := by decide +kernel
theorem dX8_many_166 : decode cX8_many 166 = .ok (.getfield 63, 3) := by decide +kernel
theorem dX8_many_169 : decode cX8_many 169 = .ok (.ireturn, 1) := by decide +kernel
theorem dX8_many_170 : decode cX8_many 170 = .ok (.aload_n 0, 1) := by decide +kernel
theorem dX8_many_171 : decode cX8_many 171 = .ok (.getfield 131, 3) := by decide +kernel
theorem dX8_many_174 : decode cX8_many 174 = .ok (.ifCond .ne 8, 3) := by decide +kernel
theorem dX8_many_177 : decode cX8_many 177 = .ok (.bipush (-9), 2) := by decide +kernel
theorem dX8_many_179 : decode cX8_many 179 = .ok (.goto 7, 3) := by decide +kernel
theorem dX8_many_182 : decode cX8_many 182 = .ok (.aload_n 0, 1) := by decide +kernel
theorem dX8_many_183 : decode cX8_many 183 = .ok (.getfield 131, 3) := by decide +kernel
theorem dX8_many_186 : decode cX8_many 186 = .ok (.ireturn, 1) := by decide +kernel
theorem dX8_many_187 : decode cX8_many 187 = .ok (.iload_n 2, 1) := by decide +kernel
theorem dX8_many_188 : decode cX8_many 188 = .ok (.ireturn, 1) := by decide +kernel
theorem dX8_many_189 : decode cX8_many 189 = .ok (.iload_n 3, 1) := by decide +kernel
theorem dX8_many_190 : decode cX8_many 190 = .ok (.ireturn, 1) := by decide +kernel
theorem dX8_many_191 : decode cX8_many 191 = .ok (.aload_n 0, 1) := by decide +kernel
theorem dX8_many_192 : decode cX8_many 192 = .ok (.getfield 162, 3) := by decide +kernel
theorem dX8_many_195 : decode cX8_many 195 = .ok (.ireturn, 1) := by decide +kernel
theorem dX8_many_196 : decode cX8_many 196 = .ok (.aload_n 0, 1) := by decide +kernel
theorem dX8_many_197 : decode cX8_many 197 = .ok (.getfield 112, 3) := by decide +kernel
theorem dX8_many_200 : decode cX8_many 200 = .ok (.ireturn, 1) := by decide +kernel
theorem dX8_many_201 : decode cX8_many 201 = .ok (.iload 4, 2) := by decide +kernel
theorem dX8_many_203 : decode cX8_many 203 = .ok (.ireturn, 1) := by decide +kernel
theorem dX8_many_204 : decode cX8_many 204 = .ok (.bipush (-2), 2) := by decide +kernel
theorem dX8_many_206 : decode cX8_many 206 = .ok (.ireturn, 1) := by decide +kernel
