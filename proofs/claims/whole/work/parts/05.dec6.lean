theorem dX6_init_0 : decode cX6_init 0 = .ok (.aload_n 0, 1) := by decide +kernel
theorem dX6_init_1 : decode cX6_init 1 = .ok (.invokespecial 1, 3) := by decide +kernel
theorem dX6_init_4 : decode cX6_init 4 = .ok (.aload_n 0, 1) := by decide +kernel
theorem dX6_init_5 : decode cX6_init 5 = .ok (.bipush 8, 2) := by decide +kernel
theorem dX6_init_7 : decode cX6_init 7 = .ok (.anewarray 9, 3) := by decide +kernel
theorem dX6_init_10 : decode cX6_init 10 = .ok (.putfield 11, 3) := by decide +kernel
theorem dX6_init_13 : decode cX6_init 13 = .ok (.aload_n 0, 1) := by decide +kernel
theorem dX6_init_14 : decode cX6_init 14 = .ok (.iconst 4, 1) := by decide +kernel
theorem dX6_init_15 : decode cX6_init 15 = .ok (.anewarray 15, 3) := by decide +kernel
theorem dX6_init_18 : decode cX6_init 18 = .ok (.putfield 17, 3) := by decide +kernel
theorem dX6_init_21 : decode cX6_init 21 = .ok (.aload_n 0, 1) := by decide +kernel
theorem dX6_init_22 : decode cX6_init 22 = .ok (.new 21, 3) := by decide +kernel
theorem dX6_init_25 : decode cX6_init 25 = .ok (.dup, 1) := by decide +kernel
theorem dX6_init_26 : decode cX6_init 26 = .ok (.invokespecial 23, 3) := by decide +kernel
theorem dX6_init_29 : decode cX6_init 29 = .ok (.putfield 24, 3) := by decide +kernel
theorem dX6_init_32 : decode cX6_init 32 = .ok (.aload_n 0, 1) := by decide +kernel
theorem dX6_init_33 : decode cX6_init 33 = .ok (.iload_n 1, 1) := by decide +kernel
theorem dX6_init_34 : decode cX6_init 34 = .ok (.ifCond .eq 7, 3) := by decide +kernel
theorem dX6_init_37 : decode cX6_init 37 = .ok (.iconst 1, 1) := by decide +kernel
theorem dX6_init_38 : decode cX6_init 38 = .ok (.goto 4, 3) := by decide +kernel
theorem dX6_init_41 : decode cX6_init 41 = .ok (.iconst 0, 1) := by decide +kernel
theorem dX6_init_42 : decode cX6_init 42 = .ok (.putfield 28, 3) := by decide +kernel
theorem dX6_init_45 : decode cX6_init 45 = .ok (.return_, 1) := by decide +kernel
theorem dX6_task_0 : decode cX6_task 0 = .ok (.iload_n 2, 1) := by decide +kernel
theorem dX6_task_1 : decode cX6_task 1 = .ok (.ifCond .eq 14, 3) := by decide +kernel
theorem dX6_task_4 : decode cX6_task 4 = .ok (.iload_n 2, 1) := by decide +kernel
theorem dX6_task_5 : decode cX6_task 5 = .ok (.iconst 2, 1) := by decide +kernel
theorem dX6_task_6 : decode cX6_task 6 = .ok (.sipush 200, 3) := by decide +kernel
theorem dX6_task_9 : decode cX6_task 9 = .ok (.invokestatic 32, 3) := by decide +kernel
theorem dX6_task_12 : decode cX6_task 12 = .ok (.ifCond .eq 7, 3) := by decide +kernel
theorem dX6_task_15 : decode cX6_task 15 = .ok (.iconst 1, 1) := by decide +kernel
theorem dX6_task_16 : decode cX6_task 16 = .ok (.goto 4, 3) := by decide +kernel
theorem dX6_task_19 : decode cX6_task 19 = .ok (.iconst 0, 1) := by decide +kernel
theorem dX6_task_20 : decode cX6_task 20 = .ok (.istore 6, 2) := by decide +kernel
theorem dX6_task_22 : decode cX6_task 22 = .ok (.iload 6, 2) := by decide +kernel
theorem dX6_task_24 : decode cX6_task 24 = .ok (.ifCond .eq 47, 3) := by decide +kernel
theorem dX6_task_27 : decode cX6_task 27 = .ok (.iload_n 1, 1) := by decide +kernel
theorem dX6_task_28 : decode cX6_task 28 = .ok (.iconst 1, 1) := by decide +kernel
theorem dX6_task_29 : decode cX6_task 29 = .ok (.bipush 31, 2) := by decide +kernel
theorem dX6_task_31 : decode cX6_task 31 = .ok (.invokestatic 32, 3) := by decide +kernel
theorem dX6_task_34 : decode cX6_task 34 = .ok (.ifCond .eq 37, 3) := by decide +kernel
theorem dX6_task_37 : decode cX6_task 37 = .ok (.iload_n 3, 1) := by decide +kernel
theorem dX6_task_38 : decode cX6_task 38 = .ok (.iconst 0, 1) := by decide +kernel
theorem dX6_task_39 : decode cX6_task 39 = .ok (.bipush 50, 2) := by decide +kernel
theorem dX6_task_41 : decode cX6_task 41 = .ok (.invokestatic 32, 3) := by decide +kernel
theorem dX6_task_44 : decode cX6_task 44 = .ok (.ifCond .eq 27, 3) := by decide +kernel
theorem dX6_task_47 : decode cX6_task 47 = .ok (.iload 4, 2) := by decide +kernel
theorem dX6_task_49 : decode cX6_task 49 = .ok (.iconst 1, 1) := by decide +kernel
theorem dX6_task_50 : decode cX6_task 50 = .ok (.sipush 200, 3) := by decide +kernel
theorem dX6_task_53 : decode cX6_task 53 = .ok (.invokestatic 32, 3) := by decide +kernel
theorem dX6_task_56 : decode cX6_task 56 = .ok (.ifCond .eq 15, 3) := by decide +kernel
theorem dX6_task_59 : decode cX6_task 59 = .ok (.iload 5, 2) := by decide +kernel
theorem dX6_task_61 : decode cX6_task 61 = .ok (.iconst 1, 1) := by decide +kernel
theorem dX6_task_62 : decode cX6_task 62 = .ok (.sipush 200, 3) := by decide +kernel
theorem dX6_task_65 : decode cX6_task 65 = .ok (.invokestatic 32, 3) := by decide +kernel
theorem dX6_task_68 : decode cX6_task 68 = .ok (.ifCond .ne 13, 3) := by decide +kernel
theorem dX6_task_71 : decode cX6_task 71 = .ok (.new 36, 3) := by decide +kernel
theorem dX6_task_74 : decode cX6_task 74 = .ok (.dup, 1) := by decide +kernel
theorem dX6_task_75 : decode cX6_task 75 = .ok (.ldc 38, 2) := by decide +kernel
theorem dX6_task_77 : decode cX6_task 77 = .ok (.invokespecial 40, 3) := by decide +kernel
theorem dX6_task_80 : decode cX6_task 80 = .ok (.athrow, 1) := by decide +kernel
theorem dX6_task_81 : decode cX6_task 81 = .ok (.aload_n 0, 1) := by decide +kernel
theorem dX6_task_82 : decode cX6_task 82 = .ok (.getfield 43, 3) := by decide +kernel
theorem dX6_task_85 : decode cX6_task 85 = .ok (.ifCond .ne 12, 3) := by decide +kernel
theorem dX6_task_88 : decode cX6_task 88 = .ok (.aload_n 0, 1) := by decide +kernel
theorem dX6_task_89 : decode cX6_task 89 = .ok (.getfield 46, 3) := by decide +kernel
theorem dX6_task_92 : decode cX6_task 92 = .ok (.bipush 8, 2) := by decide +kernel
theorem dX6_task_94 : decode cX6_task 94 = .ok (.if_icmp .lt 13, 3) := by decide +kernel
theorem dX6_task_97 : decode cX6_task 97 = .ok (.new 50, 3) := by decide +kernel
theorem dX6_task_100 : decode cX6_task 100 = .ok (.dup, 1) := by decide +kernel
theorem dX6_task_101 : decode cX6_task 101 = .ok (.ldc 52, 2) := by decide +kernel
theorem dX6_task_103 : decode cX6_task 103 = .ok (.invokespecial 54, 3) := by decide +kernel
theorem dX6_task_106 : decode cX6_task 106 = .ok (.athrow, 1) := by decide +kernel
theorem dX6_task_107 : decode cX6_task 107 = .ok (.aload_n 0, 1) := by decide +kernel
theorem dX6_task_108 : decode cX6_task 108 = .ok (.getfield 46, 3) := by decide +kernel
theorem dX6_task_111 : decode cX6_task 111 = .ok (.istore 7, 2) := by decide +kernel
theorem dX6_task_113 : decode cX6_task 113 = .ok (.aload_n 0, 1) := by decide +kernel
theorem dX6_task_114 : decode cX6_task 114 = .ok (.getfield 11, 3) := by decide +kernel
theorem dX6_task_117 : decode cX6_task 117 = .ok (.iload 7, 2) := by decide +kernel
theorem dX6_task_119 : decode cX6_task 119 = .ok (.new 9, 3) := by decide +kernel
theorem dX6_task_122 : decode cX6_task 122 = .ok (.dup, 1) := by decide +kernel
theorem dX6_task_123 : decode cX6_task 123 = .ok (.iload 7, 2) := by decide +kernel
theorem dX6_task_125 : decode cX6_task 125 = .ok (.iload_n 1, 1) := by decide +kernel
theorem dX6_task_126 : decode cX6_task 126 = .ok (.iload_n 2, 1) := by decide +kernel
theorem dX6_task_127 : decode cX6_task 127 = .ok (.iload_n 3, 1) := by decide +kernel
theorem dX6_task_128 : decode cX6_task 128 = .ok (.iload 4, 2) := by decide +kernel
theorem dX6_task_130 : decode cX6_task 130 = .ok (.iload 5, 2) := by decide +kernel
theorem dX6_task_132 : decode cX6_task 132 = .ok (.invokespecial 55, 3) := by decide +kernel
theorem dX6_task_135 : decode cX6_task 135 = .ok (.aastore, 1) := by decide +kernel
theorem dX6_task_136 : decode cX6_task 136 = .ok (.aload_n 0, 1) := by decide +kernel
theorem dX6_task_137 : decode cX6_task 137 = .ok (.dup, 1) := by decide +kernel
theorem dX6_task_138 : decode cX6_task 138 = .ok (.getfield 46, 3) := by decide +kernel
theorem dX6_task_141 : decode cX6_task 141 = .ok (.iconst 1, 1) := by decide +kernel
theorem dX6_task_142 : decode cX6_task 142 = .ok (.iadd, 1) := by decide +kernel
theorem dX6_task_143 : decode cX6_task 143 = .ok (.putfield 46, 3) := by decide +kernel
theorem dX6_task_146 : decode cX6_task 146 = .ok (.iload 7, 2) := by decide +kernel
theorem dX6_task_148 : decode cX6_task 148 = .ok (.ireturn, 1) := by decide +kernel
theorem dX6_strict_0 : decode cX6_strict 0 = .ok (.aload_n 0, 1) := by decide +kernel
theorem dX6_strict_1 : decode cX6_strict 1 = .ok (.iload_n 1, 1) := by decide +kernel
theorem dX6_strict_2 : decode cX6_strict 2 = .ok (.invokevirtual 58, 3) := by decide +kernel
theorem dX6_strict_5 : decode cX6_strict 5 = .ok (.ifCond .ne 5, 3) := by decide +kernel
theorem dX6_strict_8 : decode cX6_strict 8 = .ok (.iconst 0, 1) := by decide +kernel
theorem dX6_strict_9 : decode cX6_strict 9 = .ok (.ireturn, 1) := by decide +kernel
theorem dX6_strict_10 : decode cX6_strict 10 = .ok (.aload_n 0, 1) := by decide +kernel
theorem dX6_strict_11 : decode cX6_strict 11 = .ok (.getfield 11, 3) := by decide +kernel
theorem dX6_strict_14 : decode cX6_strict 14 = .ok (.iload_n 1, 1) := by decide +kernel
theorem dX6_strict_15 : decode cX6_strict 15 = .ok (.aaload, 1) := by decide +kernel
theorem dX6_strict_16 : decode cX6_strict 16 = .ok (.iload_n 2, 1) := by decide +kernel
theorem dX6_strict_17 : decode cX6_strict 17 = .ok (.putfield 62, 3) := by decide +kernel
theorem dX6_strict_20 : decode cX6_strict 20 = .ok (.iconst 1, 1) := by decide +kernel
theorem dX6_strict_21 : decode cX6_strict 21 = .ok (.ireturn, 1) := by decide +kernel
theorem dX6_mutex_0 : decode cX6_mutex 0 = .ok (.iload_n 1, 1) := by decide +kernel
theorem dX6_mutex_1 : decode cX6_mutex 1 = .ok (.iconst 2, 1) := by decide +kernel
theorem dX6_mutex_2 : decode cX6_mutex 2 = .ok (.if_icmp .ne 13, 3) := by decide +kernel
theorem dX6_mutex_5 : decode cX6_mutex 5 = .ok (.iload_n 2, 1) := by decide +kernel
theorem dX6_mutex_6 : decode cX6_mutex 6 = .ok (.iconst 1, 1) := by decide +kernel
theorem dX6_mutex_7 : decode cX6_mutex 7 = .ok (.bipush 31, 2) := by decide +kernel
theorem dX6_mutex_9 : decode cX6_mutex 9 = .ok (.invokestatic 32, 3) := by decide +kernel
theorem dX6_mutex_12 : decode cX6_mutex 12 = .ok (.ifCond .eq 7, 3) := by decide +kernel
theorem dX6_mutex_15 : decode cX6_mutex 15 = .ok (.iconst 1, 1) := by decide +kernel
theorem dX6_mutex_16 : decode cX6_mutex 16 = .ok (.goto 4, 3) := by decide +kernel
theorem dX6_mutex_19 : decode cX6_mutex 19 = .ok (.iconst 0, 1) := by decide +kernel
theorem dX6_mutex_20 : decode cX6_mutex 20 = .ok (.istore_n 3, 1) := by decide +kernel
theorem dX6_mutex_21 : decode cX6_mutex 21 = .ok (.iload_n 1, 1) := by decide +kernel
theorem dX6_mutex_22 : decode cX6_mutex 22 = .ok (.iconst 0, 1) := by decide +kernel
theorem dX6_mutex_23 : decode cX6_mutex 23 = .ok (.iconst 2, 1) := by decide +kernel
theorem dX6_mutex_24 : decode cX6_mutex 24 = .ok (.invokestatic 32, 3) := by decide +kernel
theorem dX6_mutex_27 : decode cX6_mutex 27 = .ok (.ifCond .eq 7, 3) := by decide +kernel
theorem dX6_mutex_30 : decode cX6_mutex 30 = .ok (.iload_n 3, 1) := by decide +kernel
theorem dX6_mutex_31 : decode cX6_mutex 31 = .ok (.ifCond .ne 13, 3) := by decide +kernel
theorem dX6_mutex_34 : decode cX6_mutex 34 = .ok (.new 36, 3) := by decide +kernel
theorem dX6_mutex_37 : decode cX6_mutex 37 = .ok (.dup, 1) := by decide +kernel
theorem dX6_mutex_38 : decode cX6_mutex 38 = .ok (.ldc 65, 2) := by decide +kernel
theorem dX6_mutex_40 : decode cX6_mutex 40 = .ok (.invokespecial 40, 3) := by decide +kernel
theorem dX6_mutex_43 : decode cX6_mutex 43 = .ok (.athrow, 1) := by decide +kernel
theorem dX6_mutex_44 : decode cX6_mutex 44 = .ok (.aload_n 0, 1) := by decide +kernel
theorem dX6_mutex_45 : decode cX6_mutex 45 = .ok (.getfield 43, 3) := by decide +kernel
theorem dX6_mutex_48 : decode cX6_mutex 48 = .ok (.ifCond .ne 11, 3) := by decide +kernel
theorem dX6_mutex_51 : decode cX6_mutex 51 = .ok (.aload_n 0, 1) := by decide +kernel
theorem dX6_mutex_52 : decode cX6_mutex 52 = .ok (.getfield 67, 3) := by decide +kernel
theorem dX6_mutex_55 : decode cX6_mutex 55 = .ok (.iconst 4, 1) := by decide +kernel
theorem dX6_mutex_56 : decode cX6_mutex 56 = .ok (.if_icmp .lt 13, 3) := by decide +kernel
theorem dX6_mutex_59 : decode cX6_mutex 59 = .ok (.new 50, 3) := by decide +kernel
theorem dX6_mutex_62 : decode cX6_mutex 62 = .ok (.dup, 1) := by decide +kernel
theorem dX6_mutex_63 : decode cX6_mutex 63 = .ok (.ldc 70, 2) := by decide +kernel
theorem dX6_mutex_65 : decode cX6_mutex 65 = .ok (.invokespecial 54, 3) := by decide +kernel
theorem dX6_mutex_68 : decode cX6_mutex 68 = .ok (.athrow, 1) := by decide +kernel
theorem dX6_mutex_69 : decode cX6_mutex 69 = .ok (.aload_n 0, 1) := by decide +kernel
theorem dX6_mutex_70 : decode cX6_mutex 70 = .ok (.getfield 67, 3) := by decide +kernel
theorem dX6_mutex_73 : decode cX6_mutex 73 = .ok (.istore 4, 2) := by decide +kernel
theorem dX6_mutex_75 : decode cX6_mutex 75 = .ok (.aload_n 0, 1) := by decide +kernel
theorem dX6_mutex_76 : decode cX6_mutex 76 = .ok (.getfield 17, 3) := by decide +kernel
theorem dX6_mutex_79 : decode cX6_mutex 79 = .ok (.iload 4, 2) := by decide +kernel
theorem dX6_mutex_81 : decode cX6_mutex 81 = .ok (.new 15, 3) := by decide +kernel
theorem dX6_mutex_84 : decode cX6_mutex 84 = .ok (.dup, 1) := by decide +kernel
theorem dX6_mutex_85 : decode cX6_mutex 85 = .ok (.iload 4, 2) := by decide +kernel
theorem dX6_mutex_87 : decode cX6_mutex 87 = .ok (.iload_n 1, 1) := by decide +kernel
theorem dX6_mutex_88 : decode cX6_mutex 88 = .ok (.iload_n 2, 1) := by decide +kernel
theorem dX6_mutex_89 : decode cX6_mutex 89 = .ok (.invokespecial 72, 3) := by decide +kernel
theorem dX6_mutex_92 : decode cX6_mutex 92 = .ok (.aastore, 1) := by decide +kernel
theorem dX6_mutex_93 : decode cX6_mutex 93 = .ok (.aload_n 0, 1) := by decide +kernel
theorem dX6_mutex_94 : decode cX6_mutex 94 = .ok (.dup, 1) := by decide +kernel
theorem dX6_mutex_95 : decode cX6_mutex 95 = .ok (.getfield 67, 3) := by decide +kernel
theorem dX6_mutex_98 : decode cX6_mutex 98 = .ok (.iconst 1, 1) := by decide +kernel
theorem dX6_mutex_99 : decode cX6_mutex 99 = .ok (.iadd, 1) := by decide +kernel
theorem dX6_mutex_100 : decode cX6_mutex 100 = .ok (.putfield 67, 3) := by decide +kernel
theorem dX6_mutex_103 : decode cX6_mutex 103 = .ok (.iload 4, 2) := by decide +kernel
theorem dX6_mutex_105 : decode cX6_mutex 105 = .ok (.ireturn, 1) := by decide +kernel
theorem dX6_step_0 : decode cX6_step 0 = .ok (.aload_n 0, 1) := by decide +kernel
theorem dX6_step_1 : decode cX6_step 1 = .ok (.iload_n 1, 1) := by decide +kernel
theorem dX6_step_2 : decode cX6_step 2 = .ok (.invokevirtual 58, 3) := by decide +kernel
theorem dX6_step_5 : decode cX6_step 5 = .ok (.ifCond .eq 12, 3) := by decide +kernel
theorem dX6_step_8 : decode cX6_step 8 = .ok (.aload_n 0, 1) := by decide +kernel
theorem dX6_step_9 : decode cX6_step 9 = .ok (.iload_n 2, 1) := by decide +kernel
theorem dX6_step_10 : decode cX6_step 10 = .ok (.iload_n 3, 1) := by decide +kernel
theorem dX6_step_11 : decode cX6_step 11 = .ok (.invokevirtual 75, 3) := by decide +kernel
theorem dX6_step_14 : decode cX6_step 14 = .ok (.ifCond .ne 13, 3) := by decide +kernel
theorem dX6_step_17 : decode cX6_step 17 = .ok (.new 36, 3) := by decide +kernel
theorem dX6_step_20 : decode cX6_step 20 = .ok (.dup, 1) := by decide +kernel
theorem dX6_step_21 : decode cX6_step 21 = .ok (.ldc 79, 2) := by decide +kernel
theorem dX6_step_23 : decode cX6_step 23 = .ok (.invokespecial 40, 3) := by decide +kernel
theorem dX6_step_26 : decode cX6_step 26 = .ok (.athrow, 1) := by decide +kernel
theorem dX6_step_27 : decode cX6_step 27 = .ok (.aload_n 0, 1) := by decide +kernel
theorem dX6_step_28 : decode cX6_step 28 = .ok (.getfield 11, 3) := by decide +kernel
theorem dX6_step_31 : decode cX6_step 31 = .ok (.iload_n 1, 1) := by decide +kernel
theorem dX6_step_32 : decode cX6_step 32 = .ok (.aaload, 1) := by decide +kernel
theorem dX6_step_33 : decode cX6_step 33 = .ok (.getfield 81, 3) := by decide +kernel
theorem dX6_step_36 : decode cX6_step 36 = .ok (.astore 4, 2) := by decide +kernel
theorem dX6_step_38 : decode cX6_step 38 = .ok (.aload_n 0, 1) := by decide +kernel
theorem dX6_step_39 : decode cX6_step 39 = .ok (.getfield 43, 3) := by decide +kernel
theorem dX6_step_42 : decode cX6_step 42 = .ok (.ifCond .ne 13, 3) := by decide +kernel
theorem dX6_step_45 : decode cX6_step 45 = .ok (.aload 4, 2) := by decide +kernel
theorem dX6_step_47 : decode cX6_step 47 = .ok (.getfield 85, 3) := by decide +kernel
theorem dX6_step_50 : decode cX6_step 50 = .ok (.bipush 10, 2) := by decide +kernel
theorem dX6_step_52 : decode cX6_step 52 = .ok (.if_icmp .lt 13, 3) := by decide +kernel
theorem dX6_step_55 : decode cX6_step 55 = .ok (.new 50, 3) := by decide +kernel
theorem dX6_step_58 : decode cX6_step 58 = .ok (.dup, 1) := by decide +kernel
theorem dX6_step_59 : decode cX6_step 59 = .ok (.ldc 90, 2) := by decide +kernel
theorem dX6_step_61 : decode cX6_step 61 = .ok (.invokespecial 54, 3) := by decide +kernel
theorem dX6_step_64 : decode cX6_step 64 = .ok (.athrow, 1) := by decide +kernel
theorem dX6_step_65 : decode cX6_step 65 = .ok (.aload 4, 2) := by decide +kernel
theorem dX6_step_67 : decode cX6_step 67 = .ok (.iload_n 2, 1) := by decide +kernel
theorem dX6_step_68 : decode cX6_step 68 = .ok (.iload_n 3, 1) := by decide +kernel
theorem dX6_step_69 : decode cX6_step 69 = .ok (.invokevirtual 92, 3) := by decide +kernel
theorem dX6_step_72 : decode cX6_step 72 = .ok (.aload 4, 2) := by decide +kernel
theorem dX6_step_74 : decode cX6_step 74 = .ok (.getfield 85, 3) := by decide +kernel
theorem dX6_step_77 : decode cX6_step 77 = .ok (.ireturn, 1) := by decide +kernel
theorem dX6_start_0 : decode cX6_start 0 = .ok (.aload_n 0, 1) := by decide +kernel
theorem dX6_start_1 : decode cX6_start 1 = .ok (.getfield 43, 3) := by decide +kernel
theorem dX6_start_4 : decode cX6_start 4 = .ok (.ifCond .ne 10, 3) := by decide +kernel
theorem dX6_start_7 : decode cX6_start 7 = .ok (.aload_n 0, 1) := by decide +kernel
theorem dX6_start_8 : decode cX6_start 8 = .ok (.getfield 46, 3) := by decide +kernel
theorem dX6_start_11 : decode cX6_start 11 = .ok (.ifCond .ne 13, 3) := by decide +kernel
theorem dX6_start_14 : decode cX6_start 14 = .ok (.new 50, 3) := by decide +kernel
theorem dX6_start_17 : decode cX6_start 17 = .ok (.dup, 1) := by decide +kernel
theorem dX6_start_18 : decode cX6_start 18 = .ok (.ldc 96, 2) := by decide +kernel
theorem dX6_start_20 : decode cX6_start 20 = .ok (.invokespecial 54, 3) := by decide +kernel
theorem dX6_start_23 : decode cX6_start 23 = .ok (.athrow, 1) := by decide +kernel
theorem dX6_start_24 : decode cX6_start 24 = .ok (.aload_n 0, 1) := by decide +kernel
theorem dX6_start_25 : decode cX6_start 25 = .ok (.iconst 1, 1) := by decide +kernel
theorem dX6_start_26 : decode cX6_start 26 = .ok (.putfield 43, 3) := by decide +kernel
theorem dX6_start_29 : decode cX6_start 29 = .ok (.return_, 1) := by decide +kernel
theorem dX6_isTask_0 : decode cX6_isTask 0 = .ok (.iload_n 1, 1) := by decide +kernel
theorem dX6_isTask_1 : decode cX6_isTask 1 = .ok (.iconst 0, 1) := by decide +kernel
theorem dX6_isTask_2 : decode cX6_isTask 2 = .ok (.aload_n 0, 1) := by decide +kernel
theorem dX6_isTask_3 : decode cX6_isTask 3 = .ok (.getfield 46, 3) := by decide +kernel
theorem dX6_isTask_6 : decode cX6_isTask 6 = .ok (.iconst 1, 1) := by decide +kernel
theorem dX6_isTask_7 : decode cX6_isTask 7 = .ok (.isub, 1) := by decide +kernel
theorem dX6_isTask_8 : decode cX6_isTask 8 = .ok (.invokestatic 32, 3) := by decide +kernel
theorem dX6_isTask_11 : decode cX6_isTask 11 = .ok (.ireturn, 1) := by decide +kernel
theorem dX6_isMutex_0 : decode cX6_isMutex 0 = .ok (.iload_n 1, 1) := by decide +kernel
theorem dX6_isMutex_1 : decode cX6_isMutex 1 = .ok (.iconst 0, 1) := by decide +kernel
theorem dX6_isMutex_2 : decode cX6_isMutex 2 = .ok (.aload_n 0, 1) := by decide +kernel
theorem dX6_isMutex_3 : decode cX6_isMutex 3 = .ok (.getfield 67, 3) := by decide +kernel
theorem dX6_isMutex_6 : decode cX6_isMutex 6 = .ok (.iconst 1, 1) := by decide +kernel
theorem dX6_isMutex_7 : decode cX6_isMutex 7 = .ok (.isub, 1) := by decide +kernel
theorem dX6_isMutex_8 : decode cX6_isMutex 8 = .ok (.invokestatic 32, 3) := by decide +kernel
theorem dX6_isMutex_11 : decode cX6_isMutex 11 = .ok (.ireturn, 1) := by decide +kernel
theorem dX6_isStep_0 : decode cX6_isStep 0 = .ok (.iload_n 1, 1) := by decide +kernel
theorem dX6_isStep_1 : decode cX6_isStep 1 = .ok (.ifCond .ne 11, 3) := by decide +kernel
theorem dX6_isStep_4 : decode cX6_isStep 4 = .ok (.iload_n 2, 1) := by decide +kernel
theorem dX6_isStep_5 : decode cX6_isStep 5 = .ok (.iconst 1, 1) := by decide +kernel
theorem dX6_isStep_6 : decode cX6_isStep 6 = .ok (.bipush 20, 2) := by decide +kernel
theorem dX6_isStep_8 : decode cX6_isStep 8 = .ok (.invokestatic 32, 3) := by decide +kernel
theorem dX6_isStep_11 : decode cX6_isStep 11 = .ok (.ireturn, 1) := by decide +kernel
theorem dX6_isStep_12 : decode cX6_isStep 12 = .ok (.iload_n 1, 1) := by decide +kernel
theorem dX6_isStep_13 : decode cX6_isStep 13 = .ok (.iconst 1, 1) := by decide +kernel
theorem dX6_isStep_14 : decode cX6_isStep 14 = .ok (.if_icmp .eq 8, 3) := by decide +kernel
theorem dX6_isStep_17 : decode cX6_isStep 17 = .ok (.iload_n 1, 1) := by decide +kernel
theorem dX6_isStep_18 : decode cX6_isStep 18 = .ok (.iconst 2, 1) := by decide +kernel
theorem dX6_isStep_19 : decode cX6_isStep 19 = .ok (.if_icmp .ne 15, 3) := by decide +kernel
theorem dX6_isStep_22 : decode cX6_isStep 22 = .ok (.aload_n 0, 1) := by decide +kernel
theorem dX6_isStep_23 : decode cX6_isStep 23 = .ok (.iload_n 2, 1) := by decide +kernel
theorem dX6_isStep_24 : decode cX6_isStep 24 = .ok (.invokevirtual 98, 3) := by decide +kernel
theorem dX6_isStep_27 : decode cX6_isStep 27 = .ok (.ifCond .eq 7, 3) := by decide +kernel
theorem dX6_isStep_30 : decode cX6_isStep 30 = .ok (.iconst 1, 1) := by decide +kernel
theorem dX6_isStep_31 : decode cX6_isStep 31 = .ok (.goto 4, 3) := by decide +kernel
theorem dX6_isStep_34 : decode cX6_isStep 34 = .ok (.iconst 0, 1) := by decide +kernel
theorem dX6_isStep_35 : decode cX6_isStep 35 = .ok (.ireturn, 1) := by decide +kernel
theorem dX6_within_0 : decode cX6_within 0 = .ok (.iload_n 0, 1) := by decide +kernel
theorem dX6_within_1 : decode cX6_within 1 = .ok (.iload_n 1, 1) := by decide +kernel
theorem dX6_within_2 : decode cX6_within 2 = .ok (.if_icmp .lt 12, 3) := by decide +kernel
theorem dX6_within_5 : decode cX6_within 5 = .ok (.iload_n 0, 1) := by decide +kernel
theorem dX6_within_6 : decode cX6_within 6 = .ok (.iload_n 2, 1) := by decide +kernel
theorem dX6_within_7 : decode cX6_within 7 = .ok (.if_icmp .gt 7, 3) := by decide +kernel
theorem dX6_within_10 : decode cX6_within 10 = .ok (.iconst 1, 1) := by decide +kernel
theorem dX6_within_11 : decode cX6_within 11 = .ok (.goto 4, 3) := by decide +kernel
theorem dX6_within_14 : decode cX6_within 14 = .ok (.iconst 0, 1) := by decide +kernel
theorem dX6_within_15 : decode cX6_within 15 = .ok (.ireturn, 1) := by decide +kernel
theorem dX6_release_0 : decode cX6_release 0 = .ok (.aload_n 0, 1) := by decide +kernel
theorem dX6_release_1 : decode cX6_release 1 = .ok (.getfield 43, 3) := by decide +kernel
theorem dX6_release_4 : decode cX6_release 4 = .ok (.ifCond .eq 23, 3) := by decide +kernel
theorem dX6_release_7 : decode cX6_release 7 = .ok (.aload_n 0, 1) := by decide +kernel
theorem dX6_release_8 : decode cX6_release 8 = .ok (.iload_n 1, 1) := by decide +kernel
theorem dX6_release_9 : decode cX6_release 9 = .ok (.invokevirtual 58, 3) := by decide +kernel
theorem dX6_release_12 : decode cX6_release 12 = .ok (.ifCond .eq 15, 3) := by decide +kernel
theorem dX6_release_15 : decode cX6_release 15 = .ok (.aload_n 0, 1) := by decide +kernel
theorem dX6_release_16 : decode cX6_release 16 = .ok (.getfield 11, 3) := by decide +kernel
theorem dX6_release_19 : decode cX6_release 19 = .ok (.iload_n 1, 1) := by decide +kernel
theorem dX6_release_20 : decode cX6_release 20 = .ok (.aaload, 1) := by decide +kernel
theorem dX6_release_21 : decode cX6_release 21 = .ok (.getfield 101, 3) := by decide +kernel
theorem dX6_release_24 : decode cX6_release 24 = .ok (.ifCond .eq 5, 3) := by decide +kernel
theorem dX6_release_27 : decode cX6_release 27 = .ok (.iconst 0, 1) := by decide +kernel
theorem dX6_release_28 : decode cX6_release 28 = .ok (.ireturn, 1) := by decide +kernel
theorem dX6_release_29 : decode cX6_release 29 = .ok (.aload_n 0, 1) := by decide +kernel
theorem dX6_release_30 : decode cX6_release 30 = .ok (.aload_n 0, 1) := by decide +kernel
theorem dX6_release_31 : decode cX6_release 31 = .ok (.getfield 11, 3) := by decide +kernel
theorem dX6_release_34 : decode cX6_release 34 = .ok (.iload_n 1, 1) := by decide +kernel
theorem dX6_release_35 : decode cX6_release 35 = .ok (.aaload, 1) := by decide +kernel
theorem dX6_release_36 : decode cX6_release 36 = .ok (.invokevirtual 104, 3) := by decide +kernel
theorem dX6_release_39 : decode cX6_release 39 = .ok (.iconst 1, 1) := by decide +kernel
theorem dX6_release_40 : decode cX6_release 40 = .ok (.ireturn, 1) := by decide +kernel
theorem dX6_tick_0 : decode cX6_tick 0 = .ok (.iload_n 1, 1) := by decide +kernel
theorem dX6_tick_1 : decode cX6_tick 1 = .ok (.iconst 0, 1) := by decide +kernel
theorem dX6_tick_2 : decode cX6_tick 2 = .ok (.sipush 500, 3) := by decide +kernel
theorem dX6_tick_5 : decode cX6_tick 5 = .ok (.invokestatic 32, 3) := by decide +kernel
theorem dX6_tick_8 : decode cX6_tick 8 = .ok (.ifCond .ne 13, 3) := by decide +kernel
theorem dX6_tick_11 : decode cX6_tick 11 = .ok (.new 36, 3) := by decide +kernel
theorem dX6_tick_14 : decode cX6_tick 14 = .ok (.dup, 1) := by decide +kernel
theorem dX6_tick_15 : decode cX6_tick 15 = .ok (.ldc 108, 2) := by decide +kernel
theorem dX6_tick_17 : decode cX6_tick 17 = .ok (.invokespecial 40, 3) := by decide +kernel
theorem dX6_tick_20 : decode cX6_tick 20 = .ok (.athrow, 1) := by decide +kernel
theorem dX6_tick_21 : decode cX6_tick 21 = .ok (.aload_n 0, 1) := by decide +kernel
theorem dX6_tick_22 : decode cX6_tick 22 = .ok (.getfield 43, 3) := by decide +kernel
theorem dX6_tick_25 : decode cX6_tick 25 = .ok (.ifCond .ne 13, 3) := by decide +kernel
theorem dX6_tick_28 : decode cX6_tick 28 = .ok (.new 50, 3) := by decide +kernel
theorem dX6_tick_31 : decode cX6_tick 31 = .ok (.dup, 1) := by decide +kernel
theorem dX6_tick_32 : decode cX6_tick 32 = .ok (.ldc 110, 2) := by decide +kernel
theorem dX6_tick_34 : decode cX6_tick 34 = .ok (.invokespecial 54, 3) := by decide +kernel
theorem dX6_tick_37 : decode cX6_tick 37 = .ok (.athrow, 1) := by decide +kernel
theorem dX6_tick_38 : decode cX6_tick 38 = .ok (.iconst 0, 1) := by decide +kernel
theorem dX6_tick_39 : decode cX6_tick 39 = .ok (.istore_n 2, 1) := by decide +kernel
theorem dX6_tick_40 : decode cX6_tick 40 = .ok (.iconst 0, 1) := by decide +kernel
theorem dX6_tick_41 : decode cX6_tick 41 = .ok (.istore_n 3, 1) := by decide +kernel
theorem dX6_tick_42 : decode cX6_tick 42 = .ok (.iload_n 3, 1) := by decide +kernel
theorem dX6_tick_43 : decode cX6_tick 43 = .ok (.iload_n 1, 1) := by decide +kernel
theorem dX6_tick_44 : decode cX6_tick 44 = .ok (.if_icmp .ge 47, 3) := by decide +kernel
theorem dX6_tick_47 : decode cX6_tick 47 = .ok (.aload_n 0, 1) := by decide +kernel
theorem dX6_tick_48 : decode cX6_tick 48 = .ok (.invokevirtual 112, 3) := by decide +kernel
theorem dX6_tick_51 : decode cX6_tick 51 = .ok (.aload_n 0, 1) := by decide +kernel
theorem dX6_tick_52 : decode cX6_tick 52 = .ok (.invokevirtual 115, 3) := by decide +kernel
theorem dX6_tick_55 : decode cX6_tick 55 = .ok (.aload_n 0, 1) := by decide +kernel
theorem dX6_tick_56 : decode cX6_tick 56 = .ok (.invokevirtual 118, 3) := by decide +kernel
theorem dX6_tick_59 : decode cX6_tick 59 = .ok (.astore 4, 2) := by decide +kernel
theorem dX6_tick_61 : decode cX6_tick 61 = .ok (.aload 4, 2) := by decide +kernel
theorem dX6_tick_63 : decode cX6_tick 63 = .ok (.ifnull 12, 3) := by decide +kernel
theorem dX6_tick_66 : decode cX6_tick 66 = .ok (.aload_n 0, 1) := by decide +kernel
theorem dX6_tick_67 : decode cX6_tick 67 = .ok (.aload 4, 2) := by decide +kernel
theorem dX6_tick_69 : decode cX6_tick 69 = .ok (.invokevirtual 122, 3) := by decide +kernel
theorem dX6_tick_72 : decode cX6_tick 72 = .ok (.iinc 2 1, 3) := by decide +kernel
theorem dX6_tick_75 : decode cX6_tick 75 = .ok (.aload_n 0, 1) := by decide +kernel
theorem dX6_tick_76 : decode cX6_tick 76 = .ok (.dup, 1) := by decide +kernel
theorem dX6_tick_77 : decode cX6_tick 77 = .ok (.getfield 125, 3) := by decide +kernel
theorem dX6_tick_80 : decode cX6_tick 80 = .ok (.iconst 1, 1) := by decide +kernel
theorem dX6_tick_81 : decode cX6_tick 81 = .ok (.iadd, 1) := by decide +kernel
theorem dX6_tick_82 : decode cX6_tick 82 = .ok (.putfield 125, 3) := by decide +kernel
theorem dX6_tick_85 : decode cX6_tick 85 = .ok (.iinc 3 1, 3) := by decide +kernel
theorem dX6_tick_88 : decode cX6_tick 88 = .ok (.goto (-46), 3) := by decide +kernel
theorem dX6_tick_91 : decode cX6_tick 91 = .ok (.iload_n 2, 1) := by decide +kernel
theorem dX6_tick_92 : decode cX6_tick 92 = .ok (.ireturn, 1) := by decide +kernel
theorem dX6_noteMisses_0 : decode cX6_noteMisses 0 = .ok (.iconst 0, 1) := by decide +kernel
theorem dX6_noteMisses_1 : decode cX6_noteMisses 1 = .ok (.istore_n 1, 1) := by decide +kernel
theorem dX6_noteMisses_2 : decode cX6_noteMisses 2 = .ok (.iload_n 1, 1) := by decide +kernel
theorem dX6_noteMisses_3 : decode cX6_noteMisses 3 = .ok (.aload_n 0, 1) := by decide +kernel
theorem dX6_noteMisses_4 : decode cX6_noteMisses 4 = .ok (.getfield 46, 3) := by decide +kernel
theorem dX6_noteMisses_7 : decode cX6_noteMisses 7 = .ok (.if_icmp .ge 85, 3) := by decide +kernel
theorem dX6_noteMisses_10 : decode cX6_noteMisses 10 = .ok (.aload_n 0, 1) := by decide +kernel
theorem dX6_noteMisses_11 : decode cX6_noteMisses 11 = .ok (.getfield 11, 3) := by decide +kernel
theorem dX6_noteMisses_14 : decode cX6_noteMisses 14 = .ok (.iload_n 1, 1) := by decide +kernel
theorem dX6_noteMisses_15 : decode cX6_noteMisses 15 = .ok (.aaload, 1) := by decide +kernel
theorem dX6_noteMisses_16 : decode cX6_noteMisses 16 = .ok (.astore_n 2, 1) := by decide +kernel
theorem dX6_noteMisses_17 : decode cX6_noteMisses 17 = .ok (.aload_n 2, 1) := by decide +kernel
theorem dX6_noteMisses_18 : decode cX6_noteMisses 18 = .ok (.getfield 128, 3) := by decide +kernel
theorem dX6_noteMisses_21 : decode cX6_noteMisses 21 = .ok (.getfield 132, 3) := by decide +kernel
theorem dX6_noteMisses_24 : decode cX6_noteMisses 24 = .ok (.ifCond .eq 62, 3) := by decide +kernel
theorem dX6_noteMisses_27 : decode cX6_noteMisses 27 = .ok (.aload_n 2, 1) := by decide +kernel
theorem dX6_noteMisses_28 : decode cX6_noteMisses 28 = .ok (.getfield 128, 3) := by decide +kernel
theorem dX6_noteMisses_31 : decode cX6_noteMisses 31 = .ok (.getfield 137, 3) := by decide +kernel
theorem dX6_noteMisses_34 : decode cX6_noteMisses 34 = .ok (.aload_n 0, 1) := by decide +kernel
theorem dX6_noteMisses_35 : decode cX6_noteMisses 35 = .ok (.getfield 125, 3) := by decide +kernel
theorem dX6_noteMisses_38 : decode cX6_noteMisses 38 = .ok (.if_icmp .ne 48, 3) := by decide +kernel
theorem dX6_noteMisses_41 : decode cX6_noteMisses 41 = .ok (.aload_n 2, 1) := by decide +kernel
theorem dX6_noteMisses_42 : decode cX6_noteMisses 42 = .ok (.getfield 140, 3) := by decide +kernel
theorem dX6_noteMisses_45 : decode cX6_noteMisses 45 = .ok (.dup, 1) := by decide +kernel
theorem dX6_noteMisses_46 : decode cX6_noteMisses 46 = .ok (.getfield 144, 3) := by decide +kernel
theorem dX6_noteMisses_49 : decode cX6_noteMisses 49 = .ok (.iconst 1, 1) := by decide +kernel
theorem dX6_noteMisses_50 : decode cX6_noteMisses 50 = .ok (.iadd, 1) := by decide +kernel
theorem dX6_noteMisses_51 : decode cX6_noteMisses 51 = .ok (.putfield 144, 3) := by decide +kernel
theorem dX6_noteMisses_54 : decode cX6_noteMisses 54 = .ok (.aload_n 0, 1) := by decide +kernel
theorem dX6_noteMisses_55 : decode cX6_noteMisses 55 = .ok (.iconst 4, 1) := by decide +kernel
theorem dX6_noteMisses_56 : decode cX6_noteMisses 56 = .ok (.aload_n 2, 1) := by decide +kernel
theorem dX6_noteMisses_57 : decode cX6_noteMisses 57 = .ok (.invokevirtual 149, 3) := by decide +kernel
theorem dX6_noteMisses_60 : decode cX6_noteMisses 60 = .ok (.aload_n 2, 1) := by decide +kernel
theorem dX6_noteMisses_61 : decode cX6_noteMisses 61 = .ok (.getfield 62, 3) := by decide +kernel
theorem dX6_noteMisses_64 : decode cX6_noteMisses 64 = .ok (.ifCond .eq 22, 3) := by decide +kernel
theorem dX6_noteMisses_67 : decode cX6_noteMisses 67 = .ok (.aload_n 2, 1) := by decide +kernel
theorem dX6_noteMisses_68 : decode cX6_noteMisses 68 = .ok (.getfield 140, 3) := by decide +kernel
theorem dX6_noteMisses_71 : decode cX6_noteMisses 71 = .ok (.dup, 1) := by decide +kernel
theorem dX6_noteMisses_72 : decode cX6_noteMisses 72 = .ok (.getfield 153, 3) := by decide +kernel
theorem dX6_noteMisses_75 : decode cX6_noteMisses 75 = .ok (.iconst 1, 1) := by decide +kernel
theorem dX6_noteMisses_76 : decode cX6_noteMisses 76 = .ok (.iadd, 1) := by decide +kernel
theorem dX6_noteMisses_77 : decode cX6_noteMisses 77 = .ok (.putfield 153, 3) := by decide +kernel
theorem dX6_noteMisses_80 : decode cX6_noteMisses 80 = .ok (.aload_n 0, 1) := by decide +kernel
theorem dX6_noteMisses_81 : decode cX6_noteMisses 81 = .ok (.aload_n 2, 1) := by decide +kernel
theorem dX6_noteMisses_82 : decode cX6_noteMisses 82 = .ok (.iconst 3, 1) := by decide +kernel
theorem dX6_noteMisses_83 : decode cX6_noteMisses 83 = .ok (.invokevirtual 156, 3) := by decide +kernel
theorem dX6_noteMisses_86 : decode cX6_noteMisses 86 = .ok (.iinc 1 1, 3) := by decide +kernel
theorem dX6_noteMisses_89 : decode cX6_noteMisses 89 = .ok (.goto (-87), 3) := by decide +kernel
theorem dX6_noteMisses_92 : decode cX6_noteMisses 92 = .ok (.return_, 1) := by decide +kernel
theorem dX6_releasePeriodic_0 : decode cX6_releasePeriodic 0 = .ok (.iconst 0, 1) := by decide +kernel
theorem dX6_releasePeriodic_1 : decode cX6_releasePeriodic 1 = .ok (.istore_n 1, 1) := by decide +kernel
theorem dX6_releasePeriodic_2 : decode cX6_releasePeriodic 2 = .ok (.iload_n 1, 1) := by decide +kernel
theorem dX6_releasePeriodic_3 : decode cX6_releasePeriodic 3 = .ok (.aload_n 0, 1) := by decide +kernel
theorem dX6_releasePeriodic_4 : decode cX6_releasePeriodic 4 = .ok (.getfield 46, 3) := by decide +kernel
theorem dX6_releasePeriodic_7 : decode cX6_releasePeriodic 7 = .ok (.if_icmp .ge 35, 3) := by decide +kernel
theorem dX6_releasePeriodic_10 : decode cX6_releasePeriodic 10 = .ok (.aload_n 0, 1) := by decide +kernel
theorem dX6_releasePeriodic_11 : decode cX6_releasePeriodic 11 = .ok (.getfield 11, 3) := by decide +kernel
theorem dX6_releasePeriodic_14 : decode cX6_releasePeriodic 14 = .ok (.iload_n 1, 1) := by decide +kernel
theorem dX6_releasePeriodic_15 : decode cX6_releasePeriodic 15 = .ok (.aaload, 1) := by decide +kernel
theorem dX6_releasePeriodic_16 : decode cX6_releasePeriodic 16 = .ok (.aload_n 0, 1) := by decide +kernel
theorem dX6_releasePeriodic_17 : decode cX6_releasePeriodic 17 = .ok (.getfield 125, 3) := by decide +kernel
theorem dX6_releasePeriodic_20 : decode cX6_releasePeriodic 20 = .ok (.invokevirtual 160, 3) := by decide +kernel
theorem dX6_releasePeriodic_23 : decode cX6_releasePeriodic 23 = .ok (.ifCond .eq 13, 3) := by decide +kernel
theorem dX6_releasePeriodic_26 : decode cX6_releasePeriodic 26 = .ok (.aload_n 0, 1) := by decide +kernel
theorem dX6_releasePeriodic_27 : decode cX6_releasePeriodic 27 = .ok (.aload_n 0, 1) := by decide +kernel
theorem dX6_releasePeriodic_28 : decode cX6_releasePeriodic 28 = .ok (.getfield 11, 3) := by decide +kernel
theorem dX6_releasePeriodic_31 : decode cX6_releasePeriodic 31 = .ok (.iload_n 1, 1) := by decide +kernel
theorem dX6_releasePeriodic_32 : decode cX6_releasePeriodic 32 = .ok (.aaload, 1) := by decide +kernel
theorem dX6_releasePeriodic_33 : decode cX6_releasePeriodic 33 = .ok (.invokevirtual 104, 3) := by decide +kernel
theorem dX6_releasePeriodic_36 : decode cX6_releasePeriodic 36 = .ok (.iinc 1 1, 3) := by decide +kernel
theorem dX6_releasePeriodic_39 : decode cX6_releasePeriodic 39 = .ok (.goto (-37), 3) := by decide +kernel
theorem dX6_releasePeriodic_42 : decode cX6_releasePeriodic 42 = .ok (.return_, 1) := by decide +kernel
theorem dX6_beginJob_0 : decode cX6_beginJob 0 = .ok (.aload_n 1, 1) := by decide +kernel
theorem dX6_beginJob_1 : decode cX6_beginJob 1 = .ok (.getfield 128, 3) := by decide +kernel
theorem dX6_beginJob_4 : decode cX6_beginJob 4 = .ok (.getfield 132, 3) := by decide +kernel
theorem dX6_beginJob_7 : decode cX6_beginJob 7 = .ok (.ifCond .eq 23, 3) := by decide +kernel
theorem dX6_beginJob_10 : decode cX6_beginJob 10 = .ok (.aload_n 1, 1) := by decide +kernel
theorem dX6_beginJob_11 : decode cX6_beginJob 11 = .ok (.getfield 140, 3) := by decide +kernel
theorem dX6_beginJob_14 : decode cX6_beginJob 14 = .ok (.dup, 1) := by decide +kernel
theorem dX6_beginJob_15 : decode cX6_beginJob 15 = .ok (.getfield 163, 3) := by decide +kernel
theorem dX6_beginJob_18 : decode cX6_beginJob 18 = .ok (.iconst 1, 1) := by decide +kernel
theorem dX6_beginJob_19 : decode cX6_beginJob 19 = .ok (.iadd, 1) := by decide +kernel
theorem dX6_beginJob_20 : decode cX6_beginJob 20 = .ok (.putfield 163, 3) := by decide +kernel
theorem dX6_beginJob_23 : decode cX6_beginJob 23 = .ok (.aload_n 0, 1) := by decide +kernel
theorem dX6_beginJob_24 : decode cX6_beginJob 24 = .ok (.iconst 1, 1) := by decide +kernel
theorem dX6_beginJob_25 : decode cX6_beginJob 25 = .ok (.aload_n 1, 1) := by decide +kernel
theorem dX6_beginJob_26 : decode cX6_beginJob 26 = .ok (.invokevirtual 149, 3) := by decide +kernel
theorem dX6_beginJob_29 : decode cX6_beginJob 29 = .ok (.return_, 1) := by decide +kernel
theorem dX6_beginJob_30 : decode cX6_beginJob 30 = .ok (.aload_n 1, 1) := by decide +kernel
theorem dX6_beginJob_31 : decode cX6_beginJob 31 = .ok (.getfield 128, 3) := by decide +kernel
theorem dX6_beginJob_34 : decode cX6_beginJob 34 = .ok (.aload_n 0, 1) := by decide +kernel
theorem dX6_beginJob_35 : decode cX6_beginJob 35 = .ok (.getfield 125, 3) := by decide +kernel
theorem dX6_beginJob_38 : decode cX6_beginJob 38 = .ok (.aload_n 1, 1) := by decide +kernel
theorem dX6_beginJob_39 : decode cX6_beginJob 39 = .ok (.getfield 166, 3) := by decide +kernel
theorem dX6_beginJob_42 : decode cX6_beginJob 42 = .ok (.aload_n 0, 1) := by decide +kernel
theorem dX6_beginJob_43 : decode cX6_beginJob 43 = .ok (.invokevirtual 169, 3) := by decide +kernel
theorem dX6_beginJob_46 : decode cX6_beginJob 46 = .ok (.invokevirtual 173, 3) := by decide +kernel
theorem dX6_beginJob_49 : decode cX6_beginJob 49 = .ok (.aload_n 0, 1) := by decide +kernel
theorem dX6_beginJob_50 : decode cX6_beginJob 50 = .ok (.iconst 0, 1) := by decide +kernel
theorem dX6_beginJob_51 : decode cX6_beginJob 51 = .ok (.aload_n 1, 1) := by decide +kernel
theorem dX6_beginJob_52 : decode cX6_beginJob 52 = .ok (.invokevirtual 149, 3) := by decide +kernel
theorem dX6_beginJob_55 : decode cX6_beginJob 55 = .ok (.return_, 1) := by decide +kernel
theorem dX6_settle_0 : decode cX6_settle 0 = .ok (.iconst 0, 1) := by decide +kernel
theorem dX6_settle_1 : decode cX6_settle 1 = .ok (.istore_n 1, 1) := by decide +kernel
theorem dX6_settle_2 : decode cX6_settle 2 = .ok (.iload_n 1, 1) := by decide +kernel
theorem dX6_settle_3 : decode cX6_settle 3 = .ok (.sipush 1000, 3) := by decide +kernel
theorem dX6_settle_6 : decode cX6_settle 6 = .ok (.if_icmp .ge 36, 3) := by decide +kernel
theorem dX6_settle_9 : decode cX6_settle 9 = .ok (.aload_n 0, 1) := by decide +kernel
theorem dX6_settle_10 : decode cX6_settle 10 = .ok (.invokevirtual 176, 3) := by decide +kernel
theorem dX6_settle_13 : decode cX6_settle 13 = .ok (.astore_n 2, 1) := by decide +kernel
theorem dX6_settle_14 : decode cX6_settle 14 = .ok (.aload_n 2, 1) := by decide +kernel
theorem dX6_settle_15 : decode cX6_settle 15 = .ok (.ifnull 10, 3) := by decide +kernel
theorem dX6_settle_18 : decode cX6_settle 18 = .ok (.aload_n 2, 1) := by decide +kernel
theorem dX6_settle_19 : decode cX6_settle 19 = .ok (.invokevirtual 179, 3) := by decide +kernel
theorem dX6_settle_22 : decode cX6_settle 22 = .ok (.ifCond .eq 5, 3) := by decide +kernel
theorem dX6_settle_25 : decode cX6_settle 25 = .ok (.aload_n 2, 1) := by decide +kernel
theorem dX6_settle_26 : decode cX6_settle 26 = .ok (.areturn, 1) := by decide +kernel
theorem dX6_settle_27 : decode cX6_settle 27 = .ok (.aload_n 0, 1) := by decide +kernel
theorem dX6_settle_28 : decode cX6_settle 28 = .ok (.aload_n 2, 1) := by decide +kernel
theorem dX6_settle_29 : decode cX6_settle 29 = .ok (.aload_n 0, 1) := by decide +kernel
theorem dX6_settle_30 : decode cX6_settle 30 = .ok (.getfield 125, 3) := by decide +kernel
theorem dX6_settle_33 : decode cX6_settle 33 = .ok (.invokevirtual 183, 3) := by decide +kernel
theorem dX6_settle_36 : decode cX6_settle 36 = .ok (.iinc 1 1, 3) := by decide +kernel
theorem dX6_settle_39 : decode cX6_settle 39 = .ok (.goto (-37), 3) := by decide +kernel
theorem dX6_settle_42 : decode cX6_settle 42 = .ok (.aconst_null, 1) := by decide +kernel
theorem dX6_settle_43 : decode cX6_settle 43 = .ok (.areturn, 1) := by decide +kernel
theorem dX6_workOneUnit_0 : decode cX6_workOneUnit 0 = .ok (.aload_n 1, 1) := by decide +kernel
theorem dX6_workOneUnit_1 : decode cX6_workOneUnit 1 = .ok (.getfield 128, 3) := by decide +kernel
theorem dX6_workOneUnit_4 : decode cX6_workOneUnit 4 = .ok (.astore_n 2, 1) := by decide +kernel
theorem dX6_workOneUnit_5 : decode cX6_workOneUnit 5 = .ok (.aload_n 0, 1) := by decide +kernel
theorem dX6_workOneUnit_6 : decode cX6_workOneUnit 6 = .ok (.aload_n 1, 1) := by decide +kernel
theorem dX6_workOneUnit_7 : decode cX6_workOneUnit 7 = .ok (.putfield 186, 3) := by decide +kernel
theorem dX6_workOneUnit_10 : decode cX6_workOneUnit 10 = .ok (.aload_n 2, 1) := by decide +kernel
theorem dX6_workOneUnit_11 : decode cX6_workOneUnit 11 = .ok (.dup, 1) := by decide +kernel
theorem dX6_workOneUnit_12 : decode cX6_workOneUnit 12 = .ok (.getfield 190, 3) := by decide +kernel
theorem dX6_workOneUnit_15 : decode cX6_workOneUnit 15 = .ok (.iconst 1, 1) := by decide +kernel
theorem dX6_workOneUnit_16 : decode cX6_workOneUnit 16 = .ok (.iadd, 1) := by decide +kernel
theorem dX6_workOneUnit_17 : decode cX6_workOneUnit 17 = .ok (.putfield 190, 3) := by decide +kernel
theorem dX6_workOneUnit_20 : decode cX6_workOneUnit 20 = .ok (.aload_n 2, 1) := by decide +kernel
theorem dX6_workOneUnit_21 : decode cX6_workOneUnit 21 = .ok (.dup, 1) := by decide +kernel
theorem dX6_workOneUnit_22 : decode cX6_workOneUnit 22 = .ok (.getfield 193, 3) := by decide +kernel
theorem dX6_workOneUnit_25 : decode cX6_workOneUnit 25 = .ok (.iconst 1, 1) := by decide +kernel
theorem dX6_workOneUnit_26 : decode cX6_workOneUnit 26 = .ok (.iadd, 1) := by decide +kernel
theorem dX6_workOneUnit_27 : decode cX6_workOneUnit 27 = .ok (.putfield 193, 3) := by decide +kernel
theorem dX6_workOneUnit_30 : decode cX6_workOneUnit 30 = .ok (.aload_n 1, 1) := by decide +kernel
theorem dX6_workOneUnit_31 : decode cX6_workOneUnit 31 = .ok (.getfield 140, 3) := by decide +kernel
theorem dX6_workOneUnit_34 : decode cX6_workOneUnit 34 = .ok (.dup, 1) := by decide +kernel
theorem dX6_workOneUnit_35 : decode cX6_workOneUnit 35 = .ok (.getfield 196, 3) := by decide +kernel
theorem dX6_workOneUnit_38 : decode cX6_workOneUnit 38 = .ok (.iconst 1, 1) := by decide +kernel
theorem dX6_workOneUnit_39 : decode cX6_workOneUnit 39 = .ok (.iadd, 1) := by decide +kernel
theorem dX6_workOneUnit_40 : decode cX6_workOneUnit 40 = .ok (.putfield 196, 3) := by decide +kernel
theorem dX6_workOneUnit_43 : decode cX6_workOneUnit 43 = .ok (.aload_n 2, 1) := by decide +kernel
theorem dX6_workOneUnit_44 : decode cX6_workOneUnit 44 = .ok (.getfield 190, 3) := by decide +kernel
theorem dX6_workOneUnit_47 : decode cX6_workOneUnit 47 = .ok (.aload_n 1, 1) := by decide +kernel
theorem dX6_workOneUnit_48 : decode cX6_workOneUnit 48 = .ok (.getfield 197, 3) := by decide +kernel
theorem dX6_workOneUnit_51 : decode cX6_workOneUnit 51 = .ok (.iconst 1, 1) := by decide +kernel
theorem dX6_workOneUnit_52 : decode cX6_workOneUnit 52 = .ok (.iadd, 1) := by decide +kernel
theorem dX6_workOneUnit_53 : decode cX6_workOneUnit 53 = .ok (.if_icmp .ne 10, 3) := by decide +kernel
theorem dX6_workOneUnit_56 : decode cX6_workOneUnit 56 = .ok (.aload_n 0, 1) := by decide +kernel
theorem dX6_workOneUnit_57 : decode cX6_workOneUnit 57 = .ok (.bipush 7, 2) := by decide +kernel
theorem dX6_workOneUnit_59 : decode cX6_workOneUnit 59 = .ok (.aload_n 1, 1) := by decide +kernel
theorem dX6_workOneUnit_60 : decode cX6_workOneUnit 60 = .ok (.invokevirtual 149, 3) := by decide +kernel
theorem dX6_workOneUnit_63 : decode cX6_workOneUnit 63 = .ok (.aload_n 2, 1) := by decide +kernel
theorem dX6_workOneUnit_64 : decode cX6_workOneUnit 64 = .ok (.getfield 193, 3) := by decide +kernel
theorem dX6_workOneUnit_67 : decode cX6_workOneUnit 67 = .ok (.aload_n 1, 1) := by decide +kernel
theorem dX6_workOneUnit_68 : decode cX6_workOneUnit 68 = .ok (.getfield 81, 3) := by decide +kernel
theorem dX6_workOneUnit_71 : decode cX6_workOneUnit 71 = .ok (.getfield 200, 3) := by decide +kernel
theorem dX6_workOneUnit_74 : decode cX6_workOneUnit 74 = .ok (.aload_n 2, 1) := by decide +kernel
theorem dX6_workOneUnit_75 : decode cX6_workOneUnit 75 = .ok (.getfield 204, 3) := by decide +kernel
theorem dX6_workOneUnit_78 : decode cX6_workOneUnit 78 = .ok (.iaload, 1) := by decide +kernel
theorem dX6_workOneUnit_79 : decode cX6_workOneUnit 79 = .ok (.if_icmp .lt 18, 3) := by decide +kernel
theorem dX6_workOneUnit_82 : decode cX6_workOneUnit 82 = .ok (.aload_n 2, 1) := by decide +kernel
theorem dX6_workOneUnit_83 : decode cX6_workOneUnit 83 = .ok (.invokevirtual 207, 3) := by decide +kernel
theorem dX6_workOneUnit_86 : decode cX6_workOneUnit 86 = .ok (.aload_n 0, 1) := by decide +kernel
theorem dX6_workOneUnit_87 : decode cX6_workOneUnit 87 = .ok (.aload_n 1, 1) := by decide +kernel
theorem dX6_workOneUnit_88 : decode cX6_workOneUnit 88 = .ok (.aload_n 0, 1) := by decide +kernel
theorem dX6_workOneUnit_89 : decode cX6_workOneUnit 89 = .ok (.getfield 125, 3) := by decide +kernel
theorem dX6_workOneUnit_92 : decode cX6_workOneUnit 92 = .ok (.iconst 1, 1) := by decide +kernel
theorem dX6_workOneUnit_93 : decode cX6_workOneUnit 93 = .ok (.iadd, 1) := by decide +kernel
theorem dX6_workOneUnit_94 : decode cX6_workOneUnit 94 = .ok (.invokevirtual 183, 3) := by decide +kernel
theorem dX6_workOneUnit_97 : decode cX6_workOneUnit 97 = .ok (.return_, 1) := by decide +kernel
theorem dX6_goOn_0 : decode cX6_goOn 0 = .ok (.aload_n 1, 1) := by decide +kernel
theorem dX6_goOn_1 : decode cX6_goOn 1 = .ok (.getfield 128, 3) := by decide +kernel
theorem dX6_goOn_4 : decode cX6_goOn 4 = .ok (.astore_n 3, 1) := by decide +kernel
theorem dX6_goOn_5 : decode cX6_goOn 5 = .ok (.aload_n 1, 1) := by decide +kernel
theorem dX6_goOn_6 : decode cX6_goOn 6 = .ok (.getfield 81, 3) := by decide +kernel
theorem dX6_goOn_9 : decode cX6_goOn 9 = .ok (.astore 4, 2) := by decide +kernel
theorem dX6_goOn_11 : decode cX6_goOn 11 = .ok (.aload 4, 2) := by decide +kernel
theorem dX6_goOn_13 : decode cX6_goOn 13 = .ok (.getfield 85, 3) := by decide +kernel
theorem dX6_goOn_16 : decode cX6_goOn 16 = .ok (.aload_n 3, 1) := by decide +kernel
theorem dX6_goOn_17 : decode cX6_goOn 17 = .ok (.getfield 204, 3) := by decide +kernel
theorem dX6_goOn_20 : decode cX6_goOn 20 = .ok (.isub, 1) := by decide +kernel
theorem dX6_goOn_21 : decode cX6_goOn 21 = .ok (.istore 5, 2) := by decide +kernel
theorem dX6_goOn_23 : decode cX6_goOn 23 = .ok (.iload 5, 2) := by decide +kernel
theorem dX6_goOn_25 : decode cX6_goOn 25 = .ok (.ifCond .le 129, 3) := by decide +kernel
theorem dX6_goOn_28 : decode cX6_goOn 28 = .ok (.aload 4, 2) := by decide +kernel
theorem dX6_goOn_30 : decode cX6_goOn 30 = .ok (.getfield 210, 3) := by decide +kernel
theorem dX6_goOn_33 : decode cX6_goOn 33 = .ok (.aload_n 3, 1) := by decide +kernel
theorem dX6_goOn_34 : decode cX6_goOn 34 = .ok (.getfield 204, 3) := by decide +kernel
theorem dX6_goOn_37 : decode cX6_goOn 37 = .ok (.iaload, 1) := by decide +kernel
theorem dX6_goOn_38 : decode cX6_goOn 38 = .ok (.istore 6, 2) := by decide +kernel
theorem dX6_goOn_40 : decode cX6_goOn 40 = .ok (.iload 6, 2) := by decide +kernel
theorem dX6_goOn_42 : decode cX6_goOn 42 = .ok (.ifCond .ne 4, 3) := by decide +kernel
theorem dX6_goOn_45 : decode cX6_goOn 45 = .ok (.return_, 1) := by decide +kernel
theorem dX6_goOn_46 : decode cX6_goOn 46 = .ok (.aload_n 0, 1) := by decide +kernel
theorem dX6_goOn_47 : decode cX6_goOn 47 = .ok (.getfield 17, 3) := by decide +kernel
theorem dX6_goOn_50 : decode cX6_goOn 50 = .ok (.aload 4, 2) := by decide +kernel
theorem dX6_goOn_52 : decode cX6_goOn 52 = .ok (.getfield 200, 3) := by decide +kernel
theorem dX6_goOn_55 : decode cX6_goOn 55 = .ok (.aload_n 3, 1) := by decide +kernel
theorem dX6_goOn_56 : decode cX6_goOn 56 = .ok (.getfield 204, 3) := by decide +kernel
theorem dX6_goOn_59 : decode cX6_goOn 59 = .ok (.iaload, 1) := by decide +kernel
theorem dX6_goOn_60 : decode cX6_goOn 60 = .ok (.aaload, 1) := by decide +kernel
theorem dX6_goOn_61 : decode cX6_goOn 61 = .ok (.astore 7, 2) := by decide +kernel
theorem dX6_goOn_63 : decode cX6_goOn 63 = .ok (.aload_n 0, 1) := by decide +kernel
theorem dX6_goOn_64 : decode cX6_goOn 64 = .ok (.aload_n 1, 1) := by decide +kernel
theorem dX6_goOn_65 : decode cX6_goOn 65 = .ok (.iload 6, 2) := by decide +kernel
theorem dX6_goOn_67 : decode cX6_goOn 67 = .ok (.aload 7, 2) := by decide +kernel
theorem dX6_goOn_69 : decode cX6_goOn 69 = .ok (.invokevirtual 213, 3) := by decide +kernel
theorem dX6_goOn_72 : decode cX6_goOn 72 = .ok (.ifCond .eq 23, 3) := by decide +kernel
theorem dX6_goOn_75 : decode cX6_goOn 75 = .ok (.aload_n 1, 1) := by decide +kernel
theorem dX6_goOn_76 : decode cX6_goOn 76 = .ok (.getfield 140, 3) := by decide +kernel
theorem dX6_goOn_79 : decode cX6_goOn 79 = .ok (.dup, 1) := by decide +kernel
theorem dX6_goOn_80 : decode cX6_goOn 80 = .ok (.getfield 153, 3) := by decide +kernel
theorem dX6_goOn_83 : decode cX6_goOn 83 = .ok (.iconst 1, 1) := by decide +kernel
theorem dX6_goOn_84 : decode cX6_goOn 84 = .ok (.iadd, 1) := by decide +kernel
theorem dX6_goOn_85 : decode cX6_goOn 85 = .ok (.putfield 153, 3) := by decide +kernel
theorem dX6_goOn_88 : decode cX6_goOn 88 = .ok (.aload_n 0, 1) := by decide +kernel
theorem dX6_goOn_89 : decode cX6_goOn 89 = .ok (.aload_n 1, 1) := by decide +kernel
theorem dX6_goOn_90 : decode cX6_goOn 90 = .ok (.iconst 3, 1) := by decide +kernel
theorem dX6_goOn_91 : decode cX6_goOn 91 = .ok (.invokevirtual 156, 3) := by decide +kernel
theorem dX6_goOn_94 : decode cX6_goOn 94 = .ok (.return_, 1) := by decide +kernel
theorem dX6_goOn_95 : decode cX6_goOn 95 = .ok (.iload 6, 2) := by decide +kernel
theorem dX6_goOn_97 : decode cX6_goOn 97 = .ok (.iconst 2, 1) := by decide +kernel
theorem dX6_goOn_98 : decode cX6_goOn 98 = .ok (.if_icmp .ne 12, 3) := by decide +kernel
theorem dX6_goOn_101 : decode cX6_goOn 101 = .ok (.aload_n 0, 1) := by decide +kernel
theorem dX6_goOn_102 : decode cX6_goOn 102 = .ok (.aload 7, 2) := by decide +kernel
theorem dX6_goOn_104 : decode cX6_goOn 104 = .ok (.invokevirtual 217, 3) := by decide +kernel
theorem dX6_goOn_107 : decode cX6_goOn 107 = .ok (.goto 37, 3) := by decide +kernel
theorem dX6_goOn_110 : decode cX6_goOn 110 = .ok (.aload 7, 2) := by decide +kernel
theorem dX6_goOn_112 : decode cX6_goOn 112 = .ok (.getfield 221, 3) := by decide +kernel
theorem dX6_goOn_115 : decode cX6_goOn 115 = .ok (.ifnonnull 12, 3) := by decide +kernel
theorem dX6_goOn_118 : decode cX6_goOn 118 = .ok (.aload 7, 2) := by decide +kernel
theorem dX6_goOn_120 : decode cX6_goOn 120 = .ok (.aload_n 1, 1) := by decide +kernel
theorem dX6_goOn_121 : decode cX6_goOn 121 = .ok (.putfield 221, 3) := by decide +kernel
theorem dX6_goOn_124 : decode cX6_goOn 124 = .ok (.goto 20, 3) := by decide +kernel
theorem dX6_goOn_127 : decode cX6_goOn 127 = .ok (.aload_n 3, 1) := by decide +kernel
theorem dX6_goOn_128 : decode cX6_goOn 128 = .ok (.aload 7, 2) := by decide +kernel
theorem dX6_goOn_130 : decode cX6_goOn 130 = .ok (.aload_n 0, 1) := by decide +kernel
theorem dX6_goOn_131 : decode cX6_goOn 131 = .ok (.invokevirtual 169, 3) := by decide +kernel
theorem dX6_goOn_134 : decode cX6_goOn 134 = .ok (.invokevirtual 224, 3) := by decide +kernel
theorem dX6_goOn_137 : decode cX6_goOn 137 = .ok (.aload_n 0, 1) := by decide +kernel
theorem dX6_goOn_138 : decode cX6_goOn 138 = .ok (.iconst 5, 1) := by decide +kernel
theorem dX6_goOn_139 : decode cX6_goOn 139 = .ok (.aload_n 1, 1) := by decide +kernel
theorem dX6_goOn_140 : decode cX6_goOn 140 = .ok (.invokevirtual 149, 3) := by decide +kernel
theorem dX6_goOn_143 : decode cX6_goOn 143 = .ok (.return_, 1) := by decide +kernel
theorem dX6_goOn_144 : decode cX6_goOn 144 = .ok (.aload_n 3, 1) := by decide +kernel
theorem dX6_goOn_145 : decode cX6_goOn 145 = .ok (.invokevirtual 207, 3) := by decide +kernel
theorem dX6_goOn_148 : decode cX6_goOn 148 = .ok (.iinc 5 (-1), 3) := by decide +kernel
theorem dX6_goOn_151 : decode cX6_goOn 151 = .ok (.goto (-128), 3) := by decide +kernel
theorem dX6_goOn_154 : decode cX6_goOn 154 = .ok (.aload_n 1, 1) := by decide +kernel
theorem dX6_goOn_155 : decode cX6_goOn 155 = .ok (.getfield 140, 3) := by decide +kernel
theorem dX6_goOn_158 : decode cX6_goOn 158 = .ok (.iload_n 2, 1) := by decide +kernel
theorem dX6_goOn_159 : decode cX6_goOn 159 = .ok (.aload_n 3, 1) := by decide +kernel
theorem dX6_goOn_160 : decode cX6_goOn 160 = .ok (.getfield 228, 3) := by decide +kernel
theorem dX6_goOn_163 : decode cX6_goOn 163 = .ok (.isub, 1) := by decide +kernel
theorem dX6_goOn_164 : decode cX6_goOn 164 = .ok (.invokevirtual 231, 3) := by decide +kernel
theorem dX6_goOn_167 : decode cX6_goOn 167 = .ok (.aload_n 0, 1) := by decide +kernel
theorem dX6_goOn_168 : decode cX6_goOn 168 = .ok (.aload_n 1, 1) := by decide +kernel
theorem dX6_goOn_169 : decode cX6_goOn 169 = .ok (.iconst 2, 1) := by decide +kernel
theorem dX6_goOn_170 : decode cX6_goOn 170 = .ok (.invokevirtual 156, 3) := by decide +kernel
theorem dX6_goOn_173 : decode cX6_goOn 173 = .ok (.return_, 1) := by decide +kernel
theorem dX6_stepFails_0 : decode cX6_stepFails 0 = .ok (.iload_n 2, 1) := by decide +kernel
theorem dX6_stepFails_1 : decode cX6_stepFails 1 = .ok (.iconst 2, 1) := by decide +kernel
theorem dX6_stepFails_2 : decode cX6_stepFails 2 = .ok (.if_icmp .ne 17, 3) := by decide +kernel
theorem dX6_stepFails_5 : decode cX6_stepFails 5 = .ok (.aload_n 3, 1) := by decide +kernel
theorem dX6_stepFails_6 : decode cX6_stepFails 6 = .ok (.getfield 221, 3) := by decide +kernel
theorem dX6_stepFails_9 : decode cX6_stepFails 9 = .ok (.aload_n 1, 1) := by decide +kernel
theorem dX6_stepFails_10 : decode cX6_stepFails 10 = .ok (.if_acmp .eq 7, 3) := by decide +kernel
theorem dX6_stepFails_13 : decode cX6_stepFails 13 = .ok (.iconst 1, 1) := by decide +kernel
theorem dX6_stepFails_14 : decode cX6_stepFails 14 = .ok (.goto 4, 3) := by decide +kernel
theorem dX6_stepFails_17 : decode cX6_stepFails 17 = .ok (.iconst 0, 1) := by decide +kernel
theorem dX6_stepFails_18 : decode cX6_stepFails 18 = .ok (.ireturn, 1) := by decide +kernel
theorem dX6_stepFails_19 : decode cX6_stepFails 19 = .ok (.aload_n 0, 1) := by decide +kernel
theorem dX6_stepFails_20 : decode cX6_stepFails 20 = .ok (.getfield 28, 3) := by decide +kernel
theorem dX6_stepFails_23 : decode cX6_stepFails 23 = .ok (.ifCond .ne 26, 3) := by decide +kernel
theorem dX6_stepFails_26 : decode cX6_stepFails 26 = .ok (.aload_n 3, 1) := by decide +kernel
theorem dX6_stepFails_27 : decode cX6_stepFails 27 = .ok (.getfield 235, 3) := by decide +kernel
theorem dX6_stepFails_30 : decode cX6_stepFails 30 = .ok (.iconst 2, 1) := by decide +kernel
theorem dX6_stepFails_31 : decode cX6_stepFails 31 = .ok (.if_icmp .ne 18, 3) := by decide +kernel
theorem dX6_stepFails_34 : decode cX6_stepFails 34 = .ok (.aload_n 1, 1) := by decide +kernel
theorem dX6_stepFails_35 : decode cX6_stepFails 35 = .ok (.getfield 238, 3) := by decide +kernel
theorem dX6_stepFails_38 : decode cX6_stepFails 38 = .ok (.aload_n 3, 1) := by decide +kernel
theorem dX6_stepFails_39 : decode cX6_stepFails 39 = .ok (.getfield 241, 3) := by decide +kernel
theorem dX6_stepFails_42 : decode cX6_stepFails 42 = .ok (.if_icmp .le 7, 3) := by decide +kernel
theorem dX6_stepFails_45 : decode cX6_stepFails 45 = .ok (.iconst 1, 1) := by decide +kernel
theorem dX6_stepFails_46 : decode cX6_stepFails 46 = .ok (.goto 4, 3) := by decide +kernel
theorem dX6_stepFails_49 : decode cX6_stepFails 49 = .ok (.iconst 0, 1) := by decide +kernel
theorem dX6_stepFails_50 : decode cX6_stepFails 50 = .ok (.istore 4, 2) := by decide +kernel
theorem dX6_stepFails_52 : decode cX6_stepFails 52 = .ok (.aload_n 3, 1) := by decide +kernel
theorem dX6_stepFails_53 : decode cX6_stepFails 53 = .ok (.getfield 221, 3) := by decide +kernel
theorem dX6_stepFails_56 : decode cX6_stepFails 56 = .ok (.aload_n 1, 1) := by decide +kernel
theorem dX6_stepFails_57 : decode cX6_stepFails 57 = .ok (.if_acmp .eq 8, 3) := by decide +kernel
theorem dX6_stepFails_60 : decode cX6_stepFails 60 = .ok (.iload 4, 2) := by decide +kernel
theorem dX6_stepFails_62 : decode cX6_stepFails 62 = .ok (.ifCond .eq 7, 3) := by decide +kernel
theorem dX6_stepFails_65 : decode cX6_stepFails 65 = .ok (.iconst 1, 1) := by decide +kernel
theorem dX6_stepFails_66 : decode cX6_stepFails 66 = .ok (.goto 4, 3) := by decide +kernel
theorem dX6_stepFails_69 : decode cX6_stepFails 69 = .ok (.iconst 0, 1) := by decide +kernel
theorem dX6_stepFails_70 : decode cX6_stepFails 70 = .ok (.ireturn, 1) := by decide +kernel
theorem dX6_endJob_0 : decode cX6_endJob 0 = .ok (.aload_n 0, 1) := by decide +kernel
theorem dX6_endJob_1 : decode cX6_endJob 1 = .ok (.iload_n 2, 1) := by decide +kernel
theorem dX6_endJob_2 : decode cX6_endJob 2 = .ok (.aload_n 1, 1) := by decide +kernel
theorem dX6_endJob_3 : decode cX6_endJob 3 = .ok (.invokevirtual 149, 3) := by decide +kernel
theorem dX6_endJob_6 : decode cX6_endJob 6 = .ok (.aload_n 1, 1) := by decide +kernel
theorem dX6_endJob_7 : decode cX6_endJob 7 = .ok (.getfield 128, 3) := by decide +kernel
theorem dX6_endJob_10 : decode cX6_endJob 10 = .ok (.invokevirtual 244, 3) := by decide +kernel
theorem dX6_endJob_13 : decode cX6_endJob 13 = .ok (.iconst 0, 1) := by decide +kernel
theorem dX6_endJob_14 : decode cX6_endJob 14 = .ok (.istore_n 3, 1) := by decide +kernel
theorem dX6_endJob_15 : decode cX6_endJob 15 = .ok (.iload_n 3, 1) := by decide +kernel
theorem dX6_endJob_16 : decode cX6_endJob 16 = .ok (.aload_n 0, 1) := by decide +kernel
theorem dX6_endJob_17 : decode cX6_endJob 17 = .ok (.getfield 67, 3) := by decide +kernel
theorem dX6_endJob_20 : decode cX6_endJob 20 = .ok (.if_icmp .ge 32, 3) := by decide +kernel
theorem dX6_endJob_23 : decode cX6_endJob 23 = .ok (.aload_n 0, 1) := by decide +kernel
theorem dX6_endJob_24 : decode cX6_endJob 24 = .ok (.getfield 17, 3) := by decide +kernel
theorem dX6_endJob_27 : decode cX6_endJob 27 = .ok (.iload_n 3, 1) := by decide +kernel
theorem dX6_endJob_28 : decode cX6_endJob 28 = .ok (.aaload, 1) := by decide +kernel
theorem dX6_endJob_29 : decode cX6_endJob 29 = .ok (.getfield 221, 3) := by decide +kernel
theorem dX6_endJob_32 : decode cX6_endJob 32 = .ok (.aload_n 1, 1) := by decide +kernel
theorem dX6_endJob_33 : decode cX6_endJob 33 = .ok (.if_acmp .ne 13, 3) := by decide +kernel
theorem dX6_endJob_36 : decode cX6_endJob 36 = .ok (.aload_n 0, 1) := by decide +kernel
theorem dX6_endJob_37 : decode cX6_endJob 37 = .ok (.aload_n 0, 1) := by decide +kernel
theorem dX6_endJob_38 : decode cX6_endJob 38 = .ok (.getfield 17, 3) := by decide +kernel
theorem dX6_endJob_41 : decode cX6_endJob 41 = .ok (.iload_n 3, 1) := by decide +kernel
theorem dX6_endJob_42 : decode cX6_endJob 42 = .ok (.aaload, 1) := by decide +kernel
theorem dX6_endJob_43 : decode cX6_endJob 43 = .ok (.invokevirtual 217, 3) := by decide +kernel
theorem dX6_endJob_46 : decode cX6_endJob 46 = .ok (.iinc 3 1, 3) := by decide +kernel
theorem dX6_endJob_49 : decode cX6_endJob 49 = .ok (.goto (-34), 3) := by decide +kernel
theorem dX6_endJob_52 : decode cX6_endJob 52 = .ok (.return_, 1) := by decide +kernel
theorem dX6_giveAway_0 : decode cX6_giveAway 0 = .ok (.aload_n 0, 1) := by decide +kernel
theorem dX6_giveAway_1 : decode cX6_giveAway 1 = .ok (.invokevirtual 247, 3) := by decide +kernel
theorem dX6_giveAway_4 : decode cX6_giveAway 4 = .ok (.aload_n 0, 1) := by decide +kernel
theorem dX6_giveAway_5 : decode cX6_giveAway 5 = .ok (.aload_n 1, 1) := by decide +kernel
theorem dX6_giveAway_6 : decode cX6_giveAway 6 = .ok (.invokevirtual 250, 3) := by decide +kernel
theorem dX6_giveAway_9 : decode cX6_giveAway 9 = .ok (.astore_n 2, 1) := by decide +kernel
theorem dX6_giveAway_10 : decode cX6_giveAway 10 = .ok (.aload_n 1, 1) := by decide +kernel
theorem dX6_giveAway_11 : decode cX6_giveAway 11 = .ok (.aload_n 2, 1) := by decide +kernel
theorem dX6_giveAway_12 : decode cX6_giveAway 12 = .ok (.putfield 221, 3) := by decide +kernel
theorem dX6_giveAway_15 : decode cX6_giveAway 15 = .ok (.aload_n 2, 1) := by decide +kernel
theorem dX6_giveAway_16 : decode cX6_giveAway 16 = .ok (.ifnull 21, 3) := by decide +kernel
theorem dX6_giveAway_19 : decode cX6_giveAway 19 = .ok (.aload_n 2, 1) := by decide +kernel
theorem dX6_giveAway_20 : decode cX6_giveAway 20 = .ok (.getfield 128, 3) := by decide +kernel
theorem dX6_giveAway_23 : decode cX6_giveAway 23 = .ok (.aload_n 0, 1) := by decide +kernel
theorem dX6_giveAway_24 : decode cX6_giveAway 24 = .ok (.invokevirtual 169, 3) := by decide +kernel
theorem dX6_giveAway_27 : decode cX6_giveAway 27 = .ok (.invokevirtual 254, 3) := by decide +kernel
theorem dX6_giveAway_30 : decode cX6_giveAway 30 = .ok (.aload_n 0, 1) := by decide +kernel
theorem dX6_giveAway_31 : decode cX6_giveAway 31 = .ok (.bipush 6, 2) := by decide +kernel
theorem dX6_giveAway_33 : decode cX6_giveAway 33 = .ok (.aload_n 2, 1) := by decide +kernel
theorem dX6_giveAway_34 : decode cX6_giveAway 34 = .ok (.invokevirtual 149, 3) := by decide +kernel
theorem dX6_giveAway_37 : decode cX6_giveAway 37 = .ok (.return_, 1) := by decide +kernel
theorem dX6_heirOf_0 : decode cX6_heirOf 0 = .ok (.aconst_null, 1) := by decide +kernel
theorem dX6_heirOf_1 : decode cX6_heirOf 1 = .ok (.astore_n 2, 1) := by decide +kernel
theorem dX6_heirOf_2 : decode cX6_heirOf 2 = .ok (.iconst 0, 1) := by decide +kernel
theorem dX6_heirOf_3 : decode cX6_heirOf 3 = .ok (.istore_n 3, 1) := by decide +kernel
theorem dX6_heirOf_4 : decode cX6_heirOf 4 = .ok (.iload_n 3, 1) := by decide +kernel
theorem dX6_heirOf_5 : decode cX6_heirOf 5 = .ok (.aload_n 0, 1) := by decide +kernel
theorem dX6_heirOf_6 : decode cX6_heirOf 6 = .ok (.getfield 46, 3) := by decide +kernel
theorem dX6_heirOf_9 : decode cX6_heirOf 9 = .ok (.if_icmp .ge 51, 3) := by decide +kernel
theorem dX6_heirOf_12 : decode cX6_heirOf 12 = .ok (.aload_n 0, 1) := by decide +kernel
theorem dX6_heirOf_13 : decode cX6_heirOf 13 = .ok (.getfield 11, 3) := by decide +kernel
theorem dX6_heirOf_16 : decode cX6_heirOf 16 = .ok (.iload_n 3, 1) := by decide +kernel
theorem dX6_heirOf_17 : decode cX6_heirOf 17 = .ok (.aaload, 1) := by decide +kernel
theorem dX6_heirOf_18 : decode cX6_heirOf 18 = .ok (.astore 4, 2) := by decide +kernel
theorem dX6_heirOf_20 : decode cX6_heirOf 20 = .ok (.aload 4, 2) := by decide +kernel
theorem dX6_heirOf_22 : decode cX6_heirOf 22 = .ok (.getfield 128, 3) := by decide +kernel
theorem dX6_heirOf_25 : decode cX6_heirOf 25 = .ok (.getfield 257, 3) := by decide +kernel
theorem dX6_heirOf_28 : decode cX6_heirOf 28 = .ok (.aload_n 1, 1) := by decide +kernel
theorem dX6_heirOf_29 : decode cX6_heirOf 29 = .ok (.if_acmp .ne 25, 3) := by decide +kernel
theorem dX6_heirOf_32 : decode cX6_heirOf 32 = .ok (.aload_n 2, 1) := by decide +kernel
theorem dX6_heirOf_33 : decode cX6_heirOf 33 = .ok (.ifnull 18, 3) := by decide +kernel
theorem dX6_heirOf_36 : decode cX6_heirOf 36 = .ok (.aload 4, 2) := by decide +kernel
theorem dX6_heirOf_38 : decode cX6_heirOf 38 = .ok (.getfield 128, 3) := by decide +kernel
theorem dX6_heirOf_41 : decode cX6_heirOf 41 = .ok (.aload_n 2, 1) := by decide +kernel
theorem dX6_heirOf_42 : decode cX6_heirOf 42 = .ok (.getfield 128, 3) := by decide +kernel
theorem dX6_heirOf_45 : decode cX6_heirOf 45 = .ok (.invokevirtual 261, 3) := by decide +kernel
theorem dX6_heirOf_48 : decode cX6_heirOf 48 = .ok (.ifCond .eq 6, 3) := by decide +kernel
theorem dX6_heirOf_51 : decode cX6_heirOf 51 = .ok (.aload 4, 2) := by decide +kernel
theorem dX6_heirOf_53 : decode cX6_heirOf 53 = .ok (.astore_n 2, 1) := by decide +kernel
theorem dX6_heirOf_54 : decode cX6_heirOf 54 = .ok (.iinc 3 1, 3) := by decide +kernel
theorem dX6_heirOf_57 : decode cX6_heirOf 57 = .ok (.goto (-53), 3) := by decide +kernel
theorem dX6_heirOf_60 : decode cX6_heirOf 60 = .ok (.aload_n 2, 1) := by decide +kernel
theorem dX6_heirOf_61 : decode cX6_heirOf 61 = .ok (.areturn, 1) := by decide +kernel
theorem dX6_nextChange_0 : decode cX6_nextChange 0 = .ok (.aload_n 0, 1) := by decide +kernel
theorem dX6_nextChange_1 : decode cX6_nextChange 1 = .ok (.dup, 1) := by decide +kernel
theorem dX6_nextChange_2 : decode cX6_nextChange 2 = .ok (.getfield 265, 3) := by decide +kernel
theorem dX6_nextChange_5 : decode cX6_nextChange 5 = .ok (.iconst 1, 1) := by decide +kernel
theorem dX6_nextChange_6 : decode cX6_nextChange 6 = .ok (.iadd, 1) := by decide +kernel
theorem dX6_nextChange_7 : decode cX6_nextChange 7 = .ok (.putfield 265, 3) := by decide +kernel
theorem dX6_nextChange_10 : decode cX6_nextChange 10 = .ok (.aload_n 0, 1) := by decide +kernel
theorem dX6_nextChange_11 : decode cX6_nextChange 11 = .ok (.getfield 265, 3) := by decide +kernel
theorem dX6_nextChange_14 : decode cX6_nextChange 14 = .ok (.ireturn, 1) := by decide +kernel
theorem dX6_note_0 : decode cX6_note 0 = .ok (.aload_n 0, 1) := by decide +kernel
theorem dX6_note_1 : decode cX6_note 1 = .ok (.getfield 24, 3) := by decide +kernel
theorem dX6_note_4 : decode cX6_note 4 = .ok (.iload_n 1, 1) := by decide +kernel
theorem dX6_note_5 : decode cX6_note 5 = .ok (.aload_n 0, 1) := by decide +kernel
theorem dX6_note_6 : decode cX6_note 6 = .ok (.getfield 125, 3) := by decide +kernel
theorem dX6_note_9 : decode cX6_note 9 = .ok (.aload_n 2, 1) := by decide +kernel
theorem dX6_note_10 : decode cX6_note 10 = .ok (.getfield 268, 3) := by decide +kernel
theorem dX6_note_13 : decode cX6_note 13 = .ok (.invokevirtual 271, 3) := by decide +kernel
theorem dX6_note_16 : decode cX6_note 16 = .ok (.return_, 1) := by decide +kernel
theorem dX6_mostUrgentReady_0 : decode cX6_mostUrgentReady 0 = .ok (.aload_n 0, 1) := by decide +kernel
theorem dX6_mostUrgentReady_1 : decode cX6_mostUrgentReady 1 = .ok (.invokevirtual 247, 3) := by decide +kernel
theorem dX6_mostUrgentReady_4 : decode cX6_mostUrgentReady 4 = .ok (.aconst_null, 1) := by decide +kernel
theorem dX6_mostUrgentReady_5 : decode cX6_mostUrgentReady 5 = .ok (.astore_n 1, 1) := by decide +kernel
theorem dX6_mostUrgentReady_6 : decode cX6_mostUrgentReady 6 = .ok (.iconst 0, 1) := by decide +kernel
theorem dX6_mostUrgentReady_7 : decode cX6_mostUrgentReady 7 = .ok (.istore_n 2, 1) := by decide +kernel
theorem dX6_mostUrgentReady_8 : decode cX6_mostUrgentReady 8 = .ok (.iload_n 2, 1) := by decide +kernel
theorem dX6_mostUrgentReady_9 : decode cX6_mostUrgentReady 9 = .ok (.aload_n 0, 1) := by decide +kernel
theorem dX6_mostUrgentReady_10 : decode cX6_mostUrgentReady 10 = .ok (.getfield 46, 3) := by decide +kernel
theorem dX6_mostUrgentReady_13 : decode cX6_mostUrgentReady 13 = .ok (.if_icmp .ge 42, 3) := by decide +kernel
theorem dX6_mostUrgentReady_16 : decode cX6_mostUrgentReady 16 = .ok (.aload_n 0, 1) := by decide +kernel
theorem dX6_mostUrgentReady_17 : decode cX6_mostUrgentReady 17 = .ok (.getfield 11, 3) := by decide +kernel
theorem dX6_mostUrgentReady_20 : decode cX6_mostUrgentReady 20 = .ok (.iload_n 2, 1) := by decide +kernel
theorem dX6_mostUrgentReady_21 : decode cX6_mostUrgentReady 21 = .ok (.aaload, 1) := by decide +kernel
theorem dX6_mostUrgentReady_22 : decode cX6_mostUrgentReady 22 = .ok (.astore_n 3, 1) := by decide +kernel
theorem dX6_mostUrgentReady_23 : decode cX6_mostUrgentReady 23 = .ok (.aload_n 3, 1) := by decide +kernel
theorem dX6_mostUrgentReady_24 : decode cX6_mostUrgentReady 24 = .ok (.getfield 128, 3) := by decide +kernel
theorem dX6_mostUrgentReady_27 : decode cX6_mostUrgentReady 27 = .ok (.getfield 132, 3) := by decide +kernel
theorem dX6_mostUrgentReady_30 : decode cX6_mostUrgentReady 30 = .ok (.iconst 1, 1) := by decide +kernel
theorem dX6_mostUrgentReady_31 : decode cX6_mostUrgentReady 31 = .ok (.if_icmp .ne 18, 3) := by decide +kernel
theorem dX6_mostUrgentReady_34 : decode cX6_mostUrgentReady 34 = .ok (.aload_n 1, 1) := by decide +kernel
theorem dX6_mostUrgentReady_35 : decode cX6_mostUrgentReady 35 = .ok (.ifnull 12, 3) := by decide +kernel
theorem dX6_mostUrgentReady_38 : decode cX6_mostUrgentReady 38 = .ok (.aload_n 0, 1) := by decide +kernel
theorem dX6_mostUrgentReady_39 : decode cX6_mostUrgentReady 39 = .ok (.aload_n 3, 1) := by decide +kernel
theorem dX6_mostUrgentReady_40 : decode cX6_mostUrgentReady 40 = .ok (.aload_n 1, 1) := by decide +kernel
theorem dX6_mostUrgentReady_41 : decode cX6_mostUrgentReady 41 = .ok (.invokevirtual 274, 3) := by decide +kernel
theorem dX6_mostUrgentReady_44 : decode cX6_mostUrgentReady 44 = .ok (.ifCond .eq 5, 3) := by decide +kernel
theorem dX6_mostUrgentReady_47 : decode cX6_mostUrgentReady 47 = .ok (.aload_n 3, 1) := by decide +kernel
theorem dX6_mostUrgentReady_48 : decode cX6_mostUrgentReady 48 = .ok (.astore_n 1, 1) := by decide +kernel
theorem dX6_mostUrgentReady_49 : decode cX6_mostUrgentReady 49 = .ok (.iinc 2 1, 3) := by decide +kernel
theorem dX6_mostUrgentReady_52 : decode cX6_mostUrgentReady 52 = .ok (.goto (-44), 3) := by decide +kernel
theorem dX6_mostUrgentReady_55 : decode cX6_mostUrgentReady 55 = .ok (.aload_n 1, 1) := by decide +kernel
theorem dX6_mostUrgentReady_56 : decode cX6_mostUrgentReady 56 = .ok (.areturn, 1) := by decide +kernel
theorem dX6_goesAhead_0 : decode cX6_goesAhead 0 = .ok (.aload_n 1, 1) := by decide +kernel
theorem dX6_goesAhead_1 : decode cX6_goesAhead 1 = .ok (.getfield 128, 3) := by decide +kernel
theorem dX6_goesAhead_4 : decode cX6_goesAhead 4 = .ok (.getfield 278, 3) := by decide +kernel
theorem dX6_goesAhead_7 : decode cX6_goesAhead 7 = .ok (.aload_n 2, 1) := by decide +kernel
theorem dX6_goesAhead_8 : decode cX6_goesAhead 8 = .ok (.getfield 128, 3) := by decide +kernel
theorem dX6_goesAhead_11 : decode cX6_goesAhead 11 = .ok (.getfield 278, 3) := by decide +kernel
theorem dX6_goesAhead_14 : decode cX6_goesAhead 14 = .ok (.if_icmp .eq 26, 3) := by decide +kernel
theorem dX6_goesAhead_17 : decode cX6_goesAhead 17 = .ok (.aload_n 1, 1) := by decide +kernel
theorem dX6_goesAhead_18 : decode cX6_goesAhead 18 = .ok (.getfield 128, 3) := by decide +kernel
theorem dX6_goesAhead_21 : decode cX6_goesAhead 21 = .ok (.getfield 278, 3) := by decide +kernel
theorem dX6_goesAhead_24 : decode cX6_goesAhead 24 = .ok (.aload_n 2, 1) := by decide +kernel
theorem dX6_goesAhead_25 : decode cX6_goesAhead 25 = .ok (.getfield 128, 3) := by decide +kernel
theorem dX6_goesAhead_28 : decode cX6_goesAhead 28 = .ok (.getfield 278, 3) := by decide +kernel
theorem dX6_goesAhead_31 : decode cX6_goesAhead 31 = .ok (.if_icmp .le 7, 3) := by decide +kernel
theorem dX6_goesAhead_34 : decode cX6_goesAhead 34 = .ok (.iconst 1, 1) := by decide +kernel
theorem dX6_goesAhead_35 : decode cX6_goesAhead 35 = .ok (.goto 4, 3) := by decide +kernel
theorem dX6_goesAhead_38 : decode cX6_goesAhead 38 = .ok (.iconst 0, 1) := by decide +kernel
theorem dX6_goesAhead_39 : decode cX6_goesAhead 39 = .ok (.ireturn, 1) := by decide +kernel
theorem dX6_goesAhead_40 : decode cX6_goesAhead 40 = .ok (.aload_n 1, 1) := by decide +kernel
theorem dX6_goesAhead_41 : decode cX6_goesAhead 41 = .ok (.aload_n 0, 1) := by decide +kernel
theorem dX6_goesAhead_42 : decode cX6_goesAhead 42 = .ok (.getfield 186, 3) := by decide +kernel
theorem dX6_goesAhead_45 : decode cX6_goesAhead 45 = .ok (.if_acmp .eq 11, 3) := by decide +kernel
theorem dX6_goesAhead_48 : decode cX6_goesAhead 48 = .ok (.aload_n 2, 1) := by decide +kernel
theorem dX6_goesAhead_49 : decode cX6_goesAhead 49 = .ok (.aload_n 0, 1) := by decide +kernel
theorem dX6_goesAhead_50 : decode cX6_goesAhead 50 = .ok (.getfield 186, 3) := by decide +kernel
theorem dX6_goesAhead_53 : decode cX6_goesAhead 53 = .ok (.if_acmp .ne 17, 3) := by decide +kernel
theorem dX6_goesAhead_56 : decode cX6_goesAhead 56 = .ok (.aload_n 1, 1) := by decide +kernel
theorem dX6_goesAhead_57 : decode cX6_goesAhead 57 = .ok (.aload_n 0, 1) := by decide +kernel
theorem dX6_goesAhead_58 : decode cX6_goesAhead 58 = .ok (.getfield 186, 3) := by decide +kernel
theorem dX6_goesAhead_61 : decode cX6_goesAhead 61 = .ok (.if_acmp .ne 7, 3) := by decide +kernel
theorem dX6_goesAhead_64 : decode cX6_goesAhead 64 = .ok (.iconst 1, 1) := by decide +kernel
theorem dX6_goesAhead_65 : decode cX6_goesAhead 65 = .ok (.goto 4, 3) := by decide +kernel
theorem dX6_goesAhead_68 : decode cX6_goesAhead 68 = .ok (.iconst 0, 1) := by decide +kernel
theorem dX6_goesAhead_69 : decode cX6_goesAhead 69 = .ok (.ireturn, 1) := by decide +kernel
theorem dX6_goesAhead_70 : decode cX6_goesAhead 70 = .ok (.aload_n 1, 1) := by decide +kernel
theorem dX6_goesAhead_71 : decode cX6_goesAhead 71 = .ok (.getfield 128, 3) := by decide +kernel
theorem dX6_goesAhead_74 : decode cX6_goesAhead 74 = .ok (.getfield 281, 3) := by decide +kernel
theorem dX6_goesAhead_77 : decode cX6_goesAhead 77 = .ok (.aload_n 2, 1) := by decide +kernel
theorem dX6_goesAhead_78 : decode cX6_goesAhead 78 = .ok (.getfield 128, 3) := by decide +kernel
theorem dX6_goesAhead_81 : decode cX6_goesAhead 81 = .ok (.getfield 281, 3) := by decide +kernel
theorem dX6_goesAhead_84 : decode cX6_goesAhead 84 = .ok (.if_icmp .ge 7, 3) := by decide +kernel
theorem dX6_goesAhead_87 : decode cX6_goesAhead 87 = .ok (.iconst 1, 1) := by decide +kernel
theorem dX6_goesAhead_88 : decode cX6_goesAhead 88 = .ok (.goto 4, 3) := by decide +kernel
theorem dX6_goesAhead_91 : decode cX6_goesAhead 91 = .ok (.iconst 0, 1) := by decide +kernel
theorem dX6_goesAhead_92 : decode cX6_goesAhead 92 = .ok (.ireturn, 1) := by decide +kernel
theorem dX6_rankTasks_0 : decode cX6_rankTasks 0 = .ok (.iconst 0, 1) := by decide +kernel
theorem dX6_rankTasks_1 : decode cX6_rankTasks 1 = .ok (.istore_n 1, 1) := by decide +kernel
theorem dX6_rankTasks_2 : decode cX6_rankTasks 2 = .ok (.iload_n 1, 1) := by decide +kernel
theorem dX6_rankTasks_3 : decode cX6_rankTasks 3 = .ok (.aload_n 0, 1) := by decide +kernel
theorem dX6_rankTasks_4 : decode cX6_rankTasks 4 = .ok (.getfield 46, 3) := by decide +kernel
theorem dX6_rankTasks_7 : decode cX6_rankTasks 7 = .ok (.if_icmp .ge 45, 3) := by decide +kernel
theorem dX6_rankTasks_10 : decode cX6_rankTasks 10 = .ok (.aload_n 0, 1) := by decide +kernel
theorem dX6_rankTasks_11 : decode cX6_rankTasks 11 = .ok (.getfield 11, 3) := by decide +kernel
theorem dX6_rankTasks_14 : decode cX6_rankTasks 14 = .ok (.iload_n 1, 1) := by decide +kernel
theorem dX6_rankTasks_15 : decode cX6_rankTasks 15 = .ok (.aaload, 1) := by decide +kernel
theorem dX6_rankTasks_16 : decode cX6_rankTasks 16 = .ok (.astore_n 2, 1) := by decide +kernel
theorem dX6_rankTasks_17 : decode cX6_rankTasks 17 = .ok (.aload_n 2, 1) := by decide +kernel
theorem dX6_rankTasks_18 : decode cX6_rankTasks 18 = .ok (.getfield 128, 3) := by decide +kernel
theorem dX6_rankTasks_21 : decode cX6_rankTasks 21 = .ok (.aload_n 0, 1) := by decide +kernel
theorem dX6_rankTasks_22 : decode cX6_rankTasks 22 = .ok (.getfield 28, 3) := by decide +kernel
theorem dX6_rankTasks_25 : decode cX6_rankTasks 25 = .ok (.ifCond .eq 14, 3) := by decide +kernel
theorem dX6_rankTasks_28 : decode cX6_rankTasks 28 = .ok (.aload_n 2, 1) := by decide +kernel
theorem dX6_rankTasks_29 : decode cX6_rankTasks 29 = .ok (.getfield 128, 3) := by decide +kernel
theorem dX6_rankTasks_32 : decode cX6_rankTasks 32 = .ok (.getfield 137, 3) := by decide +kernel
theorem dX6_rankTasks_35 : decode cX6_rankTasks 35 = .ok (.ineg, 1) := by decide +kernel
theorem dX6_rankTasks_36 : decode cX6_rankTasks 36 = .ok (.goto 7, 3) := by decide +kernel
theorem dX6_rankTasks_39 : decode cX6_rankTasks 39 = .ok (.aload_n 2, 1) := by decide +kernel
theorem dX6_rankTasks_40 : decode cX6_rankTasks 40 = .ok (.getfield 238, 3) := by decide +kernel
theorem dX6_rankTasks_43 : decode cX6_rankTasks 43 = .ok (.putfield 278, 3) := by decide +kernel
theorem dX6_rankTasks_46 : decode cX6_rankTasks 46 = .ok (.iinc 1 1, 3) := by decide +kernel
theorem dX6_rankTasks_49 : decode cX6_rankTasks 49 = .ok (.goto (-47), 3) := by decide +kernel
theorem dX6_rankTasks_52 : decode cX6_rankTasks 52 = .ok (.aload_n 0, 1) := by decide +kernel
theorem dX6_rankTasks_53 : decode cX6_rankTasks 53 = .ok (.getfield 28, 3) := by decide +kernel
theorem dX6_rankTasks_56 : decode cX6_rankTasks 56 = .ok (.ifCond .ne 7, 3) := by decide +kernel
theorem dX6_rankTasks_59 : decode cX6_rankTasks 59 = .ok (.aload_n 0, 1) := by decide +kernel
theorem dX6_rankTasks_60 : decode cX6_rankTasks 60 = .ok (.invokevirtual 284, 3) := by decide +kernel
theorem dX6_rankTasks_63 : decode cX6_rankTasks 63 = .ok (.iconst 1, 1) := by decide +kernel
theorem dX6_rankTasks_64 : decode cX6_rankTasks 64 = .ok (.istore_n 1, 1) := by decide +kernel
theorem dX6_rankTasks_65 : decode cX6_rankTasks 65 = .ok (.iconst 0, 1) := by decide +kernel
theorem dX6_rankTasks_66 : decode cX6_rankTasks 66 = .ok (.istore_n 2, 1) := by decide +kernel
theorem dX6_rankTasks_67 : decode cX6_rankTasks 67 = .ok (.iload_n 1, 1) := by decide +kernel
theorem dX6_rankTasks_68 : decode cX6_rankTasks 68 = .ok (.ifCond .eq 22, 3) := by decide +kernel
theorem dX6_rankTasks_71 : decode cX6_rankTasks 71 = .ok (.iload_n 2, 1) := by decide +kernel
theorem dX6_rankTasks_72 : decode cX6_rankTasks 72 = .ok (.aload_n 0, 1) := by decide +kernel
theorem dX6_rankTasks_73 : decode cX6_rankTasks 73 = .ok (.getfield 46, 3) := by decide +kernel
theorem dX6_rankTasks_76 : decode cX6_rankTasks 76 = .ok (.if_icmp .ge 14, 3) := by decide +kernel
theorem dX6_rankTasks_79 : decode cX6_rankTasks 79 = .ok (.aload_n 0, 1) := by decide +kernel
theorem dX6_rankTasks_80 : decode cX6_rankTasks 80 = .ok (.invokevirtual 287, 3) := by decide +kernel
theorem dX6_rankTasks_83 : decode cX6_rankTasks 83 = .ok (.istore_n 1, 1) := by decide +kernel
theorem dX6_rankTasks_84 : decode cX6_rankTasks 84 = .ok (.iinc 2 1, 3) := by decide +kernel
theorem dX6_rankTasks_87 : decode cX6_rankTasks 87 = .ok (.goto (-20), 3) := by decide +kernel
theorem dX6_rankTasks_90 : decode cX6_rankTasks 90 = .ok (.return_, 1) := by decide +kernel
theorem dX6_liftToCeilings_0 : decode cX6_liftToCeilings 0 = .ok (.iconst 0, 1) := by decide +kernel
theorem dX6_liftToCeilings_1 : decode cX6_liftToCeilings 1 = .ok (.istore_n 1, 1) := by decide +kernel
theorem dX6_liftToCeilings_2 : decode cX6_liftToCeilings 2 = .ok (.iload_n 1, 1) := by decide +kernel
theorem dX6_liftToCeilings_3 : decode cX6_liftToCeilings 3 = .ok (.aload_n 0, 1) := by decide +kernel
theorem dX6_liftToCeilings_4 : decode cX6_liftToCeilings 4 = .ok (.getfield 67, 3) := by decide +kernel
theorem dX6_liftToCeilings_7 : decode cX6_liftToCeilings 7 = .ok (.if_icmp .ge 62, 3) := by decide +kernel
theorem dX6_liftToCeilings_10 : decode cX6_liftToCeilings 10 = .ok (.aload_n 0, 1) := by decide +kernel
theorem dX6_liftToCeilings_11 : decode cX6_liftToCeilings 11 = .ok (.getfield 17, 3) := by decide +kernel
theorem dX6_liftToCeilings_14 : decode cX6_liftToCeilings 14 = .ok (.iload_n 1, 1) := by decide +kernel
theorem dX6_liftToCeilings_15 : decode cX6_liftToCeilings 15 = .ok (.aaload, 1) := by decide +kernel
theorem dX6_liftToCeilings_16 : decode cX6_liftToCeilings 16 = .ok (.astore_n 2, 1) := by decide +kernel
theorem dX6_liftToCeilings_17 : decode cX6_liftToCeilings 17 = .ok (.aload_n 2, 1) := by decide +kernel
theorem dX6_liftToCeilings_18 : decode cX6_liftToCeilings 18 = .ok (.getfield 235, 3) := by decide +kernel
theorem dX6_liftToCeilings_21 : decode cX6_liftToCeilings 21 = .ok (.iconst 2, 1) := by decide +kernel
theorem dX6_liftToCeilings_22 : decode cX6_liftToCeilings 22 = .ok (.if_icmp .ne 41, 3) := by decide +kernel
theorem dX6_liftToCeilings_25 : decode cX6_liftToCeilings 25 = .ok (.aload_n 2, 1) := by decide +kernel
theorem dX6_liftToCeilings_26 : decode cX6_liftToCeilings 26 = .ok (.getfield 221, 3) := by decide +kernel
theorem dX6_liftToCeilings_29 : decode cX6_liftToCeilings 29 = .ok (.ifnull 34, 3) := by decide +kernel
theorem dX6_liftToCeilings_32 : decode cX6_liftToCeilings 32 = .ok (.aload_n 2, 1) := by decide +kernel
theorem dX6_liftToCeilings_33 : decode cX6_liftToCeilings 33 = .ok (.getfield 221, 3) := by decide +kernel
theorem dX6_liftToCeilings_36 : decode cX6_liftToCeilings 36 = .ok (.getfield 128, 3) := by decide +kernel
theorem dX6_liftToCeilings_39 : decode cX6_liftToCeilings 39 = .ok (.getfield 278, 3) := by decide +kernel
theorem dX6_liftToCeilings_42 : decode cX6_liftToCeilings 42 = .ok (.aload_n 2, 1) := by decide +kernel
theorem dX6_liftToCeilings_43 : decode cX6_liftToCeilings 43 = .ok (.getfield 241, 3) := by decide +kernel
theorem dX6_liftToCeilings_46 : decode cX6_liftToCeilings 46 = .ok (.if_icmp .ge 17, 3) := by decide +kernel
theorem dX6_liftToCeilings_49 : decode cX6_liftToCeilings 49 = .ok (.aload_n 2, 1) := by decide +kernel
theorem dX6_liftToCeilings_50 : decode cX6_liftToCeilings 50 = .ok (.getfield 221, 3) := by decide +kernel
theorem dX6_liftToCeilings_53 : decode cX6_liftToCeilings 53 = .ok (.getfield 128, 3) := by decide +kernel
theorem dX6_liftToCeilings_56 : decode cX6_liftToCeilings 56 = .ok (.aload_n 2, 1) := by decide +kernel
theorem dX6_liftToCeilings_57 : decode cX6_liftToCeilings 57 = .ok (.getfield 241, 3) := by decide +kernel
theorem dX6_liftToCeilings_60 : decode cX6_liftToCeilings 60 = .ok (.putfield 278, 3) := by decide +kernel
theorem dX6_liftToCeilings_63 : decode cX6_liftToCeilings 63 = .ok (.iinc 1 1, 3) := by decide +kernel
theorem dX6_liftToCeilings_66 : decode cX6_liftToCeilings 66 = .ok (.goto (-64), 3) := by decide +kernel
theorem dX6_liftToCeilings_69 : decode cX6_liftToCeilings 69 = .ok (.return_, 1) := by decide +kernel
theorem dX6_lendOnce_0 : decode cX6_lendOnce 0 = .ok (.iconst 0, 1) := by decide +kernel
theorem dX6_lendOnce_1 : decode cX6_lendOnce 1 = .ok (.istore_n 1, 1) := by decide +kernel
theorem dX6_lendOnce_2 : decode cX6_lendOnce 2 = .ok (.iconst 0, 1) := by decide +kernel
theorem dX6_lendOnce_3 : decode cX6_lendOnce 3 = .ok (.istore_n 2, 1) := by decide +kernel
theorem dX6_lendOnce_4 : decode cX6_lendOnce 4 = .ok (.iload_n 2, 1) := by decide +kernel
theorem dX6_lendOnce_5 : decode cX6_lendOnce 5 = .ok (.aload_n 0, 1) := by decide +kernel
theorem dX6_lendOnce_6 : decode cX6_lendOnce 6 = .ok (.getfield 46, 3) := by decide +kernel
theorem dX6_lendOnce_9 : decode cX6_lendOnce 9 = .ok (.if_icmp .ge 82, 3) := by decide +kernel
theorem dX6_lendOnce_12 : decode cX6_lendOnce 12 = .ok (.aload_n 0, 1) := by decide +kernel
theorem dX6_lendOnce_13 : decode cX6_lendOnce 13 = .ok (.getfield 11, 3) := by decide +kernel
theorem dX6_lendOnce_16 : decode cX6_lendOnce 16 = .ok (.iload_n 2, 1) := by decide +kernel
theorem dX6_lendOnce_17 : decode cX6_lendOnce 17 = .ok (.aaload, 1) := by decide +kernel
theorem dX6_lendOnce_18 : decode cX6_lendOnce 18 = .ok (.getfield 128, 3) := by decide +kernel
theorem dX6_lendOnce_21 : decode cX6_lendOnce 21 = .ok (.astore_n 3, 1) := by decide +kernel
theorem dX6_lendOnce_22 : decode cX6_lendOnce 22 = .ok (.aload_n 3, 1) := by decide +kernel
theorem dX6_lendOnce_23 : decode cX6_lendOnce 23 = .ok (.getfield 257, 3) := by decide +kernel
theorem dX6_lendOnce_26 : decode cX6_lendOnce 26 = .ok (.astore 4, 2) := by decide +kernel
theorem dX6_lendOnce_28 : decode cX6_lendOnce 28 = .ok (.aload 4, 2) := by decide +kernel
theorem dX6_lendOnce_30 : decode cX6_lendOnce 30 = .ok (.ifnull 55, 3) := by decide +kernel
theorem dX6_lendOnce_33 : decode cX6_lendOnce 33 = .ok (.aload 4, 2) := by decide +kernel
theorem dX6_lendOnce_35 : decode cX6_lendOnce 35 = .ok (.getfield 235, 3) := by decide +kernel
theorem dX6_lendOnce_38 : decode cX6_lendOnce 38 = .ok (.iconst 1, 1) := by decide +kernel
theorem dX6_lendOnce_39 : decode cX6_lendOnce 39 = .ok (.if_icmp .ne 46, 3) := by decide +kernel
theorem dX6_lendOnce_42 : decode cX6_lendOnce 42 = .ok (.aload 4, 2) := by decide +kernel
theorem dX6_lendOnce_44 : decode cX6_lendOnce 44 = .ok (.getfield 221, 3) := by decide +kernel
theorem dX6_lendOnce_47 : decode cX6_lendOnce 47 = .ok (.ifnull 38, 3) := by decide +kernel
theorem dX6_lendOnce_50 : decode cX6_lendOnce 50 = .ok (.aload 4, 2) := by decide +kernel
theorem dX6_lendOnce_52 : decode cX6_lendOnce 52 = .ok (.getfield 221, 3) := by decide +kernel
theorem dX6_lendOnce_55 : decode cX6_lendOnce 55 = .ok (.getfield 128, 3) := by decide +kernel
theorem dX6_lendOnce_58 : decode cX6_lendOnce 58 = .ok (.getfield 278, 3) := by decide +kernel
theorem dX6_lendOnce_61 : decode cX6_lendOnce 61 = .ok (.aload_n 3, 1) := by decide +kernel
theorem dX6_lendOnce_62 : decode cX6_lendOnce 62 = .ok (.getfield 278, 3) := by decide +kernel
theorem dX6_lendOnce_65 : decode cX6_lendOnce 65 = .ok (.if_icmp .ge 20, 3) := by decide +kernel
theorem dX6_lendOnce_68 : decode cX6_lendOnce 68 = .ok (.aload 4, 2) := by decide +kernel
theorem dX6_lendOnce_70 : decode cX6_lendOnce 70 = .ok (.getfield 221, 3) := by decide +kernel
theorem dX6_lendOnce_73 : decode cX6_lendOnce 73 = .ok (.getfield 128, 3) := by decide +kernel
theorem dX6_lendOnce_76 : decode cX6_lendOnce 76 = .ok (.aload_n 3, 1) := by decide +kernel
theorem dX6_lendOnce_77 : decode cX6_lendOnce 77 = .ok (.getfield 278, 3) := by decide +kernel
theorem dX6_lendOnce_80 : decode cX6_lendOnce 80 = .ok (.putfield 278, 3) := by decide +kernel
theorem dX6_lendOnce_83 : decode cX6_lendOnce 83 = .ok (.iconst 1, 1) := by decide +kernel
theorem dX6_lendOnce_84 : decode cX6_lendOnce 84 = .ok (.istore_n 1, 1) := by decide +kernel
theorem dX6_lendOnce_85 : decode cX6_lendOnce 85 = .ok (.iinc 2 1, 3) := by decide +kernel
theorem dX6_lendOnce_88 : decode cX6_lendOnce 88 = .ok (.goto (-84), 3) := by decide +kernel
theorem dX6_lendOnce_91 : decode cX6_lendOnce 91 = .ok (.iload_n 1, 1) := by decide +kernel
theorem dX6_lendOnce_92 : decode cX6_lendOnce 92 = .ok (.ireturn, 1) := by decide +kernel
theorem dX6_urgencyOf_0 : decode cX6_urgencyOf 0 = .ok (.aload_n 1, 1) := by decide +kernel
theorem dX6_urgencyOf_1 : decode cX6_urgencyOf 1 = .ok (.getfield 128, 3) := by decide +kernel
theorem dX6_urgencyOf_4 : decode cX6_urgencyOf 4 = .ok (.getfield 132, 3) := by decide +kernel
theorem dX6_urgencyOf_7 : decode cX6_urgencyOf 7 = .ok (.ifCond .ne 5, 3) := by decide +kernel
theorem dX6_urgencyOf_10 : decode cX6_urgencyOf 10 = .ok (.iconst 0, 1) := by decide +kernel
theorem dX6_urgencyOf_11 : decode cX6_urgencyOf 11 = .ok (.ireturn, 1) := by decide +kernel
theorem dX6_urgencyOf_12 : decode cX6_urgencyOf 12 = .ok (.aload_n 0, 1) := by decide +kernel
theorem dX6_urgencyOf_13 : decode cX6_urgencyOf 13 = .ok (.invokevirtual 247, 3) := by decide +kernel
theorem dX6_urgencyOf_16 : decode cX6_urgencyOf 16 = .ok (.aload_n 0, 1) := by decide +kernel
theorem dX6_urgencyOf_17 : decode cX6_urgencyOf 17 = .ok (.getfield 28, 3) := by decide +kernel
theorem dX6_urgencyOf_20 : decode cX6_urgencyOf 20 = .ok (.ifCond .eq 14, 3) := by decide +kernel
theorem dX6_urgencyOf_23 : decode cX6_urgencyOf 23 = .ok (.aload_n 1, 1) := by decide +kernel
theorem dX6_urgencyOf_24 : decode cX6_urgencyOf 24 = .ok (.getfield 128, 3) := by decide +kernel
theorem dX6_urgencyOf_27 : decode cX6_urgencyOf 27 = .ok (.getfield 278, 3) := by decide +kernel
theorem dX6_urgencyOf_30 : decode cX6_urgencyOf 30 = .ok (.ineg, 1) := by decide +kernel
theorem dX6_urgencyOf_31 : decode cX6_urgencyOf 31 = .ok (.goto 10, 3) := by decide +kernel
theorem dX6_urgencyOf_34 : decode cX6_urgencyOf 34 = .ok (.aload_n 1, 1) := by decide +kernel
theorem dX6_urgencyOf_35 : decode cX6_urgencyOf 35 = .ok (.getfield 128, 3) := by decide +kernel
theorem dX6_urgencyOf_38 : decode cX6_urgencyOf 38 = .ok (.getfield 278, 3) := by decide +kernel
theorem dX6_urgencyOf_41 : decode cX6_urgencyOf 41 = .ok (.ireturn, 1) := by decide +kernel
theorem dX6_seen_0 : decode cX6_seen 0 = .ok (.aload_n 0, 1) := by decide +kernel
theorem dX6_seen_1 : decode cX6_seen 1 = .ok (.iload_n 1, 1) := by decide +kernel
theorem dX6_seen_2 : decode cX6_seen 2 = .ok (.invokevirtual 58, 3) := by decide +kernel
theorem dX6_seen_5 : decode cX6_seen 5 = .ok (.ifCond .ne 5, 3) := by decide +kernel
theorem dX6_seen_8 : decode cX6_seen 8 = .ok (.iconst (-1), 1) := by decide +kernel
theorem dX6_seen_9 : decode cX6_seen 9 = .ok (.ireturn, 1) := by decide +kernel
theorem dX6_seen_10 : decode cX6_seen 10 = .ok (.aload_n 0, 1) := by decide +kernel
theorem dX6_seen_11 : decode cX6_seen 11 = .ok (.getfield 11, 3) := by decide +kernel
theorem dX6_seen_14 : decode cX6_seen 14 = .ok (.iload_n 1, 1) := by decide +kernel
theorem dX6_seen_15 : decode cX6_seen 15 = .ok (.aaload, 1) := by decide +kernel
theorem dX6_seen_16 : decode cX6_seen 16 = .ok (.astore_n 3, 1) := by decide +kernel
theorem dX6_seen_17 : decode cX6_seen 17 = .ok (.iload_n 2, 1) := by decide +kernel
theorem dX6_seen_18 : decode cX6_seen 18 = .ok (.tableswitch 163 0 9 #[54, 62, 84, 90, 98, 106, 114, 122, 130, 138], 54) := by decide +kernel
theorem dX6_seen_72 : decode cX6_seen 72 = .ok (.aload_n 3, 1) := by decide +kernel
theorem dX6_seen_73 : decode cX6_seen 73 = .ok (.getfield 128, 3) := by decide +kernel
theorem dX6_seen_76 : decode cX6_seen 76 = .ok (.getfield 132, 3) := by decide +kernel
theorem dX6_seen_79 : decode cX6_seen 79 = .ok (.ireturn, 1) := by decide +kernel
theorem dX6_seen_80 : decode cX6_seen 80 = .ok (.aload_n 3, 1) := by decide +kernel
theorem dX6_seen_81 : decode cX6_seen 81 = .ok (.getfield 128, 3) := by decide +kernel
theorem dX6_seen_84 : decode cX6_seen 84 = .ok (.getfield 132, 3) := by decide +kernel
theorem dX6_seen_87 : decode cX6_seen 87 = .ok (.ifCond .ne 7, 3) := by decide +kernel
theorem dX6_seen_90 : decode cX6_seen 90 = .ok (.iconst (-1), 1) := by decide +kernel
theorem dX6_seen_91 : decode cX6_seen 91 = .ok (.goto 10, 3) := by decide +kernel
theorem dX6_seen_94 : decode cX6_seen 94 = .ok (.aload_n 3, 1) := by decide +kernel
theorem dX6_seen_95 : decode cX6_seen 95 = .ok (.getfield 128, 3) := by decide +kernel
theorem dX6_seen_98 : decode cX6_seen 98 = .ok (.getfield 204, 3) := by decide +kernel
theorem dX6_seen_101 : decode cX6_seen 101 = .ok (.ireturn, 1) := by decide +kernel
theorem dX6_seen_102 : decode cX6_seen 102 = .ok (.aload_n 0, 1) := by decide +kernel
theorem dX6_seen_103 : decode cX6_seen 103 = .ok (.aload_n 3, 1) := by decide +kernel
theorem dX6_seen_104 : decode cX6_seen 104 = .ok (.invokevirtual 290, 3) := by decide +kernel
theorem dX6_seen_107 : decode cX6_seen 107 = .ok (.ireturn, 1) := by decide +kernel
theorem dX6_seen_108 : decode cX6_seen 108 = .ok (.aload_n 3, 1) := by decide +kernel
theorem dX6_seen_109 : decode cX6_seen 109 = .ok (.getfield 140, 3) := by decide +kernel
theorem dX6_seen_112 : decode cX6_seen 112 = .ok (.getfield 294, 3) := by decide +kernel
theorem dX6_seen_115 : decode cX6_seen 115 = .ok (.ireturn, 1) := by decide +kernel
theorem dX6_seen_116 : decode cX6_seen 116 = .ok (.aload_n 3, 1) := by decide +kernel
theorem dX6_seen_117 : decode cX6_seen 117 = .ok (.getfield 140, 3) := by decide +kernel
theorem dX6_seen_120 : decode cX6_seen 120 = .ok (.getfield 153, 3) := by decide +kernel
theorem dX6_seen_123 : decode cX6_seen 123 = .ok (.ireturn, 1) := by decide +kernel
theorem dX6_seen_124 : decode cX6_seen 124 = .ok (.aload_n 3, 1) := by decide +kernel
theorem dX6_seen_125 : decode cX6_seen 125 = .ok (.getfield 140, 3) := by decide +kernel
theorem dX6_seen_128 : decode cX6_seen 128 = .ok (.getfield 144, 3) := by decide +kernel
theorem dX6_seen_131 : decode cX6_seen 131 = .ok (.ireturn, 1) := by decide +kernel
theorem dX6_seen_132 : decode cX6_seen 132 = .ok (.aload_n 3, 1) := by decide +kernel
theorem dX6_seen_133 : decode cX6_seen 133 = .ok (.getfield 140, 3) := by decide +kernel
theorem dX6_seen_136 : decode cX6_seen 136 = .ok (.getfield 163, 3) := by decide +kernel
theorem dX6_seen_139 : decode cX6_seen 139 = .ok (.ireturn, 1) := by decide +kernel
theorem dX6_seen_140 : decode cX6_seen 140 = .ok (.aload_n 3, 1) := by decide +kernel
theorem dX6_seen_141 : decode cX6_seen 141 = .ok (.getfield 140, 3) := by decide +kernel
theorem dX6_seen_144 : decode cX6_seen 144 = .ok (.getfield 196, 3) := by decide +kernel
theorem dX6_seen_147 : decode cX6_seen 147 = .ok (.ireturn, 1) := by decide +kernel
theorem dX6_seen_148 : decode cX6_seen 148 = .ok (.aload_n 3, 1) := by decide +kernel
theorem dX6_seen_149 : decode cX6_seen 149 = .ok (.getfield 140, 3) := by decide +kernel
theorem dX6_seen_152 : decode cX6_seen 152 = .ok (.getfield 297, 3) := by decide +kernel
theorem dX6_seen_155 : decode cX6_seen 155 = .ok (.ireturn, 1) := by decide +kernel
theorem dX6_seen_156 : decode cX6_seen 156 = .ok (.aload_n 3, 1) := by decide +kernel
theorem dX6_seen_157 : decode cX6_seen 157 = .ok (.getfield 128, 3) := by decide +kernel
theorem dX6_seen_160 : decode cX6_seen 160 = .ok (.getfield 257, 3) := by decide +kernel
theorem dX6_seen_163 : decode cX6_seen 163 = .ok (.ifnonnull 7, 3) := by decide +kernel
theorem dX6_seen_166 : decode cX6_seen 166 = .ok (.iconst (-1), 1) := by decide +kernel
theorem dX6_seen_167 : decode cX6_seen 167 = .ok (.goto 13, 3) := by decide +kernel
theorem dX6_seen_170 : decode cX6_seen 170 = .ok (.aload_n 3, 1) := by decide +kernel
theorem dX6_seen_171 : decode cX6_seen 171 = .ok (.getfield 128, 3) := by decide +kernel
theorem dX6_seen_174 : decode cX6_seen 174 = .ok (.getfield 257, 3) := by decide +kernel
theorem dX6_seen_177 : decode cX6_seen 177 = .ok (.getfield 300, 3) := by decide +kernel
theorem dX6_seen_180 : decode cX6_seen 180 = .ok (.ireturn, 1) := by decide +kernel
theorem dX6_seen_181 : decode cX6_seen 181 = .ok (.iconst (-1), 1) := by decide +kernel
theorem dX6_seen_182 : decode cX6_seen 182 = .ok (.ireturn, 1) := by decide +kernel
theorem dX6_held_0 : decode cX6_held 0 = .ok (.aload_n 0, 1) := by decide +kernel
theorem dX6_held_1 : decode cX6_held 1 = .ok (.iload_n 1, 1) := by decide +kernel
theorem dX6_held_2 : decode cX6_held 2 = .ok (.invokevirtual 98, 3) := by decide +kernel
theorem dX6_held_5 : decode cX6_held 5 = .ok (.ifCond .ne 5, 3) := by decide +kernel
theorem dX6_held_8 : decode cX6_held 8 = .ok (.iconst (-1), 1) := by decide +kernel
theorem dX6_held_9 : decode cX6_held 9 = .ok (.ireturn, 1) := by decide +kernel
theorem dX6_held_10 : decode cX6_held 10 = .ok (.aload_n 0, 1) := by decide +kernel
theorem dX6_held_11 : decode cX6_held 11 = .ok (.getfield 17, 3) := by decide +kernel
theorem dX6_held_14 : decode cX6_held 14 = .ok (.iload_n 1, 1) := by decide +kernel
theorem dX6_held_15 : decode cX6_held 15 = .ok (.aaload, 1) := by decide +kernel
theorem dX6_held_16 : decode cX6_held 16 = .ok (.astore_n 3, 1) := by decide +kernel
theorem dX6_held_17 : decode cX6_held 17 = .ok (.iload_n 2, 1) := by decide +kernel
theorem dX6_held_18 : decode cX6_held 18 = .ok (.tableswitch 57 0 2 #[26, 45, 51], 26) := by decide +kernel
theorem dX6_held_44 : decode cX6_held 44 = .ok (.aload_n 3, 1) := by decide +kernel
theorem dX6_held_45 : decode cX6_held 45 = .ok (.getfield 221, 3) := by decide +kernel
theorem dX6_held_48 : decode cX6_held 48 = .ok (.ifnonnull 7, 3) := by decide +kernel
theorem dX6_held_51 : decode cX6_held 51 = .ok (.iconst (-1), 1) := by decide +kernel
theorem dX6_held_52 : decode cX6_held 52 = .ok (.goto 10, 3) := by decide +kernel
theorem dX6_held_55 : decode cX6_held 55 = .ok (.aload_n 3, 1) := by decide +kernel
theorem dX6_held_56 : decode cX6_held 56 = .ok (.getfield 221, 3) := by decide +kernel
theorem dX6_held_59 : decode cX6_held 59 = .ok (.getfield 268, 3) := by decide +kernel
theorem dX6_held_62 : decode cX6_held 62 = .ok (.ireturn, 1) := by decide +kernel
theorem dX6_held_63 : decode cX6_held 63 = .ok (.aload_n 0, 1) := by decide +kernel
theorem dX6_held_64 : decode cX6_held 64 = .ok (.aload_n 3, 1) := by decide +kernel
theorem dX6_held_65 : decode cX6_held 65 = .ok (.invokevirtual 301, 3) := by decide +kernel
theorem dX6_held_68 : decode cX6_held 68 = .ok (.ireturn, 1) := by decide +kernel
theorem dX6_held_69 : decode cX6_held 69 = .ok (.aload_n 0, 1) := by decide +kernel
theorem dX6_held_70 : decode cX6_held 70 = .ok (.iload_n 1, 1) := by decide +kernel
theorem dX6_held_71 : decode cX6_held 71 = .ok (.invokevirtual 305, 3) := by decide +kernel
theorem dX6_held_74 : decode cX6_held 74 = .ok (.ireturn, 1) := by decide +kernel
theorem dX6_held_75 : decode cX6_held 75 = .ok (.iconst (-1), 1) := by decide +kernel
theorem dX6_held_76 : decode cX6_held 76 = .ok (.ireturn, 1) := by decide +kernel
theorem dX6_event_0 : decode cX6_event 0 = .ok (.aload_n 0, 1) := by decide +kernel
theorem dX6_event_1 : decode cX6_event 1 = .ok (.getfield 24, 3) := by decide +kernel
theorem dX6_event_4 : decode cX6_event 4 = .ok (.iload_n 1, 1) := by decide +kernel
theorem dX6_event_5 : decode cX6_event 5 = .ok (.iload_n 2, 1) := by decide +kernel
theorem dX6_event_6 : decode cX6_event 6 = .ok (.invokevirtual 309, 3) := by decide +kernel
theorem dX6_event_9 : decode cX6_event 9 = .ok (.ireturn, 1) := by decide +kernel
theorem dX6_look_0 : decode cX6_look 0 = .ok (.iload_n 1, 1) := by decide +kernel
theorem dX6_look_1 : decode cX6_look 1 = .ok (.tableswitch 94 0 5 #[39, 44, 49, 54, 67, 86], 39) := by decide +kernel
theorem dX6_look_40 : decode cX6_look 40 = .ok (.aload_n 0, 1) := by decide +kernel
theorem dX6_look_41 : decode cX6_look 41 = .ok (.getfield 125, 3) := by decide +kernel
theorem dX6_look_44 : decode cX6_look 44 = .ok (.ireturn, 1) := by decide +kernel
theorem dX6_look_45 : decode cX6_look 45 = .ok (.aload_n 0, 1) := by decide +kernel
theorem dX6_look_46 : decode cX6_look 46 = .ok (.getfield 46, 3) := by decide +kernel
theorem dX6_look_49 : decode cX6_look 49 = .ok (.ireturn, 1) := by decide +kernel
theorem dX6_look_50 : decode cX6_look 50 = .ok (.aload_n 0, 1) := by decide +kernel
theorem dX6_look_51 : decode cX6_look 51 = .ok (.getfield 67, 3) := by decide +kernel
theorem dX6_look_54 : decode cX6_look 54 = .ok (.ireturn, 1) := by decide +kernel
theorem dX6_look_55 : decode cX6_look 55 = .ok (.aload_n 0, 1) := by decide +kernel
theorem dX6_look_56 : decode cX6_look 56 = .ok (.getfield 43, 3) := by decide +kernel
theorem dX6_look_59 : decode cX6_look 59 = .ok (.ifCond .eq 7, 3) := by decide +kernel
theorem dX6_look_62 : decode cX6_look 62 = .ok (.iconst 1, 1) := by decide +kernel
theorem dX6_look_63 : decode cX6_look 63 = .ok (.goto 4, 3) := by decide +kernel
theorem dX6_look_66 : decode cX6_look 66 = .ok (.iconst 0, 1) := by decide +kernel
theorem dX6_look_67 : decode cX6_look 67 = .ok (.ireturn, 1) := by decide +kernel
theorem dX6_look_68 : decode cX6_look 68 = .ok (.aload_n 0, 1) := by decide +kernel
theorem dX6_look_69 : decode cX6_look 69 = .ok (.getfield 186, 3) := by decide +kernel
theorem dX6_look_72 : decode cX6_look 72 = .ok (.ifnonnull 7, 3) := by decide +kernel
theorem dX6_look_75 : decode cX6_look 75 = .ok (.iconst (-1), 1) := by decide +kernel
theorem dX6_look_76 : decode cX6_look 76 = .ok (.goto 10, 3) := by decide +kernel
theorem dX6_look_79 : decode cX6_look 79 = .ok (.aload_n 0, 1) := by decide +kernel
theorem dX6_look_80 : decode cX6_look 80 = .ok (.getfield 186, 3) := by decide +kernel
theorem dX6_look_83 : decode cX6_look 83 = .ok (.getfield 268, 3) := by decide +kernel
theorem dX6_look_86 : decode cX6_look 86 = .ok (.ireturn, 1) := by decide +kernel
theorem dX6_look_87 : decode cX6_look 87 = .ok (.aload_n 0, 1) := by decide +kernel
theorem dX6_look_88 : decode cX6_look 88 = .ok (.getfield 24, 3) := by decide +kernel
theorem dX6_look_91 : decode cX6_look 91 = .ok (.getfield 313, 3) := by decide +kernel
theorem dX6_look_94 : decode cX6_look 94 = .ok (.ireturn, 1) := by decide +kernel
theorem dX6_look_95 : decode cX6_look 95 = .ok (.iconst (-1), 1) := by decide +kernel
theorem dX6_look_96 : decode cX6_look 96 = .ok (.ireturn, 1) := by decide +kernel
theorem dX6_countBlockedAt_0 : decode cX6_countBlockedAt 0 = .ok (.iconst 0, 1) := by decide +kernel
theorem dX6_countBlockedAt_1 : decode cX6_countBlockedAt 1 = .ok (.istore_n 2, 1) := by decide +kernel
theorem dX6_countBlockedAt_2 : decode cX6_countBlockedAt 2 = .ok (.iconst 0, 1) := by decide +kernel
theorem dX6_countBlockedAt_3 : decode cX6_countBlockedAt 3 = .ok (.istore_n 3, 1) := by decide +kernel
theorem dX6_countBlockedAt_4 : decode cX6_countBlockedAt 4 = .ok (.iload_n 3, 1) := by decide +kernel
theorem dX6_countBlockedAt_5 : decode cX6_countBlockedAt 5 = .ok (.aload_n 0, 1) := by decide +kernel
theorem dX6_countBlockedAt_6 : decode cX6_countBlockedAt 6 = .ok (.getfield 46, 3) := by decide +kernel
theorem dX6_countBlockedAt_9 : decode cX6_countBlockedAt 9 = .ok (.if_icmp .ge 28, 3) := by decide +kernel
theorem dX6_countBlockedAt_12 : decode cX6_countBlockedAt 12 = .ok (.aload_n 0, 1) := by decide +kernel
theorem dX6_countBlockedAt_13 : decode cX6_countBlockedAt 13 = .ok (.getfield 11, 3) := by decide +kernel
theorem dX6_countBlockedAt_16 : decode cX6_countBlockedAt 16 = .ok (.iload_n 3, 1) := by decide +kernel
theorem dX6_countBlockedAt_17 : decode cX6_countBlockedAt 17 = .ok (.aaload, 1) := by decide +kernel
theorem dX6_countBlockedAt_18 : decode cX6_countBlockedAt 18 = .ok (.getfield 128, 3) := by decide +kernel
theorem dX6_countBlockedAt_21 : decode cX6_countBlockedAt 21 = .ok (.getfield 257, 3) := by decide +kernel
theorem dX6_countBlockedAt_24 : decode cX6_countBlockedAt 24 = .ok (.aload_n 1, 1) := by decide +kernel
theorem dX6_countBlockedAt_25 : decode cX6_countBlockedAt 25 = .ok (.if_acmp .ne 6, 3) := by decide +kernel
theorem dX6_countBlockedAt_28 : decode cX6_countBlockedAt 28 = .ok (.iinc 2 1, 3) := by decide +kernel
theorem dX6_countBlockedAt_31 : decode cX6_countBlockedAt 31 = .ok (.iinc 3 1, 3) := by decide +kernel
theorem dX6_countBlockedAt_34 : decode cX6_countBlockedAt 34 = .ok (.goto (-30), 3) := by decide +kernel
theorem dX6_countBlockedAt_37 : decode cX6_countBlockedAt 37 = .ok (.iload_n 2, 1) := by decide +kernel
theorem dX6_countBlockedAt_38 : decode cX6_countBlockedAt 38 = .ok (.ireturn, 1) := by decide +kernel
theorem dX6_response_0 : decode cX6_response 0 = .ok (.aload_n 0, 1) := by decide +kernel
theorem dX6_response_1 : decode cX6_response 1 = .ok (.iload_n 1, 1) := by decide +kernel
theorem dX6_response_2 : decode cX6_response 2 = .ok (.invokevirtual 58, 3) := by decide +kernel
theorem dX6_response_5 : decode cX6_response 5 = .ok (.ifCond .ne 14, 3) := by decide +kernel
theorem dX6_response_8 : decode cX6_response 8 = .ok (.new 36, 3) := by decide +kernel
theorem dX6_response_11 : decode cX6_response 11 = .ok (.dup, 1) := by decide +kernel
theorem dX6_response_12 : decode cX6_response 12 = .ok (.ldc_w 316, 3) := by decide +kernel
theorem dX6_response_15 : decode cX6_response 15 = .ok (.invokespecial 40, 3) := by decide +kernel
theorem dX6_response_18 : decode cX6_response 18 = .ok (.athrow, 1) := by decide +kernel
theorem dX6_response_19 : decode cX6_response 19 = .ok (.aload_n 0, 1) := by decide +kernel
theorem dX6_response_20 : decode cX6_response 20 = .ok (.getfield 11, 3) := by decide +kernel
theorem dX6_response_23 : decode cX6_response 23 = .ok (.iload_n 1, 1) := by decide +kernel
theorem dX6_response_24 : decode cX6_response 24 = .ok (.aaload, 1) := by decide +kernel
theorem dX6_response_25 : decode cX6_response 25 = .ok (.astore_n 2, 1) := by decide +kernel
theorem dX6_response_26 : decode cX6_response 26 = .ok (.aload_n 2, 1) := by decide +kernel
theorem dX6_response_27 : decode cX6_response 27 = .ok (.getfield 81, 3) := by decide +kernel
theorem dX6_response_30 : decode cX6_response 30 = .ok (.invokevirtual 318, 3) := by decide +kernel
theorem dX6_response_33 : decode cX6_response 33 = .ok (.aload_n 0, 1) := by decide +kernel
theorem dX6_response_34 : decode cX6_response 34 = .ok (.aload_n 2, 1) := by decide +kernel
theorem dX6_response_35 : decode cX6_response 35 = .ok (.invokevirtual 321, 3) := by decide +kernel
theorem dX6_response_38 : decode cX6_response 38 = .ok (.iadd, 1) := by decide +kernel
theorem dX6_response_39 : decode cX6_response 39 = .ok (.istore_n 3, 1) := by decide +kernel
theorem dX6_response_40 : decode cX6_response 40 = .ok (.iload_n 3, 1) := by decide +kernel
theorem dX6_response_41 : decode cX6_response 41 = .ok (.istore 4, 2) := by decide +kernel
theorem dX6_response_43 : decode cX6_response 43 = .ok (.iconst 0, 1) := by decide +kernel
theorem dX6_response_44 : decode cX6_response 44 = .ok (.istore 5, 2) := by decide +kernel
theorem dX6_response_46 : decode cX6_response 46 = .ok (.iload 5, 2) := by decide +kernel
theorem dX6_response_48 : decode cX6_response 48 = .ok (.sipush 1001, 3) := by decide +kernel
theorem dX6_response_51 : decode cX6_response 51 = .ok (.if_icmp .gt 44, 3) := by decide +kernel
theorem dX6_response_54 : decode cX6_response 54 = .ok (.iload_n 3, 1) := by decide +kernel
theorem dX6_response_55 : decode cX6_response 55 = .ok (.aload_n 0, 1) := by decide +kernel
theorem dX6_response_56 : decode cX6_response 56 = .ok (.aload_n 2, 1) := by decide +kernel
theorem dX6_response_57 : decode cX6_response 57 = .ok (.iload 4, 2) := by decide +kernel
theorem dX6_response_59 : decode cX6_response 59 = .ok (.invokevirtual 324, 3) := by decide +kernel
theorem dX6_response_62 : decode cX6_response 62 = .ok (.iadd, 1) := by decide +kernel
theorem dX6_response_63 : decode cX6_response 63 = .ok (.istore 6, 2) := by decide +kernel
theorem dX6_response_65 : decode cX6_response 65 = .ok (.iload 6, 2) := by decide +kernel
theorem dX6_response_67 : decode cX6_response 67 = .ok (.sipush 1000, 3) := by decide +kernel
theorem dX6_response_70 : decode cX6_response 70 = .ok (.if_icmp .le 5, 3) := by decide +kernel
theorem dX6_response_73 : decode cX6_response 73 = .ok (.iconst (-1), 1) := by decide +kernel
theorem dX6_response_74 : decode cX6_response 74 = .ok (.ireturn, 1) := by decide +kernel
theorem dX6_response_75 : decode cX6_response 75 = .ok (.iload 6, 2) := by decide +kernel
theorem dX6_response_77 : decode cX6_response 77 = .ok (.iload 4, 2) := by decide +kernel
theorem dX6_response_79 : decode cX6_response 79 = .ok (.if_icmp .ne 6, 3) := by decide +kernel
theorem dX6_response_82 : decode cX6_response 82 = .ok (.iload 4, 2) := by decide +kernel
theorem dX6_response_84 : decode cX6_response 84 = .ok (.ireturn, 1) := by decide +kernel
theorem dX6_response_85 : decode cX6_response 85 = .ok (.iload 6, 2) := by decide +kernel
theorem dX6_response_87 : decode cX6_response 87 = .ok (.istore 4, 2) := by decide +kernel
theorem dX6_response_89 : decode cX6_response 89 = .ok (.iinc 5 1, 3) := by decide +kernel
theorem dX6_response_92 : decode cX6_response 92 = .ok (.goto (-46), 3) := by decide +kernel
theorem dX6_response_95 : decode cX6_response 95 = .ok (.iconst (-1), 1) := by decide +kernel
theorem dX6_response_96 : decode cX6_response 96 = .ok (.ireturn, 1) := by decide +kernel
theorem dX6_load_0 : decode cX6_load 0 = .ok (.dconst 0, 1) := by decide +kernel
theorem dX6_load_1 : decode cX6_load 1 = .ok (.dstore_n 1, 1) := by decide +kernel
theorem dX6_load_2 : decode cX6_load 2 = .ok (.iconst 0, 1) := by decide +kernel
theorem dX6_load_3 : decode cX6_load 3 = .ok (.istore_n 3, 1) := by decide +kernel
theorem dX6_load_4 : decode cX6_load 4 = .ok (.iload_n 3, 1) := by decide +kernel
theorem dX6_load_5 : decode cX6_load 5 = .ok (.aload_n 0, 1) := by decide +kernel
theorem dX6_load_6 : decode cX6_load 6 = .ok (.getfield 46, 3) := by decide +kernel
theorem dX6_load_9 : decode cX6_load 9 = .ok (.if_icmp .ge 44, 3) := by decide +kernel
theorem dX6_load_12 : decode cX6_load 12 = .ok (.aload_n 0, 1) := by decide +kernel
theorem dX6_load_13 : decode cX6_load 13 = .ok (.getfield 11, 3) := by decide +kernel
theorem dX6_load_16 : decode cX6_load 16 = .ok (.iload_n 3, 1) := by decide +kernel
theorem dX6_load_17 : decode cX6_load 17 = .ok (.aaload, 1) := by decide +kernel
theorem dX6_load_18 : decode cX6_load 18 = .ok (.astore 4, 2) := by decide +kernel
theorem dX6_load_20 : decode cX6_load 20 = .ok (.aload 4, 2) := by decide +kernel
theorem dX6_load_22 : decode cX6_load 22 = .ok (.getfield 101, 3) := by decide +kernel
theorem dX6_load_25 : decode cX6_load 25 = .ok (.ifCond .le 22, 3) := by decide +kernel
theorem dX6_load_28 : decode cX6_load 28 = .ok (.dload_n 1, 1) := by decide +kernel
theorem dX6_load_29 : decode cX6_load 29 = .ok (.aload 4, 2) := by decide +kernel
theorem dX6_load_31 : decode cX6_load 31 = .ok (.getfield 81, 3) := by decide +kernel
theorem dX6_load_34 : decode cX6_load 34 = .ok (.invokevirtual 318, 3) := by decide +kernel
theorem dX6_load_37 : decode cX6_load 37 = .ok (.i2d, 1) := by decide +kernel
theorem dX6_load_38 : decode cX6_load 38 = .ok (.aload 4, 2) := by decide +kernel
theorem dX6_load_40 : decode cX6_load 40 = .ok (.getfield 101, 3) := by decide +kernel
theorem dX6_load_43 : decode cX6_load 43 = .ok (.i2d, 1) := by decide +kernel
theorem dX6_load_44 : decode cX6_load 44 = .ok (.ddiv, 1) := by decide +kernel
theorem dX6_load_45 : decode cX6_load 45 = .ok (.dadd, 1) := by decide +kernel
theorem dX6_load_46 : decode cX6_load 46 = .ok (.dstore_n 1, 1) := by decide +kernel
theorem dX6_load_47 : decode cX6_load 47 = .ok (.iinc 3 1, 3) := by decide +kernel
theorem dX6_load_50 : decode cX6_load 50 = .ok (.goto (-46), 3) := by decide +kernel
theorem dX6_load_53 : decode cX6_load 53 = .ok (.dload_n 1, 1) := by decide +kernel
theorem dX6_load_54 : decode cX6_load 54 = .ok (.dreturn, 1) := by decide +kernel
theorem dX6_blockingOf_0 : decode cX6_blockingOf 0 = .ok (.iconst 0, 1) := by decide +kernel
theorem dX6_blockingOf_1 : decode cX6_blockingOf 1 = .ok (.istore_n 2, 1) := by decide +kernel
theorem dX6_blockingOf_2 : decode cX6_blockingOf 2 = .ok (.iconst 0, 1) := by decide +kernel
theorem dX6_blockingOf_3 : decode cX6_blockingOf 3 = .ok (.istore_n 3, 1) := by decide +kernel
theorem dX6_blockingOf_4 : decode cX6_blockingOf 4 = .ok (.iload_n 3, 1) := by decide +kernel
theorem dX6_blockingOf_5 : decode cX6_blockingOf 5 = .ok (.aload_n 0, 1) := by decide +kernel
theorem dX6_blockingOf_6 : decode cX6_blockingOf 6 = .ok (.getfield 67, 3) := by decide +kernel
theorem dX6_blockingOf_9 : decode cX6_blockingOf 9 = .ok (.if_icmp .ge 35, 3) := by decide +kernel
theorem dX6_blockingOf_12 : decode cX6_blockingOf 12 = .ok (.aload_n 0, 1) := by decide +kernel
theorem dX6_blockingOf_13 : decode cX6_blockingOf 13 = .ok (.iload_n 3, 1) := by decide +kernel
theorem dX6_blockingOf_14 : decode cX6_blockingOf 14 = .ok (.invokevirtual 305, 3) := by decide +kernel
theorem dX6_blockingOf_17 : decode cX6_blockingOf 17 = .ok (.aload_n 1, 1) := by decide +kernel
theorem dX6_blockingOf_18 : decode cX6_blockingOf 18 = .ok (.getfield 238, 3) := by decide +kernel
theorem dX6_blockingOf_21 : decode cX6_blockingOf 21 = .ok (.if_icmp .lt 17, 3) := by decide +kernel
theorem dX6_blockingOf_24 : decode cX6_blockingOf 24 = .ok (.iload_n 2, 1) := by decide +kernel
theorem dX6_blockingOf_25 : decode cX6_blockingOf 25 = .ok (.aload_n 0, 1) := by decide +kernel
theorem dX6_blockingOf_26 : decode cX6_blockingOf 26 = .ok (.aload_n 1, 1) := by decide +kernel
theorem dX6_blockingOf_27 : decode cX6_blockingOf 27 = .ok (.getfield 238, 3) := by decide +kernel
theorem dX6_blockingOf_30 : decode cX6_blockingOf 30 = .ok (.iload_n 3, 1) := by decide +kernel
theorem dX6_blockingOf_31 : decode cX6_blockingOf 31 = .ok (.invokevirtual 328, 3) := by decide +kernel
theorem dX6_blockingOf_34 : decode cX6_blockingOf 34 = .ok (.invokestatic 331, 3) := by decide +kernel
theorem dX6_blockingOf_37 : decode cX6_blockingOf 37 = .ok (.istore_n 2, 1) := by decide +kernel
theorem dX6_blockingOf_38 : decode cX6_blockingOf 38 = .ok (.iinc 3 1, 3) := by decide +kernel
theorem dX6_blockingOf_41 : decode cX6_blockingOf 41 = .ok (.goto (-37), 3) := by decide +kernel
theorem dX6_blockingOf_44 : decode cX6_blockingOf 44 = .ok (.iload_n 2, 1) := by decide +kernel
theorem dX6_blockingOf_45 : decode cX6_blockingOf 45 = .ok (.ireturn, 1) := by decide +kernel
theorem dX6_greatestSectionBelow_0 : decode cX6_greatestSectionBelow 0 = .ok (.iconst 0, 1) := by decide +kernel
theorem dX6_greatestSectionBelow_1 : decode cX6_greatestSectionBelow 1 = .ok (.istore_n 3, 1) := by decide +kernel
theorem dX6_greatestSectionBelow_2 : decode cX6_greatestSectionBelow 2 = .ok (.iconst 0, 1) := by decide +kernel
theorem dX6_greatestSectionBelow_3 : decode cX6_greatestSectionBelow 3 = .ok (.istore 4, 2) := by decide +kernel
theorem dX6_greatestSectionBelow_5 : decode cX6_greatestSectionBelow 5 = .ok (.iload 4, 2) := by decide +kernel
theorem dX6_greatestSectionBelow_7 : decode cX6_greatestSectionBelow 7 = .ok (.aload_n 0, 1) := by decide +kernel
theorem dX6_greatestSectionBelow_8 : decode cX6_greatestSectionBelow 8 = .ok (.getfield 46, 3) := by decide +kernel
theorem dX6_greatestSectionBelow_11 : decode cX6_greatestSectionBelow 11 = .ok (.if_icmp .ge 42, 3) := by decide +kernel
theorem dX6_greatestSectionBelow_14 : decode cX6_greatestSectionBelow 14 = .ok (.aload_n 0, 1) := by decide +kernel
theorem dX6_greatestSectionBelow_15 : decode cX6_greatestSectionBelow 15 = .ok (.getfield 11, 3) := by decide +kernel
theorem dX6_greatestSectionBelow_18 : decode cX6_greatestSectionBelow 18 = .ok (.iload 4, 2) := by decide +kernel
theorem dX6_greatestSectionBelow_20 : decode cX6_greatestSectionBelow 20 = .ok (.aaload, 1) := by decide +kernel
theorem dX6_greatestSectionBelow_21 : decode cX6_greatestSectionBelow 21 = .ok (.getfield 238, 3) := by decide +kernel
theorem dX6_greatestSectionBelow_24 : decode cX6_greatestSectionBelow 24 = .ok (.iload_n 1, 1) := by decide +kernel
theorem dX6_greatestSectionBelow_25 : decode cX6_greatestSectionBelow 25 = .ok (.if_icmp .ge 22, 3) := by decide +kernel
theorem dX6_greatestSectionBelow_28 : decode cX6_greatestSectionBelow 28 = .ok (.iload_n 3, 1) := by decide +kernel
theorem dX6_greatestSectionBelow_29 : decode cX6_greatestSectionBelow 29 = .ok (.aload_n 0, 1) := by decide +kernel
theorem dX6_greatestSectionBelow_30 : decode cX6_greatestSectionBelow 30 = .ok (.getfield 11, 3) := by decide +kernel
theorem dX6_greatestSectionBelow_33 : decode cX6_greatestSectionBelow 33 = .ok (.iload 4, 2) := by decide +kernel
theorem dX6_greatestSectionBelow_35 : decode cX6_greatestSectionBelow 35 = .ok (.aaload, 1) := by decide +kernel
theorem dX6_greatestSectionBelow_36 : decode cX6_greatestSectionBelow 36 = .ok (.getfield 81, 3) := by decide +kernel
theorem dX6_greatestSectionBelow_39 : decode cX6_greatestSectionBelow 39 = .ok (.iload_n 2, 1) := by decide +kernel
theorem dX6_greatestSectionBelow_40 : decode cX6_greatestSectionBelow 40 = .ok (.invokevirtual 336, 3) := by decide +kernel
theorem dX6_greatestSectionBelow_43 : decode cX6_greatestSectionBelow 43 = .ok (.invokestatic 331, 3) := by decide +kernel
theorem dX6_greatestSectionBelow_46 : decode cX6_greatestSectionBelow 46 = .ok (.istore_n 3, 1) := by decide +kernel
theorem dX6_greatestSectionBelow_47 : decode cX6_greatestSectionBelow 47 = .ok (.iinc 4 1, 3) := by decide +kernel
theorem dX6_greatestSectionBelow_50 : decode cX6_greatestSectionBelow 50 = .ok (.goto (-45), 3) := by decide +kernel
theorem dX6_greatestSectionBelow_53 : decode cX6_greatestSectionBelow 53 = .ok (.iload_n 3, 1) := by decide +kernel
theorem dX6_greatestSectionBelow_54 : decode cX6_greatestSectionBelow 54 = .ok (.ireturn, 1) := by decide +kernel
theorem dX6_interferenceWith_0 : decode cX6_interferenceWith 0 = .ok (.iconst 0, 1) := by decide +kernel
theorem dX6_interferenceWith_1 : decode cX6_interferenceWith 1 = .ok (.istore_n 3, 1) := by decide +kernel
theorem dX6_interferenceWith_2 : decode cX6_interferenceWith 2 = .ok (.iconst 0, 1) := by decide +kernel
theorem dX6_interferenceWith_3 : decode cX6_interferenceWith 3 = .ok (.istore 4, 2) := by decide +kernel
theorem dX6_interferenceWith_5 : decode cX6_interferenceWith 5 = .ok (.iload 4, 2) := by decide +kernel
theorem dX6_interferenceWith_7 : decode cX6_interferenceWith 7 = .ok (.aload_n 0, 1) := by decide +kernel
theorem dX6_interferenceWith_8 : decode cX6_interferenceWith 8 = .ok (.getfield 46, 3) := by decide +kernel
theorem dX6_interferenceWith_11 : decode cX6_interferenceWith 11 = .ok (.if_icmp .ge 71, 3) := by decide +kernel
theorem dX6_interferenceWith_14 : decode cX6_interferenceWith 14 = .ok (.aload_n 0, 1) := by decide +kernel
theorem dX6_interferenceWith_15 : decode cX6_interferenceWith 15 = .ok (.getfield 11, 3) := by decide +kernel
theorem dX6_interferenceWith_18 : decode cX6_interferenceWith 18 = .ok (.iload 4, 2) := by decide +kernel
theorem dX6_interferenceWith_20 : decode cX6_interferenceWith 20 = .ok (.aaload, 1) := by decide +kernel
theorem dX6_interferenceWith_21 : decode cX6_interferenceWith 21 = .ok (.astore 5, 2) := by decide +kernel
theorem dX6_interferenceWith_23 : decode cX6_interferenceWith 23 = .ok (.aload 5, 2) := by decide +kernel
theorem dX6_interferenceWith_25 : decode cX6_interferenceWith 25 = .ok (.aload_n 1, 1) := by decide +kernel
theorem dX6_interferenceWith_26 : decode cX6_interferenceWith 26 = .ok (.if_acmp .eq 50, 3) := by decide +kernel
theorem dX6_interferenceWith_29 : decode cX6_interferenceWith 29 = .ok (.aload 5, 2) := by decide +kernel
theorem dX6_interferenceWith_31 : decode cX6_interferenceWith 31 = .ok (.getfield 101, 3) := by decide +kernel
theorem dX6_interferenceWith_34 : decode cX6_interferenceWith 34 = .ok (.ifCond .le 42, 3) := by decide +kernel
theorem dX6_interferenceWith_37 : decode cX6_interferenceWith 37 = .ok (.aload 5, 2) := by decide +kernel
theorem dX6_interferenceWith_39 : decode cX6_interferenceWith 39 = .ok (.getfield 238, 3) := by decide +kernel
theorem dX6_interferenceWith_42 : decode cX6_interferenceWith 42 = .ok (.aload_n 1, 1) := by decide +kernel
theorem dX6_interferenceWith_43 : decode cX6_interferenceWith 43 = .ok (.getfield 238, 3) := by decide +kernel
theorem dX6_interferenceWith_46 : decode cX6_interferenceWith 46 = .ok (.if_icmp .lt 30, 3) := by decide +kernel
theorem dX6_interferenceWith_49 : decode cX6_interferenceWith 49 = .ok (.iload_n 3, 1) := by decide +kernel
theorem dX6_interferenceWith_50 : decode cX6_interferenceWith 50 = .ok (.iload_n 2, 1) := by decide +kernel
theorem dX6_interferenceWith_51 : decode cX6_interferenceWith 51 = .ok (.aload 5, 2) := by decide +kernel
theorem dX6_interferenceWith_53 : decode cX6_interferenceWith 53 = .ok (.getfield 101, 3) := by decide +kernel
theorem dX6_interferenceWith_56 : decode cX6_interferenceWith 56 = .ok (.iadd, 1) := by decide +kernel
theorem dX6_interferenceWith_57 : decode cX6_interferenceWith 57 = .ok (.iconst 1, 1) := by decide +kernel
theorem dX6_interferenceWith_58 : decode cX6_interferenceWith 58 = .ok (.isub, 1) := by decide +kernel
theorem dX6_interferenceWith_59 : decode cX6_interferenceWith 59 = .ok (.aload 5, 2) := by decide +kernel
theorem dX6_interferenceWith_61 : decode cX6_interferenceWith 61 = .ok (.getfield 101, 3) := by decide +kernel
theorem dX6_interferenceWith_64 : decode cX6_interferenceWith 64 = .ok (.idiv, 1) := by decide +kernel
theorem dX6_interferenceWith_65 : decode cX6_interferenceWith 65 = .ok (.aload 5, 2) := by decide +kernel
theorem dX6_interferenceWith_67 : decode cX6_interferenceWith 67 = .ok (.getfield 81, 3) := by decide +kernel
theorem dX6_interferenceWith_70 : decode cX6_interferenceWith 70 = .ok (.invokevirtual 318, 3) := by decide +kernel
theorem dX6_interferenceWith_73 : decode cX6_interferenceWith 73 = .ok (.imul, 1) := by decide +kernel
theorem dX6_interferenceWith_74 : decode cX6_interferenceWith 74 = .ok (.iadd, 1) := by decide +kernel
theorem dX6_interferenceWith_75 : decode cX6_interferenceWith 75 = .ok (.istore_n 3, 1) := by decide +kernel
theorem dX6_interferenceWith_76 : decode cX6_interferenceWith 76 = .ok (.iinc 4 1, 3) := by decide +kernel
theorem dX6_interferenceWith_79 : decode cX6_interferenceWith 79 = .ok (.goto (-74), 3) := by decide +kernel
theorem dX6_interferenceWith_82 : decode cX6_interferenceWith 82 = .ok (.iload_n 3, 1) := by decide +kernel
theorem dX6_interferenceWith_83 : decode cX6_interferenceWith 83 = .ok (.ireturn, 1) := by decide +kernel
theorem dX6_ceilOf_0 : decode cX6_ceilOf 0 = .ok (.iconst 0, 1) := by decide +kernel
theorem dX6_ceilOf_1 : decode cX6_ceilOf 1 = .ok (.istore_n 2, 1) := by decide +kernel
theorem dX6_ceilOf_2 : decode cX6_ceilOf 2 = .ok (.iconst 0, 1) := by decide +kernel
theorem dX6_ceilOf_3 : decode cX6_ceilOf 3 = .ok (.istore_n 3, 1) := by decide +kernel
theorem dX6_ceilOf_4 : decode cX6_ceilOf 4 = .ok (.iload_n 3, 1) := by decide +kernel
theorem dX6_ceilOf_5 : decode cX6_ceilOf 5 = .ok (.aload_n 0, 1) := by decide +kernel
theorem dX6_ceilOf_6 : decode cX6_ceilOf 6 = .ok (.getfield 46, 3) := by decide +kernel
theorem dX6_ceilOf_9 : decode cX6_ceilOf 9 = .ok (.if_icmp .ge 39, 3) := by decide +kernel
theorem dX6_ceilOf_12 : decode cX6_ceilOf 12 = .ok (.aload_n 0, 1) := by decide +kernel
theorem dX6_ceilOf_13 : decode cX6_ceilOf 13 = .ok (.getfield 11, 3) := by decide +kernel
theorem dX6_ceilOf_16 : decode cX6_ceilOf 16 = .ok (.iload_n 3, 1) := by decide +kernel
theorem dX6_ceilOf_17 : decode cX6_ceilOf 17 = .ok (.aaload, 1) := by decide +kernel
theorem dX6_ceilOf_18 : decode cX6_ceilOf 18 = .ok (.getfield 81, 3) := by decide +kernel
theorem dX6_ceilOf_21 : decode cX6_ceilOf 21 = .ok (.iload_n 1, 1) := by decide +kernel
theorem dX6_ceilOf_22 : decode cX6_ceilOf 22 = .ok (.invokevirtual 339, 3) := by decide +kernel
theorem dX6_ceilOf_25 : decode cX6_ceilOf 25 = .ok (.ifCond .eq 17, 3) := by decide +kernel
theorem dX6_ceilOf_28 : decode cX6_ceilOf 28 = .ok (.iload_n 2, 1) := by decide +kernel
theorem dX6_ceilOf_29 : decode cX6_ceilOf 29 = .ok (.aload_n 0, 1) := by decide +kernel
theorem dX6_ceilOf_30 : decode cX6_ceilOf 30 = .ok (.getfield 11, 3) := by decide +kernel
theorem dX6_ceilOf_33 : decode cX6_ceilOf 33 = .ok (.iload_n 3, 1) := by decide +kernel
theorem dX6_ceilOf_34 : decode cX6_ceilOf 34 = .ok (.aaload, 1) := by decide +kernel
theorem dX6_ceilOf_35 : decode cX6_ceilOf 35 = .ok (.getfield 238, 3) := by decide +kernel
theorem dX6_ceilOf_38 : decode cX6_ceilOf 38 = .ok (.invokestatic 331, 3) := by decide +kernel
theorem dX6_ceilOf_41 : decode cX6_ceilOf 41 = .ok (.istore_n 2, 1) := by decide +kernel
theorem dX6_ceilOf_42 : decode cX6_ceilOf 42 = .ok (.iinc 3 1, 3) := by decide +kernel
theorem dX6_ceilOf_45 : decode cX6_ceilOf 45 = .ok (.goto (-41), 3) := by decide +kernel
theorem dX6_ceilOf_48 : decode cX6_ceilOf 48 = .ok (.iload_n 2, 1) := by decide +kernel
theorem dX6_ceilOf_49 : decode cX6_ceilOf 49 = .ok (.ireturn, 1) := by decide +kernel
