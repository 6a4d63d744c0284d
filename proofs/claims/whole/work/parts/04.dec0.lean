theorem dX0_init_0 : decode cX0_init 0 = .ok (.aload_n 0, 1) := by decide +kernel
theorem dX0_init_1 : decode cX0_init 1 = .ok (.invokespecial 3, 3) := by decide +kernel
theorem dX0_init_4 : decode cX0_init 4 = .ok (.aload_n 0, 1) := by decide +kernel
theorem dX0_init_5 : decode cX0_init 5 = .ok (.bipush 10, 2) := by decide +kernel
theorem dX0_init_7 : decode cX0_init 7 = .ok (.newarray .int, 2) := by decide +kernel
theorem dX0_init_9 : decode cX0_init 9 = .ok (.putfield 9, 3) := by decide +kernel
theorem dX0_init_12 : decode cX0_init 12 = .ok (.aload_n 0, 1) := by decide +kernel
theorem dX0_init_13 : decode cX0_init 13 = .ok (.bipush 10, 2) := by decide +kernel
theorem dX0_init_15 : decode cX0_init 15 = .ok (.newarray .int, 2) := by decide +kernel
theorem dX0_init_17 : decode cX0_init 17 = .ok (.putfield 15, 3) := by decide +kernel
theorem dX0_init_20 : decode cX0_init 20 = .ok (.return_, 1) := by decide +kernel
theorem dX0_append_0 : decode cX0_append 0 = .ok (.aload_n 0, 1) := by decide +kernel
theorem dX0_append_1 : decode cX0_append 1 = .ok (.getfield 9, 3) := by decide +kernel
theorem dX0_append_4 : decode cX0_append 4 = .ok (.aload_n 0, 1) := by decide +kernel
theorem dX0_append_5 : decode cX0_append 5 = .ok (.getfield 18, 3) := by decide +kernel
theorem dX0_append_8 : decode cX0_append 8 = .ok (.iload_n 1, 1) := by decide +kernel
theorem dX0_append_9 : decode cX0_append 9 = .ok (.iastore, 1) := by decide +kernel
theorem dX0_append_10 : decode cX0_append 10 = .ok (.aload_n 0, 1) := by decide +kernel
theorem dX0_append_11 : decode cX0_append 11 = .ok (.getfield 15, 3) := by decide +kernel
theorem dX0_append_14 : decode cX0_append 14 = .ok (.aload_n 0, 1) := by decide +kernel
theorem dX0_append_15 : decode cX0_append 15 = .ok (.getfield 18, 3) := by decide +kernel
theorem dX0_append_18 : decode cX0_append 18 = .ok (.iload_n 2, 1) := by decide +kernel
theorem dX0_append_19 : decode cX0_append 19 = .ok (.iastore, 1) := by decide +kernel
theorem dX0_append_20 : decode cX0_append 20 = .ok (.aload_n 0, 1) := by decide +kernel
theorem dX0_append_21 : decode cX0_append 21 = .ok (.dup, 1) := by decide +kernel
theorem dX0_append_22 : decode cX0_append 22 = .ok (.getfield 18, 3) := by decide +kernel
theorem dX0_append_25 : decode cX0_append 25 = .ok (.iconst 1, 1) := by decide +kernel
theorem dX0_append_26 : decode cX0_append 26 = .ok (.iadd, 1) := by decide +kernel
theorem dX0_append_27 : decode cX0_append 27 = .ok (.putfield 18, 3) := by decide +kernel
theorem dX0_append_30 : decode cX0_append 30 = .ok (.return_, 1) := by decide +kernel
theorem dX0_cost_0 : decode cX0_cost 0 = .ok (.iconst 0, 1) := by decide +kernel
theorem dX0_cost_1 : decode cX0_cost 1 = .ok (.istore_n 1, 1) := by decide +kernel
theorem dX0_cost_2 : decode cX0_cost 2 = .ok (.iconst 0, 1) := by decide +kernel
theorem dX0_cost_3 : decode cX0_cost 3 = .ok (.istore_n 2, 1) := by decide +kernel
theorem dX0_cost_4 : decode cX0_cost 4 = .ok (.iload_n 2, 1) := by decide +kernel
theorem dX0_cost_5 : decode cX0_cost 5 = .ok (.aload_n 0, 1) := by decide +kernel
theorem dX0_cost_6 : decode cX0_cost 6 = .ok (.getfield 18, 3) := by decide +kernel
theorem dX0_cost_9 : decode cX0_cost 9 = .ok (.if_icmp .ge 27, 3) := by decide +kernel
theorem dX0_cost_12 : decode cX0_cost 12 = .ok (.aload_n 0, 1) := by decide +kernel
theorem dX0_cost_13 : decode cX0_cost 13 = .ok (.getfield 9, 3) := by decide +kernel
theorem dX0_cost_16 : decode cX0_cost 16 = .ok (.iload_n 2, 1) := by decide +kernel
theorem dX0_cost_17 : decode cX0_cost 17 = .ok (.iaload, 1) := by decide +kernel
theorem dX0_cost_18 : decode cX0_cost 18 = .ok (.ifCond .ne 12, 3) := by decide +kernel
theorem dX0_cost_21 : decode cX0_cost 21 = .ok (.iload_n 1, 1) := by decide +kernel
theorem dX0_cost_22 : decode cX0_cost 22 = .ok (.aload_n 0, 1) := by decide +kernel
theorem dX0_cost_23 : decode cX0_cost 23 = .ok (.getfield 15, 3) := by decide +kernel
theorem dX0_cost_26 : decode cX0_cost 26 = .ok (.iload_n 2, 1) := by decide +kernel
theorem dX0_cost_27 : decode cX0_cost 27 = .ok (.iaload, 1) := by decide +kernel
theorem dX0_cost_28 : decode cX0_cost 28 = .ok (.iadd, 1) := by decide +kernel
theorem dX0_cost_29 : decode cX0_cost 29 = .ok (.istore_n 1, 1) := by decide +kernel
theorem dX0_cost_30 : decode cX0_cost 30 = .ok (.iinc 2 1, 3) := by decide +kernel
theorem dX0_cost_33 : decode cX0_cost 33 = .ok (.goto (-29), 3) := by decide +kernel
theorem dX0_cost_36 : decode cX0_cost 36 = .ok (.iload_n 1, 1) := by decide +kernel
theorem dX0_cost_37 : decode cX0_cost 37 = .ok (.ireturn, 1) := by decide +kernel
theorem dX0_hasLockOf_0 : decode cX0_hasLockOf 0 = .ok (.iconst 0, 1) := by decide +kernel
theorem dX0_hasLockOf_1 : decode cX0_hasLockOf 1 = .ok (.istore_n 2, 1) := by decide +kernel
theorem dX0_hasLockOf_2 : decode cX0_hasLockOf 2 = .ok (.iload_n 2, 1) := by decide +kernel
theorem dX0_hasLockOf_3 : decode cX0_hasLockOf 3 = .ok (.aload_n 0, 1) := by decide +kernel
theorem dX0_hasLockOf_4 : decode cX0_hasLockOf 4 = .ok (.getfield 18, 3) := by decide +kernel
theorem dX0_hasLockOf_7 : decode cX0_hasLockOf 7 = .ok (.if_icmp .ge 31, 3) := by decide +kernel
theorem dX0_hasLockOf_10 : decode cX0_hasLockOf 10 = .ok (.aload_n 0, 1) := by decide +kernel
theorem dX0_hasLockOf_11 : decode cX0_hasLockOf 11 = .ok (.getfield 9, 3) := by decide +kernel
theorem dX0_hasLockOf_14 : decode cX0_hasLockOf 14 = .ok (.iload_n 2, 1) := by decide +kernel
theorem dX0_hasLockOf_15 : decode cX0_hasLockOf 15 = .ok (.iaload, 1) := by decide +kernel
theorem dX0_hasLockOf_16 : decode cX0_hasLockOf 16 = .ok (.iconst 1, 1) := by decide +kernel
theorem dX0_hasLockOf_17 : decode cX0_hasLockOf 17 = .ok (.if_icmp .ne 15, 3) := by decide +kernel
theorem dX0_hasLockOf_20 : decode cX0_hasLockOf 20 = .ok (.aload_n 0, 1) := by decide +kernel
theorem dX0_hasLockOf_21 : decode cX0_hasLockOf 21 = .ok (.getfield 15, 3) := by decide +kernel
theorem dX0_hasLockOf_24 : decode cX0_hasLockOf 24 = .ok (.iload_n 2, 1) := by decide +kernel
theorem dX0_hasLockOf_25 : decode cX0_hasLockOf 25 = .ok (.iaload, 1) := by decide +kernel
theorem dX0_hasLockOf_26 : decode cX0_hasLockOf 26 = .ok (.iload_n 1, 1) := by decide +kernel
theorem dX0_hasLockOf_27 : decode cX0_hasLockOf 27 = .ok (.if_icmp .ne 5, 3) := by decide +kernel
theorem dX0_hasLockOf_30 : decode cX0_hasLockOf 30 = .ok (.iconst 1, 1) := by decide +kernel
theorem dX0_hasLockOf_31 : decode cX0_hasLockOf 31 = .ok (.ireturn, 1) := by decide +kernel
theorem dX0_hasLockOf_32 : decode cX0_hasLockOf 32 = .ok (.iinc 2 1, 3) := by decide +kernel
theorem dX0_hasLockOf_35 : decode cX0_hasLockOf 35 = .ok (.goto (-33), 3) := by decide +kernel
theorem dX0_hasLockOf_38 : decode cX0_hasLockOf 38 = .ok (.iconst 0, 1) := by decide +kernel
theorem dX0_hasLockOf_39 : decode cX0_hasLockOf 39 = .ok (.ireturn, 1) := by decide +kernel
theorem dX0_greatestSection_0 : decode cX0_greatestSection 0 = .ok (.iconst 0, 1) := by decide +kernel
theorem dX0_greatestSection_1 : decode cX0_greatestSection 1 = .ok (.istore_n 2, 1) := by decide +kernel
theorem dX0_greatestSection_2 : decode cX0_greatestSection 2 = .ok (.iconst 0, 1) := by decide +kernel
theorem dX0_greatestSection_3 : decode cX0_greatestSection 3 = .ok (.istore_n 3, 1) := by decide +kernel
theorem dX0_greatestSection_4 : decode cX0_greatestSection 4 = .ok (.iload_n 3, 1) := by decide +kernel
theorem dX0_greatestSection_5 : decode cX0_greatestSection 5 = .ok (.aload_n 0, 1) := by decide +kernel
theorem dX0_greatestSection_6 : decode cX0_greatestSection 6 = .ok (.getfield 18, 3) := by decide +kernel
theorem dX0_greatestSection_9 : decode cX0_greatestSection 9 = .ok (.if_icmp .ge 42, 3) := by decide +kernel
theorem dX0_greatestSection_12 : decode cX0_greatestSection 12 = .ok (.aload_n 0, 1) := by decide +kernel
theorem dX0_greatestSection_13 : decode cX0_greatestSection 13 = .ok (.getfield 9, 3) := by decide +kernel
theorem dX0_greatestSection_16 : decode cX0_greatestSection 16 = .ok (.iload_n 3, 1) := by decide +kernel
theorem dX0_greatestSection_17 : decode cX0_greatestSection 17 = .ok (.iaload, 1) := by decide +kernel
theorem dX0_greatestSection_18 : decode cX0_greatestSection 18 = .ok (.iconst 1, 1) := by decide +kernel
theorem dX0_greatestSection_19 : decode cX0_greatestSection 19 = .ok (.if_icmp .ne 26, 3) := by decide +kernel
theorem dX0_greatestSection_22 : decode cX0_greatestSection 22 = .ok (.aload_n 0, 1) := by decide +kernel
theorem dX0_greatestSection_23 : decode cX0_greatestSection 23 = .ok (.getfield 15, 3) := by decide +kernel
theorem dX0_greatestSection_26 : decode cX0_greatestSection 26 = .ok (.iload_n 3, 1) := by decide +kernel
theorem dX0_greatestSection_27 : decode cX0_greatestSection 27 = .ok (.iaload, 1) := by decide +kernel
theorem dX0_greatestSection_28 : decode cX0_greatestSection 28 = .ok (.iload_n 1, 1) := by decide +kernel
theorem dX0_greatestSection_29 : decode cX0_greatestSection 29 = .ok (.if_icmp .ne 16, 3) := by decide +kernel
theorem dX0_greatestSection_32 : decode cX0_greatestSection 32 = .ok (.iload_n 2, 1) := by decide +kernel
theorem dX0_greatestSection_33 : decode cX0_greatestSection 33 = .ok (.aload_n 0, 1) := by decide +kernel
theorem dX0_greatestSection_34 : decode cX0_greatestSection 34 = .ok (.iload_n 3, 1) := by decide +kernel
theorem dX0_greatestSection_35 : decode cX0_greatestSection 35 = .ok (.iconst 1, 1) := by decide +kernel
theorem dX0_greatestSection_36 : decode cX0_greatestSection 36 = .ok (.iadd, 1) := by decide +kernel
theorem dX0_greatestSection_37 : decode cX0_greatestSection 37 = .ok (.iload_n 1, 1) := by decide +kernel
theorem dX0_greatestSection_38 : decode cX0_greatestSection 38 = .ok (.invokevirtual 22, 3) := by decide +kernel
theorem dX0_greatestSection_41 : decode cX0_greatestSection 41 = .ok (.invokestatic 26, 3) := by decide +kernel
theorem dX0_greatestSection_44 : decode cX0_greatestSection 44 = .ok (.istore_n 2, 1) := by decide +kernel
theorem dX0_greatestSection_45 : decode cX0_greatestSection 45 = .ok (.iinc 3 1, 3) := by decide +kernel
theorem dX0_greatestSection_48 : decode cX0_greatestSection 48 = .ok (.goto (-44), 3) := by decide +kernel
theorem dX0_greatestSection_51 : decode cX0_greatestSection 51 = .ok (.iload_n 2, 1) := by decide +kernel
theorem dX0_greatestSection_52 : decode cX0_greatestSection 52 = .ok (.ireturn, 1) := by decide +kernel
theorem dX0_sectionFrom_0 : decode cX0_sectionFrom 0 = .ok (.iconst 0, 1) := by decide +kernel
theorem dX0_sectionFrom_1 : decode cX0_sectionFrom 1 = .ok (.istore_n 3, 1) := by decide +kernel
theorem dX0_sectionFrom_2 : decode cX0_sectionFrom 2 = .ok (.iload_n 1, 1) := by decide +kernel
theorem dX0_sectionFrom_3 : decode cX0_sectionFrom 3 = .ok (.istore 4, 2) := by decide +kernel
theorem dX0_sectionFrom_5 : decode cX0_sectionFrom 5 = .ok (.iload 4, 2) := by decide +kernel
theorem dX0_sectionFrom_7 : decode cX0_sectionFrom 7 = .ok (.aload_n 0, 1) := by decide +kernel
theorem dX0_sectionFrom_8 : decode cX0_sectionFrom 8 = .ok (.getfield 18, 3) := by decide +kernel
theorem dX0_sectionFrom_11 : decode cX0_sectionFrom 11 = .ok (.if_icmp .ge 53, 3) := by decide +kernel
theorem dX0_sectionFrom_14 : decode cX0_sectionFrom 14 = .ok (.aload_n 0, 1) := by decide +kernel
theorem dX0_sectionFrom_15 : decode cX0_sectionFrom 15 = .ok (.getfield 9, 3) := by decide +kernel
theorem dX0_sectionFrom_18 : decode cX0_sectionFrom 18 = .ok (.iload 4, 2) := by decide +kernel
theorem dX0_sectionFrom_20 : decode cX0_sectionFrom 20 = .ok (.iaload, 1) := by decide +kernel
theorem dX0_sectionFrom_21 : decode cX0_sectionFrom 21 = .ok (.iconst 2, 1) := by decide +kernel
theorem dX0_sectionFrom_22 : decode cX0_sectionFrom 22 = .ok (.if_icmp .ne 16, 3) := by decide +kernel
theorem dX0_sectionFrom_25 : decode cX0_sectionFrom 25 = .ok (.aload_n 0, 1) := by decide +kernel
theorem dX0_sectionFrom_26 : decode cX0_sectionFrom 26 = .ok (.getfield 15, 3) := by decide +kernel
theorem dX0_sectionFrom_29 : decode cX0_sectionFrom 29 = .ok (.iload 4, 2) := by decide +kernel
theorem dX0_sectionFrom_31 : decode cX0_sectionFrom 31 = .ok (.iaload, 1) := by decide +kernel
theorem dX0_sectionFrom_32 : decode cX0_sectionFrom 32 = .ok (.iload_n 2, 1) := by decide +kernel
theorem dX0_sectionFrom_33 : decode cX0_sectionFrom 33 = .ok (.if_icmp .ne 5, 3) := by decide +kernel
theorem dX0_sectionFrom_36 : decode cX0_sectionFrom 36 = .ok (.iload_n 3, 1) := by decide +kernel
theorem dX0_sectionFrom_37 : decode cX0_sectionFrom 37 = .ok (.ireturn, 1) := by decide +kernel
theorem dX0_sectionFrom_38 : decode cX0_sectionFrom 38 = .ok (.aload_n 0, 1) := by decide +kernel
theorem dX0_sectionFrom_39 : decode cX0_sectionFrom 39 = .ok (.getfield 9, 3) := by decide +kernel
theorem dX0_sectionFrom_42 : decode cX0_sectionFrom 42 = .ok (.iload 4, 2) := by decide +kernel
theorem dX0_sectionFrom_44 : decode cX0_sectionFrom 44 = .ok (.iaload, 1) := by decide +kernel
theorem dX0_sectionFrom_45 : decode cX0_sectionFrom 45 = .ok (.ifCond .ne 13, 3) := by decide +kernel
theorem dX0_sectionFrom_48 : decode cX0_sectionFrom 48 = .ok (.iload_n 3, 1) := by decide +kernel
theorem dX0_sectionFrom_49 : decode cX0_sectionFrom 49 = .ok (.aload_n 0, 1) := by decide +kernel
theorem dX0_sectionFrom_50 : decode cX0_sectionFrom 50 = .ok (.getfield 15, 3) := by decide +kernel
theorem dX0_sectionFrom_53 : decode cX0_sectionFrom 53 = .ok (.iload 4, 2) := by decide +kernel
theorem dX0_sectionFrom_55 : decode cX0_sectionFrom 55 = .ok (.iaload, 1) := by decide +kernel
theorem dX0_sectionFrom_56 : decode cX0_sectionFrom 56 = .ok (.iadd, 1) := by decide +kernel
theorem dX0_sectionFrom_57 : decode cX0_sectionFrom 57 = .ok (.istore_n 3, 1) := by decide +kernel
theorem dX0_sectionFrom_58 : decode cX0_sectionFrom 58 = .ok (.iinc 4 1, 3) := by decide +kernel
theorem dX0_sectionFrom_61 : decode cX0_sectionFrom 61 = .ok (.goto (-56), 3) := by decide +kernel
theorem dX0_sectionFrom_64 : decode cX0_sectionFrom 64 = .ok (.iload_n 3, 1) := by decide +kernel
theorem dX0_sectionFrom_65 : decode cX0_sectionFrom 65 = .ok (.ireturn, 1) := by decide +kernel
theorem dX1_init_0 : decode cX1_init 0 = .ok (.aload_n 0, 1) := by decide +kernel
theorem dX1_init_1 : decode cX1_init 1 = .ok (.invokespecial 3, 3) := by decide +kernel
theorem dX1_init_4 : decode cX1_init 4 = .ok (.aload_n 0, 1) := by decide +kernel
theorem dX1_init_5 : decode cX1_init 5 = .ok (.iconst 0, 1) := by decide +kernel
theorem dX1_init_6 : decode cX1_init 6 = .ok (.putfield 9, 3) := by decide +kernel
theorem dX1_init_9 : decode cX1_init 9 = .ok (.return_, 1) := by decide +kernel
theorem dX1_begin_0 : decode cX1_begin 0 = .ok (.aload_n 0, 1) := by decide +kernel
theorem dX1_begin_1 : decode cX1_begin 1 = .ok (.iconst 1, 1) := by decide +kernel
theorem dX1_begin_2 : decode cX1_begin 2 = .ok (.putfield 9, 3) := by decide +kernel
theorem dX1_begin_5 : decode cX1_begin 5 = .ok (.aload_n 0, 1) := by decide +kernel
theorem dX1_begin_6 : decode cX1_begin 6 = .ok (.iconst 0, 1) := by decide +kernel
theorem dX1_begin_7 : decode cX1_begin 7 = .ok (.putfield 15, 3) := by decide +kernel
theorem dX1_begin_10 : decode cX1_begin 10 = .ok (.aload_n 0, 1) := by decide +kernel
theorem dX1_begin_11 : decode cX1_begin 11 = .ok (.iconst 0, 1) := by decide +kernel
theorem dX1_begin_12 : decode cX1_begin 12 = .ok (.putfield 18, 3) := by decide +kernel
theorem dX1_begin_15 : decode cX1_begin 15 = .ok (.aload_n 0, 1) := by decide +kernel
theorem dX1_begin_16 : decode cX1_begin 16 = .ok (.iconst 0, 1) := by decide +kernel
theorem dX1_begin_17 : decode cX1_begin 17 = .ok (.putfield 21, 3) := by decide +kernel
theorem dX1_begin_20 : decode cX1_begin 20 = .ok (.aload_n 0, 1) := by decide +kernel
theorem dX1_begin_21 : decode cX1_begin 21 = .ok (.iload_n 1, 1) := by decide +kernel
theorem dX1_begin_22 : decode cX1_begin 22 = .ok (.putfield 24, 3) := by decide +kernel
theorem dX1_begin_25 : decode cX1_begin 25 = .ok (.aload_n 0, 1) := by decide +kernel
theorem dX1_begin_26 : decode cX1_begin 26 = .ok (.iload_n 1, 1) := by decide +kernel
theorem dX1_begin_27 : decode cX1_begin 27 = .ok (.iload_n 2, 1) := by decide +kernel
theorem dX1_begin_28 : decode cX1_begin 28 = .ok (.iadd, 1) := by decide +kernel
theorem dX1_begin_29 : decode cX1_begin 29 = .ok (.putfield 27, 3) := by decide +kernel
theorem dX1_begin_32 : decode cX1_begin 32 = .ok (.aload_n 0, 1) := by decide +kernel
theorem dX1_begin_33 : decode cX1_begin 33 = .ok (.iload_n 3, 1) := by decide +kernel
theorem dX1_begin_34 : decode cX1_begin 34 = .ok (.putfield 30, 3) := by decide +kernel
theorem dX1_begin_37 : decode cX1_begin 37 = .ok (.return_, 1) := by decide +kernel
theorem dX1_passStep_0 : decode cX1_passStep 0 = .ok (.aload_n 0, 1) := by decide +kernel
theorem dX1_passStep_1 : decode cX1_passStep 1 = .ok (.dup, 1) := by decide +kernel
theorem dX1_passStep_2 : decode cX1_passStep 2 = .ok (.getfield 15, 3) := by decide +kernel
theorem dX1_passStep_5 : decode cX1_passStep 5 = .ok (.iconst 1, 1) := by decide +kernel
theorem dX1_passStep_6 : decode cX1_passStep 6 = .ok (.iadd, 1) := by decide +kernel
theorem dX1_passStep_7 : decode cX1_passStep 7 = .ok (.putfield 15, 3) := by decide +kernel
theorem dX1_passStep_10 : decode cX1_passStep 10 = .ok (.aload_n 0, 1) := by decide +kernel
theorem dX1_passStep_11 : decode cX1_passStep 11 = .ok (.iconst 0, 1) := by decide +kernel
theorem dX1_passStep_12 : decode cX1_passStep 12 = .ok (.putfield 18, 3) := by decide +kernel
theorem dX1_passStep_15 : decode cX1_passStep 15 = .ok (.return_, 1) := by decide +kernel
theorem dX1_blockAt_0 : decode cX1_blockAt 0 = .ok (.aload_n 0, 1) := by decide +kernel
theorem dX1_blockAt_1 : decode cX1_blockAt 1 = .ok (.iconst 2, 1) := by decide +kernel
theorem dX1_blockAt_2 : decode cX1_blockAt 2 = .ok (.putfield 9, 3) := by decide +kernel
theorem dX1_blockAt_5 : decode cX1_blockAt 5 = .ok (.aload_n 0, 1) := by decide +kernel
theorem dX1_blockAt_6 : decode cX1_blockAt 6 = .ok (.aload_n 1, 1) := by decide +kernel
theorem dX1_blockAt_7 : decode cX1_blockAt 7 = .ok (.putfield 33, 3) := by decide +kernel
theorem dX1_blockAt_10 : decode cX1_blockAt 10 = .ok (.aload_n 0, 1) := by decide +kernel
theorem dX1_blockAt_11 : decode cX1_blockAt 11 = .ok (.iload_n 2, 1) := by decide +kernel
theorem dX1_blockAt_12 : decode cX1_blockAt 12 = .ok (.putfield 30, 3) := by decide +kernel
theorem dX1_blockAt_15 : decode cX1_blockAt 15 = .ok (.return_, 1) := by decide +kernel
theorem dX1_resume_0 : decode cX1_resume 0 = .ok (.aload_n 0, 1) := by decide +kernel
theorem dX1_resume_1 : decode cX1_resume 1 = .ok (.iconst 1, 1) := by decide +kernel
theorem dX1_resume_2 : decode cX1_resume 2 = .ok (.putfield 9, 3) := by decide +kernel
theorem dX1_resume_5 : decode cX1_resume 5 = .ok (.aload_n 0, 1) := by decide +kernel
theorem dX1_resume_6 : decode cX1_resume 6 = .ok (.aconst_null, 1) := by decide +kernel
theorem dX1_resume_7 : decode cX1_resume 7 = .ok (.putfield 33, 3) := by decide +kernel
theorem dX1_resume_10 : decode cX1_resume 10 = .ok (.aload_n 0, 1) := by decide +kernel
theorem dX1_resume_11 : decode cX1_resume 11 = .ok (.iload_n 1, 1) := by decide +kernel
theorem dX1_resume_12 : decode cX1_resume 12 = .ok (.putfield 30, 3) := by decide +kernel
theorem dX1_resume_15 : decode cX1_resume 15 = .ok (.aload_n 0, 1) := by decide +kernel
theorem dX1_resume_16 : decode cX1_resume 16 = .ok (.invokevirtual 37, 3) := by decide +kernel
theorem dX1_resume_19 : decode cX1_resume 19 = .ok (.return_, 1) := by decide +kernel
theorem dX1_end_0 : decode cX1_end 0 = .ok (.aload_n 0, 1) := by decide +kernel
theorem dX1_end_1 : decode cX1_end 1 = .ok (.iconst 0, 1) := by decide +kernel
theorem dX1_end_2 : decode cX1_end 2 = .ok (.putfield 9, 3) := by decide +kernel
theorem dX1_end_5 : decode cX1_end 5 = .ok (.aload_n 0, 1) := by decide +kernel
theorem dX1_end_6 : decode cX1_end 6 = .ok (.aconst_null, 1) := by decide +kernel
theorem dX1_end_7 : decode cX1_end 7 = .ok (.putfield 33, 3) := by decide +kernel
theorem dX1_end_10 : decode cX1_end 10 = .ok (.return_, 1) := by decide +kernel
theorem dX1_inheritsAhead_0 : decode cX1_inheritsAhead 0 = .ok (.aload_n 0, 1) := by decide +kernel
theorem dX1_inheritsAhead_1 : decode cX1_inheritsAhead 1 = .ok (.getfield 40, 3) := by decide +kernel
theorem dX1_inheritsAhead_4 : decode cX1_inheritsAhead 4 = .ok (.aload_n 1, 1) := by decide +kernel
theorem dX1_inheritsAhead_5 : decode cX1_inheritsAhead 5 = .ok (.getfield 40, 3) := by decide +kernel
theorem dX1_inheritsAhead_8 : decode cX1_inheritsAhead 8 = .ok (.if_icmp .eq 22, 3) := by decide +kernel
theorem dX1_inheritsAhead_11 : decode cX1_inheritsAhead 11 = .ok (.aload_n 0, 1) := by decide +kernel
theorem dX1_inheritsAhead_12 : decode cX1_inheritsAhead 12 = .ok (.getfield 40, 3) := by decide +kernel
theorem dX1_inheritsAhead_15 : decode cX1_inheritsAhead 15 = .ok (.aload_n 1, 1) := by decide +kernel
theorem dX1_inheritsAhead_16 : decode cX1_inheritsAhead 16 = .ok (.getfield 40, 3) := by decide +kernel
theorem dX1_inheritsAhead_19 : decode cX1_inheritsAhead 19 = .ok (.if_icmp .le 7, 3) := by decide +kernel
theorem dX1_inheritsAhead_22 : decode cX1_inheritsAhead 22 = .ok (.iconst 1, 1) := by decide +kernel
theorem dX1_inheritsAhead_23 : decode cX1_inheritsAhead 23 = .ok (.goto 23, 3) := by decide +kernel
theorem dX1_inheritsAhead_26 : decode cX1_inheritsAhead 26 = .ok (.iconst 0, 1) := by decide +kernel
theorem dX1_inheritsAhead_27 : decode cX1_inheritsAhead 27 = .ok (.goto 19, 3) := by decide +kernel
theorem dX1_inheritsAhead_30 : decode cX1_inheritsAhead 30 = .ok (.aload_n 0, 1) := by decide +kernel
theorem dX1_inheritsAhead_31 : decode cX1_inheritsAhead 31 = .ok (.getfield 30, 3) := by decide +kernel
theorem dX1_inheritsAhead_34 : decode cX1_inheritsAhead 34 = .ok (.aload_n 1, 1) := by decide +kernel
theorem dX1_inheritsAhead_35 : decode cX1_inheritsAhead 35 = .ok (.getfield 30, 3) := by decide +kernel
theorem dX1_inheritsAhead_38 : decode cX1_inheritsAhead 38 = .ok (.if_icmp .ge 7, 3) := by decide +kernel
theorem dX1_inheritsAhead_41 : decode cX1_inheritsAhead 41 = .ok (.iconst 1, 1) := by decide +kernel
theorem dX1_inheritsAhead_42 : decode cX1_inheritsAhead 42 = .ok (.goto 4, 3) := by decide +kernel
theorem dX1_inheritsAhead_45 : decode cX1_inheritsAhead 45 = .ok (.iconst 0, 1) := by decide +kernel
theorem dX1_inheritsAhead_46 : decode cX1_inheritsAhead 46 = .ok (.ireturn, 1) := by decide +kernel
theorem dX2_init_0 : decode cX2_init 0 = .ok (.aload_n 0, 1) := by decide +kernel
theorem dX2_init_1 : decode cX2_init 1 = .ok (.invokespecial 3, 3) := by decide +kernel
theorem dX2_init_4 : decode cX2_init 4 = .ok (.aload_n 0, 1) := by decide +kernel
theorem dX2_init_5 : decode cX2_init 5 = .ok (.bipush 40, 2) := by decide +kernel
theorem dX2_init_7 : decode cX2_init 7 = .ok (.newarray .int, 2) := by decide +kernel
theorem dX2_init_9 : decode cX2_init 9 = .ok (.putfield 9, 3) := by decide +kernel
theorem dX2_init_12 : decode cX2_init 12 = .ok (.aload_n 0, 1) := by decide +kernel
theorem dX2_init_13 : decode cX2_init 13 = .ok (.bipush 40, 2) := by decide +kernel
theorem dX2_init_15 : decode cX2_init 15 = .ok (.newarray .int, 2) := by decide +kernel
theorem dX2_init_17 : decode cX2_init 17 = .ok (.putfield 15, 3) := by decide +kernel
theorem dX2_init_20 : decode cX2_init 20 = .ok (.aload_n 0, 1) := by decide +kernel
theorem dX2_init_21 : decode cX2_init 21 = .ok (.bipush 40, 2) := by decide +kernel
theorem dX2_init_23 : decode cX2_init 23 = .ok (.newarray .int, 2) := by decide +kernel
theorem dX2_init_25 : decode cX2_init 25 = .ok (.putfield 18, 3) := by decide +kernel
theorem dX2_init_28 : decode cX2_init 28 = .ok (.return_, 1) := by decide +kernel
theorem dX2_add_0 : decode cX2_add 0 = .ok (.aload_n 0, 1) := by decide +kernel
theorem dX2_add_1 : decode cX2_add 1 = .ok (.getfield 9, 3) := by decide +kernel
theorem dX2_add_4 : decode cX2_add 4 = .ok (.aload_n 0, 1) := by decide +kernel
theorem dX2_add_5 : decode cX2_add 5 = .ok (.getfield 21, 3) := by decide +kernel
theorem dX2_add_8 : decode cX2_add 8 = .ok (.iload_n 1, 1) := by decide +kernel
theorem dX2_add_9 : decode cX2_add 9 = .ok (.iastore, 1) := by decide +kernel
theorem dX2_add_10 : decode cX2_add 10 = .ok (.aload_n 0, 1) := by decide +kernel
theorem dX2_add_11 : decode cX2_add 11 = .ok (.getfield 15, 3) := by decide +kernel
theorem dX2_add_14 : decode cX2_add 14 = .ok (.aload_n 0, 1) := by decide +kernel
theorem dX2_add_15 : decode cX2_add 15 = .ok (.getfield 21, 3) := by decide +kernel
theorem dX2_add_18 : decode cX2_add 18 = .ok (.iload_n 2, 1) := by decide +kernel
theorem dX2_add_19 : decode cX2_add 19 = .ok (.iastore, 1) := by decide +kernel
theorem dX2_add_20 : decode cX2_add 20 = .ok (.aload_n 0, 1) := by decide +kernel
theorem dX2_add_21 : decode cX2_add 21 = .ok (.getfield 18, 3) := by decide +kernel
theorem dX2_add_24 : decode cX2_add 24 = .ok (.aload_n 0, 1) := by decide +kernel
theorem dX2_add_25 : decode cX2_add 25 = .ok (.getfield 21, 3) := by decide +kernel
theorem dX2_add_28 : decode cX2_add 28 = .ok (.iload_n 3, 1) := by decide +kernel
theorem dX2_add_29 : decode cX2_add 29 = .ok (.iastore, 1) := by decide +kernel
theorem dX2_add_30 : decode cX2_add 30 = .ok (.aload_n 0, 1) := by decide +kernel
theorem dX2_add_31 : decode cX2_add 31 = .ok (.aload_n 0, 1) := by decide +kernel
theorem dX2_add_32 : decode cX2_add 32 = .ok (.getfield 21, 3) := by decide +kernel
theorem dX2_add_35 : decode cX2_add 35 = .ok (.iconst 1, 1) := by decide +kernel
theorem dX2_add_36 : decode cX2_add 36 = .ok (.iadd, 1) := by decide +kernel
theorem dX2_add_37 : decode cX2_add 37 = .ok (.bipush 40, 2) := by decide +kernel
theorem dX2_add_39 : decode cX2_add 39 = .ok (.irem, 1) := by decide +kernel
theorem dX2_add_40 : decode cX2_add 40 = .ok (.putfield 21, 3) := by decide +kernel
theorem dX2_add_43 : decode cX2_add 43 = .ok (.aload_n 0, 1) := by decide +kernel
theorem dX2_add_44 : decode cX2_add 44 = .ok (.dup, 1) := by decide +kernel
theorem dX2_add_45 : decode cX2_add 45 = .ok (.getfield 25, 3) := by decide +kernel
theorem dX2_add_48 : decode cX2_add 48 = .ok (.iconst 1, 1) := by decide +kernel
theorem dX2_add_49 : decode cX2_add 49 = .ok (.iadd, 1) := by decide +kernel
theorem dX2_add_50 : decode cX2_add 50 = .ok (.putfield 25, 3) := by decide +kernel
theorem dX2_add_53 : decode cX2_add 53 = .ok (.return_, 1) := by decide +kernel
theorem dX2_answer_0 : decode cX2_answer 0 = .ok (.iload_n 1, 1) := by decide +kernel
theorem dX2_answer_1 : decode cX2_answer 1 = .ok (.ifCond .lt 16, 3) := by decide +kernel
theorem dX2_answer_4 : decode cX2_answer 4 = .ok (.iload_n 1, 1) := by decide +kernel
theorem dX2_answer_5 : decode cX2_answer 5 = .ok (.aload_n 0, 1) := by decide +kernel
theorem dX2_answer_6 : decode cX2_answer 6 = .ok (.getfield 25, 3) := by decide +kernel
theorem dX2_answer_9 : decode cX2_answer 9 = .ok (.bipush 40, 2) := by decide +kernel
theorem dX2_answer_11 : decode cX2_answer 11 = .ok (.invokestatic 28, 3) := by decide +kernel
theorem dX2_answer_14 : decode cX2_answer 14 = .ok (.if_icmp .lt 5, 3) := by decide +kernel
theorem dX2_answer_17 : decode cX2_answer 17 = .ok (.iconst (-1), 1) := by decide +kernel
theorem dX2_answer_18 : decode cX2_answer 18 = .ok (.ireturn, 1) := by decide +kernel
theorem dX2_answer_19 : decode cX2_answer 19 = .ok (.aload_n 0, 1) := by decide +kernel
theorem dX2_answer_20 : decode cX2_answer 20 = .ok (.getfield 21, 3) := by decide +kernel
theorem dX2_answer_23 : decode cX2_answer 23 = .ok (.bipush 40, 2) := by decide +kernel
theorem dX2_answer_25 : decode cX2_answer 25 = .ok (.iadd, 1) := by decide +kernel
theorem dX2_answer_26 : decode cX2_answer 26 = .ok (.iconst 1, 1) := by decide +kernel
theorem dX2_answer_27 : decode cX2_answer 27 = .ok (.isub, 1) := by decide +kernel
theorem dX2_answer_28 : decode cX2_answer 28 = .ok (.iload_n 1, 1) := by decide +kernel
theorem dX2_answer_29 : decode cX2_answer 29 = .ok (.isub, 1) := by decide +kernel
theorem dX2_answer_30 : decode cX2_answer 30 = .ok (.bipush 40, 2) := by decide +kernel
theorem dX2_answer_32 : decode cX2_answer 32 = .ok (.irem, 1) := by decide +kernel
theorem dX2_answer_33 : decode cX2_answer 33 = .ok (.istore_n 3, 1) := by decide +kernel
theorem dX2_answer_34 : decode cX2_answer 34 = .ok (.iload_n 2, 1) := by decide +kernel
theorem dX2_answer_35 : decode cX2_answer 35 = .ok (.tableswitch 46 0 2 #[25, 32, 39], 25) := by decide +kernel
theorem dX2_answer_60 : decode cX2_answer 60 = .ok (.aload_n 0, 1) := by decide +kernel
theorem dX2_answer_61 : decode cX2_answer 61 = .ok (.getfield 9, 3) := by decide +kernel
theorem dX2_answer_64 : decode cX2_answer 64 = .ok (.iload_n 3, 1) := by decide +kernel
theorem dX2_answer_65 : decode cX2_answer 65 = .ok (.iaload, 1) := by decide +kernel
theorem dX2_answer_66 : decode cX2_answer 66 = .ok (.ireturn, 1) := by decide +kernel
theorem dX2_answer_67 : decode cX2_answer 67 = .ok (.aload_n 0, 1) := by decide +kernel
theorem dX2_answer_68 : decode cX2_answer 68 = .ok (.getfield 15, 3) := by decide +kernel
theorem dX2_answer_71 : decode cX2_answer 71 = .ok (.iload_n 3, 1) := by decide +kernel
theorem dX2_answer_72 : decode cX2_answer 72 = .ok (.iaload, 1) := by decide +kernel
theorem dX2_answer_73 : decode cX2_answer 73 = .ok (.ireturn, 1) := by decide +kernel
theorem dX2_answer_74 : decode cX2_answer 74 = .ok (.aload_n 0, 1) := by decide +kernel
theorem dX2_answer_75 : decode cX2_answer 75 = .ok (.getfield 18, 3) := by decide +kernel
theorem dX2_answer_78 : decode cX2_answer 78 = .ok (.iload_n 3, 1) := by decide +kernel
theorem dX2_answer_79 : decode cX2_answer 79 = .ok (.iaload, 1) := by decide +kernel
theorem dX2_answer_80 : decode cX2_answer 80 = .ok (.ireturn, 1) := by decide +kernel
theorem dX2_answer_81 : decode cX2_answer 81 = .ok (.iconst (-1), 1) := by decide +kernel
theorem dX2_answer_82 : decode cX2_answer 82 = .ok (.ireturn, 1) := by decide +kernel
theorem dX3_init_0 : decode cX3_init 0 = .ok (.aload_n 0, 1) := by decide +kernel
theorem dX3_init_1 : decode cX3_init 1 = .ok (.invokespecial 1, 3) := by decide +kernel
theorem dX3_init_4 : decode cX3_init 4 = .ok (.aload_n 0, 1) := by decide +kernel
theorem dX3_init_5 : decode cX3_init 5 = .ok (.iload_n 1, 1) := by decide +kernel
theorem dX3_init_6 : decode cX3_init 6 = .ok (.putfield 7, 3) := by decide +kernel
theorem dX3_init_9 : decode cX3_init 9 = .ok (.aload_n 0, 1) := by decide +kernel
theorem dX3_init_10 : decode cX3_init 10 = .ok (.iload_n 2, 1) := by decide +kernel
theorem dX3_init_11 : decode cX3_init 11 = .ok (.putfield 13, 3) := by decide +kernel
theorem dX3_init_14 : decode cX3_init 14 = .ok (.aload_n 0, 1) := by decide +kernel
theorem dX3_init_15 : decode cX3_init 15 = .ok (.iload_n 3, 1) := by decide +kernel
theorem dX3_init_16 : decode cX3_init 16 = .ok (.putfield 16, 3) := by decide +kernel
theorem dX3_init_19 : decode cX3_init 19 = .ok (.return_, 1) := by decide +kernel
theorem dX4_init_0 : decode cX4_init 0 = .ok (.aload_n 0, 1) := by decide +kernel
theorem dX4_init_1 : decode cX4_init 1 = .ok (.invokespecial 1, 3) := by decide +kernel
theorem dX4_init_4 : decode cX4_init 4 = .ok (.return_, 1) := by decide +kernel
theorem dX4_addDone_0 : decode cX4_addDone 0 = .ok (.aload_n 0, 1) := by decide +kernel
theorem dX4_addDone_1 : decode cX4_addDone 1 = .ok (.dup, 1) := by decide +kernel
theorem dX4_addDone_2 : decode cX4_addDone 2 = .ok (.getfield 7, 3) := by decide +kernel
theorem dX4_addDone_5 : decode cX4_addDone 5 = .ok (.iconst 1, 1) := by decide +kernel
theorem dX4_addDone_6 : decode cX4_addDone 6 = .ok (.iadd, 1) := by decide +kernel
theorem dX4_addDone_7 : decode cX4_addDone 7 = .ok (.putfield 7, 3) := by decide +kernel
theorem dX4_addDone_10 : decode cX4_addDone 10 = .ok (.aload_n 0, 1) := by decide +kernel
theorem dX4_addDone_11 : decode cX4_addDone 11 = .ok (.aload_n 0, 1) := by decide +kernel
theorem dX4_addDone_12 : decode cX4_addDone 12 = .ok (.getfield 13, 3) := by decide +kernel
theorem dX4_addDone_15 : decode cX4_addDone 15 = .ok (.iload_n 1, 1) := by decide +kernel
theorem dX4_addDone_16 : decode cX4_addDone 16 = .ok (.invokestatic 16, 3) := by decide +kernel
theorem dX4_addDone_19 : decode cX4_addDone 19 = .ok (.putfield 13, 3) := by decide +kernel
theorem dX4_addDone_22 : decode cX4_addDone 22 = .ok (.return_, 1) := by decide +kernel
theorem dX5_init_0 : decode cX5_init 0 = .ok (.aload_n 0, 1) := by decide +kernel
theorem dX5_init_1 : decode cX5_init 1 = .ok (.invokespecial 3, 3) := by decide +kernel
theorem dX5_init_4 : decode cX5_init 4 = .ok (.aload_n 0, 1) := by decide +kernel
theorem dX5_init_5 : decode cX5_init 5 = .ok (.new 9, 3) := by decide +kernel
theorem dX5_init_8 : decode cX5_init 8 = .ok (.dup, 1) := by decide +kernel
theorem dX5_init_9 : decode cX5_init 9 = .ok (.invokespecial 11, 3) := by decide +kernel
theorem dX5_init_12 : decode cX5_init 12 = .ok (.putfield 12, 3) := by decide +kernel
theorem dX5_init_15 : decode cX5_init 15 = .ok (.aload_n 0, 1) := by decide +kernel
theorem dX5_init_16 : decode cX5_init 16 = .ok (.new 18, 3) := by decide +kernel
theorem dX5_init_19 : decode cX5_init 19 = .ok (.dup, 1) := by decide +kernel
theorem dX5_init_20 : decode cX5_init 20 = .ok (.invokespecial 20, 3) := by decide +kernel
theorem dX5_init_23 : decode cX5_init 23 = .ok (.putfield 21, 3) := by decide +kernel
theorem dX5_init_26 : decode cX5_init 26 = .ok (.aload_n 0, 1) := by decide +kernel
theorem dX5_init_27 : decode cX5_init 27 = .ok (.new 25, 3) := by decide +kernel
theorem dX5_init_30 : decode cX5_init 30 = .ok (.dup, 1) := by decide +kernel
theorem dX5_init_31 : decode cX5_init 31 = .ok (.invokespecial 27, 3) := by decide +kernel
theorem dX5_init_34 : decode cX5_init 34 = .ok (.putfield 28, 3) := by decide +kernel
theorem dX5_init_37 : decode cX5_init 37 = .ok (.aload_n 0, 1) := by decide +kernel
theorem dX5_init_38 : decode cX5_init 38 = .ok (.iload_n 1, 1) := by decide +kernel
theorem dX5_init_39 : decode cX5_init 39 = .ok (.putfield 32, 3) := by decide +kernel
theorem dX5_init_42 : decode cX5_init 42 = .ok (.aload_n 0, 1) := by decide +kernel
theorem dX5_init_43 : decode cX5_init 43 = .ok (.iload_n 2, 1) := by decide +kernel
theorem dX5_init_44 : decode cX5_init 44 = .ok (.putfield 36, 3) := by decide +kernel
theorem dX5_init_47 : decode cX5_init 47 = .ok (.aload_n 0, 1) := by decide +kernel
theorem dX5_init_48 : decode cX5_init 48 = .ok (.iload_n 3, 1) := by decide +kernel
theorem dX5_init_49 : decode cX5_init 49 = .ok (.putfield 39, 3) := by decide +kernel
theorem dX5_init_52 : decode cX5_init 52 = .ok (.aload_n 0, 1) := by decide +kernel
theorem dX5_init_53 : decode cX5_init 53 = .ok (.iload 4, 2) := by decide +kernel
theorem dX5_init_55 : decode cX5_init 55 = .ok (.putfield 42, 3) := by decide +kernel
theorem dX5_init_58 : decode cX5_init 58 = .ok (.aload_n 0, 1) := by decide +kernel
theorem dX5_init_59 : decode cX5_init 59 = .ok (.iload 5, 2) := by decide +kernel
theorem dX5_init_61 : decode cX5_init 61 = .ok (.putfield 45, 3) := by decide +kernel
theorem dX5_init_64 : decode cX5_init 64 = .ok (.aload_n 0, 1) := by decide +kernel
theorem dX5_init_65 : decode cX5_init 65 = .ok (.iload 6, 2) := by decide +kernel
theorem dX5_init_67 : decode cX5_init 67 = .ok (.putfield 48, 3) := by decide +kernel
theorem dX5_init_70 : decode cX5_init 70 = .ok (.return_, 1) := by decide +kernel
theorem dX5_isPeriodicAt_0 : decode cX5_isPeriodicAt 0 = .ok (.aload_n 0, 1) := by decide +kernel
theorem dX5_isPeriodicAt_1 : decode cX5_isPeriodicAt 1 = .ok (.getfield 39, 3) := by decide +kernel
theorem dX5_isPeriodicAt_4 : decode cX5_isPeriodicAt 4 = .ok (.ifCond .le 29, 3) := by decide +kernel
theorem dX5_isPeriodicAt_7 : decode cX5_isPeriodicAt 7 = .ok (.iload_n 1, 1) := by decide +kernel
theorem dX5_isPeriodicAt_8 : decode cX5_isPeriodicAt 8 = .ok (.aload_n 0, 1) := by decide +kernel
theorem dX5_isPeriodicAt_9 : decode cX5_isPeriodicAt 9 = .ok (.getfield 42, 3) := by decide +kernel
theorem dX5_isPeriodicAt_12 : decode cX5_isPeriodicAt 12 = .ok (.if_icmp .lt 21, 3) := by decide +kernel
theorem dX5_isPeriodicAt_15 : decode cX5_isPeriodicAt 15 = .ok (.iload_n 1, 1) := by decide +kernel
theorem dX5_isPeriodicAt_16 : decode cX5_isPeriodicAt 16 = .ok (.aload_n 0, 1) := by decide +kernel
theorem dX5_isPeriodicAt_17 : decode cX5_isPeriodicAt 17 = .ok (.getfield 42, 3) := by decide +kernel
theorem dX5_isPeriodicAt_20 : decode cX5_isPeriodicAt 20 = .ok (.isub, 1) := by decide +kernel
theorem dX5_isPeriodicAt_21 : decode cX5_isPeriodicAt 21 = .ok (.aload_n 0, 1) := by decide +kernel
theorem dX5_isPeriodicAt_22 : decode cX5_isPeriodicAt 22 = .ok (.getfield 39, 3) := by decide +kernel
theorem dX5_isPeriodicAt_25 : decode cX5_isPeriodicAt 25 = .ok (.irem, 1) := by decide +kernel
theorem dX5_isPeriodicAt_26 : decode cX5_isPeriodicAt 26 = .ok (.ifCond .ne 7, 3) := by decide +kernel
theorem dX5_isPeriodicAt_29 : decode cX5_isPeriodicAt 29 = .ok (.iconst 1, 1) := by decide +kernel
theorem dX5_isPeriodicAt_30 : decode cX5_isPeriodicAt 30 = .ok (.goto 4, 3) := by decide +kernel
theorem dX5_isPeriodicAt_33 : decode cX5_isPeriodicAt 33 = .ok (.iconst 0, 1) := by decide +kernel
theorem dX5_isPeriodicAt_34 : decode cX5_isPeriodicAt 34 = .ok (.ireturn, 1) := by decide +kernel
theorem dX5_isAtWork_0 : decode cX5_isAtWork 0 = .ok (.aload_n 0, 1) := by decide +kernel
theorem dX5_isAtWork_1 : decode cX5_isAtWork 1 = .ok (.getfield 21, 3) := by decide +kernel
theorem dX5_isAtWork_4 : decode cX5_isAtWork 4 = .ok (.getfield 51, 3) := by decide +kernel
theorem dX5_isAtWork_7 : decode cX5_isAtWork 7 = .ok (.aload_n 0, 1) := by decide +kernel
theorem dX5_isAtWork_8 : decode cX5_isAtWork 8 = .ok (.getfield 12, 3) := by decide +kernel
theorem dX5_isAtWork_11 : decode cX5_isAtWork 11 = .ok (.getfield 54, 3) := by decide +kernel
theorem dX5_isAtWork_14 : decode cX5_isAtWork 14 = .ok (.if_icmp .ge 25, 3) := by decide +kernel
theorem dX5_isAtWork_17 : decode cX5_isAtWork 17 = .ok (.aload_n 0, 1) := by decide +kernel
theorem dX5_isAtWork_18 : decode cX5_isAtWork 18 = .ok (.getfield 12, 3) := by decide +kernel
theorem dX5_isAtWork_21 : decode cX5_isAtWork 21 = .ok (.getfield 57, 3) := by decide +kernel
theorem dX5_isAtWork_24 : decode cX5_isAtWork 24 = .ok (.aload_n 0, 1) := by decide +kernel
theorem dX5_isAtWork_25 : decode cX5_isAtWork 25 = .ok (.getfield 21, 3) := by decide +kernel
theorem dX5_isAtWork_28 : decode cX5_isAtWork 28 = .ok (.getfield 51, 3) := by decide +kernel
theorem dX5_isAtWork_31 : decode cX5_isAtWork 31 = .ok (.iaload, 1) := by decide +kernel
theorem dX5_isAtWork_32 : decode cX5_isAtWork 32 = .ok (.ifCond .ne 7, 3) := by decide +kernel
theorem dX5_isAtWork_35 : decode cX5_isAtWork 35 = .ok (.iconst 1, 1) := by decide +kernel
theorem dX5_isAtWork_36 : decode cX5_isAtWork 36 = .ok (.goto 4, 3) := by decide +kernel
theorem dX5_isAtWork_39 : decode cX5_isAtWork 39 = .ok (.iconst 0, 1) := by decide +kernel
theorem dX5_isAtWork_40 : decode cX5_isAtWork 40 = .ok (.ireturn, 1) := by decide +kernel
theorem dL_cell_0 : decode cL_cell 0 = .ok (.iload_n 1, 1) := by decide +kernel
theorem dL_cell_1 : decode cL_cell 1 = .ok (.aload_n 0, 1) := by decide +kernel
theorem dL_cell_2 : decode cL_cell 2 = .ok (.arraylength, 1) := by decide +kernel
theorem dL_cell_3 : decode cL_cell 3 = .ok (.if_icmp .ge 9, 3) := by decide +kernel
theorem dL_cell_6 : decode cL_cell 6 = .ok (.aload_n 0, 1) := by decide +kernel
theorem dL_cell_7 : decode cL_cell 7 = .ok (.iload_n 1, 1) := by decide +kernel
theorem dL_cell_8 : decode cL_cell 8 = .ok (.iaload, 1) := by decide +kernel
theorem dL_cell_9 : decode cL_cell 9 = .ok (.goto 4, 3) := by decide +kernel
theorem dL_cell_12 : decode cL_cell 12 = .ok (.iconst 0, 1) := by decide +kernel
theorem dL_cell_13 : decode cL_cell 13 = .ok (.ireturn, 1) := by decide +kernel
theorem dL_task_0 : decode cL_task 0 = .ok (.aload 6, 2) := by decide +kernel
theorem dL_task_2 : decode cL_task 2 = .ok (.iconst 0, 1) := by decide +kernel
theorem dL_task_3 : decode cL_task 3 = .ok (.aload_n 0, 1) := by decide +kernel
theorem dL_task_4 : decode cL_task 4 = .ok (.iload_n 1, 1) := by decide +kernel
theorem dL_task_5 : decode cL_task 5 = .ok (.iload_n 2, 1) := by decide +kernel
theorem dL_task_6 : decode cL_task 6 = .ok (.iload_n 3, 1) := by decide +kernel
theorem dL_task_7 : decode cL_task 7 = .ok (.iload 4, 2) := by decide +kernel
theorem dL_task_9 : decode cL_task 9 = .ok (.iload 5, 2) := by decide +kernel
theorem dL_task_11 : decode cL_task 11 = .ok (.invokevirtual 7, 3) := by decide +kernel
theorem dL_task_14 : decode cL_task 14 = .ok (.i2l, 1) := by decide +kernel
theorem dL_task_15 : decode cL_task 15 = .ok (.lastore, 1) := by decide +kernel
theorem dL_task_16 : decode cL_task 16 = .ok (.goto 11, 3) := by decide +kernel
theorem dL_task_19 : decode cL_task 19 = .ok (.astore 7, 2) := by decide +kernel
theorem dL_task_21 : decode cL_task 21 = .ok (.iconst 1, 1) := by decide +kernel
theorem dL_task_22 : decode cL_task 22 = .ok (.ireturn, 1) := by decide +kernel
theorem dL_task_23 : decode cL_task 23 = .ok (.astore 7, 2) := by decide +kernel
theorem dL_task_25 : decode cL_task 25 = .ok (.iconst 2, 1) := by decide +kernel
theorem dL_task_26 : decode cL_task 26 = .ok (.ireturn, 1) := by decide +kernel
theorem dL_task_27 : decode cL_task 27 = .ok (.iconst 0, 1) := by decide +kernel
theorem dL_task_28 : decode cL_task 28 = .ok (.ireturn, 1) := by decide +kernel
theorem dL_mutex_0 : decode cL_mutex 0 = .ok (.aload_n 3, 1) := by decide +kernel
theorem dL_mutex_1 : decode cL_mutex 1 = .ok (.iconst 0, 1) := by decide +kernel
theorem dL_mutex_2 : decode cL_mutex 2 = .ok (.aload_n 0, 1) := by decide +kernel
theorem dL_mutex_3 : decode cL_mutex 3 = .ok (.iload_n 1, 1) := by decide +kernel
theorem dL_mutex_4 : decode cL_mutex 4 = .ok (.iload_n 2, 1) := by decide +kernel
theorem dL_mutex_5 : decode cL_mutex 5 = .ok (.invokevirtual 17, 3) := by decide +kernel
theorem dL_mutex_8 : decode cL_mutex 8 = .ok (.i2l, 1) := by decide +kernel
theorem dL_mutex_9 : decode cL_mutex 9 = .ok (.lastore, 1) := by decide +kernel
theorem dL_mutex_10 : decode cL_mutex 10 = .ok (.goto 11, 3) := by decide +kernel
theorem dL_mutex_13 : decode cL_mutex 13 = .ok (.astore 4, 2) := by decide +kernel
theorem dL_mutex_15 : decode cL_mutex 15 = .ok (.iconst 1, 1) := by decide +kernel
theorem dL_mutex_16 : decode cL_mutex 16 = .ok (.ireturn, 1) := by decide +kernel
theorem dL_mutex_17 : decode cL_mutex 17 = .ok (.astore 4, 2) := by decide +kernel
theorem dL_mutex_19 : decode cL_mutex 19 = .ok (.iconst 2, 1) := by decide +kernel
theorem dL_mutex_20 : decode cL_mutex 20 = .ok (.ireturn, 1) := by decide +kernel
theorem dL_mutex_21 : decode cL_mutex 21 = .ok (.iconst 0, 1) := by decide +kernel
theorem dL_mutex_22 : decode cL_mutex 22 = .ok (.ireturn, 1) := by decide +kernel
theorem dL_step_0 : decode cL_step 0 = .ok (.aload 4, 2) := by decide +kernel
theorem dL_step_2 : decode cL_step 2 = .ok (.iconst 0, 1) := by decide +kernel
theorem dL_step_3 : decode cL_step 3 = .ok (.aload_n 0, 1) := by decide +kernel
theorem dL_step_4 : decode cL_step 4 = .ok (.iload_n 1, 1) := by decide +kernel
theorem dL_step_5 : decode cL_step 5 = .ok (.iload_n 2, 1) := by decide +kernel
theorem dL_step_6 : decode cL_step 6 = .ok (.iload_n 3, 1) := by decide +kernel
theorem dL_step_7 : decode cL_step 7 = .ok (.invokevirtual 21, 3) := by decide +kernel
theorem dL_step_10 : decode cL_step 10 = .ok (.i2l, 1) := by decide +kernel
theorem dL_step_11 : decode cL_step 11 = .ok (.lastore, 1) := by decide +kernel
theorem dL_step_12 : decode cL_step 12 = .ok (.goto 11, 3) := by decide +kernel
theorem dL_step_15 : decode cL_step 15 = .ok (.astore 5, 2) := by decide +kernel
theorem dL_step_17 : decode cL_step 17 = .ok (.iconst 1, 1) := by decide +kernel
theorem dL_step_18 : decode cL_step 18 = .ok (.ireturn, 1) := by decide +kernel
theorem dL_step_19 : decode cL_step 19 = .ok (.astore 5, 2) := by decide +kernel
theorem dL_step_21 : decode cL_step 21 = .ok (.iconst 2, 1) := by decide +kernel
theorem dL_step_22 : decode cL_step 22 = .ok (.ireturn, 1) := by decide +kernel
theorem dL_step_23 : decode cL_step 23 = .ok (.iconst 0, 1) := by decide +kernel
theorem dL_step_24 : decode cL_step 24 = .ok (.ireturn, 1) := by decide +kernel
theorem dL_start_0 : decode cL_start 0 = .ok (.aload_n 0, 1) := by decide +kernel
theorem dL_start_1 : decode cL_start 1 = .ok (.invokevirtual 25, 3) := by decide +kernel
theorem dL_start_4 : decode cL_start 4 = .ok (.goto 6, 3) := by decide +kernel
theorem dL_start_7 : decode cL_start 7 = .ok (.astore_n 1, 1) := by decide +kernel
theorem dL_start_8 : decode cL_start 8 = .ok (.iconst 1, 1) := by decide +kernel
theorem dL_start_9 : decode cL_start 9 = .ok (.ireturn, 1) := by decide +kernel
theorem dL_start_10 : decode cL_start 10 = .ok (.iconst 0, 1) := by decide +kernel
theorem dL_start_11 : decode cL_start 11 = .ok (.ireturn, 1) := by decide +kernel
theorem dL_tick_0 : decode cL_tick 0 = .ok (.aload_n 2, 1) := by decide +kernel
theorem dL_tick_1 : decode cL_tick 1 = .ok (.iconst 0, 1) := by decide +kernel
theorem dL_tick_2 : decode cL_tick 2 = .ok (.aload_n 0, 1) := by decide +kernel
theorem dL_tick_3 : decode cL_tick 3 = .ok (.iload_n 1, 1) := by decide +kernel
theorem dL_tick_4 : decode cL_tick 4 = .ok (.invokevirtual 28, 3) := by decide +kernel
theorem dL_tick_7 : decode cL_tick 7 = .ok (.i2l, 1) := by decide +kernel
theorem dL_tick_8 : decode cL_tick 8 = .ok (.lastore, 1) := by decide +kernel
theorem dL_tick_9 : decode cL_tick 9 = .ok (.goto 9, 3) := by decide +kernel
theorem dL_tick_12 : decode cL_tick 12 = .ok (.astore_n 3, 1) := by decide +kernel
theorem dL_tick_13 : decode cL_tick 13 = .ok (.iconst 1, 1) := by decide +kernel
theorem dL_tick_14 : decode cL_tick 14 = .ok (.ireturn, 1) := by decide +kernel
theorem dL_tick_15 : decode cL_tick 15 = .ok (.astore_n 3, 1) := by decide +kernel
theorem dL_tick_16 : decode cL_tick 16 = .ok (.iconst 2, 1) := by decide +kernel
theorem dL_tick_17 : decode cL_tick 17 = .ok (.ireturn, 1) := by decide +kernel
theorem dL_tick_18 : decode cL_tick 18 = .ok (.iconst 0, 1) := by decide +kernel
theorem dL_tick_19 : decode cL_tick 19 = .ok (.ireturn, 1) := by decide +kernel
theorem dL_response_0 : decode cL_response 0 = .ok (.aload_n 2, 1) := by decide +kernel
theorem dL_response_1 : decode cL_response 1 = .ok (.iconst 0, 1) := by decide +kernel
theorem dL_response_2 : decode cL_response 2 = .ok (.aload_n 0, 1) := by decide +kernel
theorem dL_response_3 : decode cL_response 3 = .ok (.iload_n 1, 1) := by decide +kernel
theorem dL_response_4 : decode cL_response 4 = .ok (.invokevirtual 32, 3) := by decide +kernel
theorem dL_response_7 : decode cL_response 7 = .ok (.i2l, 1) := by decide +kernel
theorem dL_response_8 : decode cL_response 8 = .ok (.lastore, 1) := by decide +kernel
theorem dL_response_9 : decode cL_response 9 = .ok (.goto 6, 3) := by decide +kernel
theorem dL_response_12 : decode cL_response 12 = .ok (.astore_n 3, 1) := by decide +kernel
theorem dL_response_13 : decode cL_response 13 = .ok (.iconst 1, 1) := by decide +kernel
theorem dL_response_14 : decode cL_response 14 = .ok (.ireturn, 1) := by decide +kernel
theorem dL_response_15 : decode cL_response 15 = .ok (.iconst 0, 1) := by decide +kernel
theorem dL_response_16 : decode cL_response 16 = .ok (.ireturn, 1) := by decide +kernel
