/-! THE METHODS, their fields and calls by the constant pool numbers -/
theorem wr_1 : ∀ w ∈ wsL_law0_r1, w ∈ wsL_law := fun _ h => (List.mem_append_left _ (List.mem_append_left _ (List.mem_append_left _ (List.mem_append_left _ (List.mem_append_left _ (List.mem_append_left _ (List.mem_append_left _ (List.mem_append_left _ (List.mem_append_left _ (List.mem_append_left _ (List.mem_append_left _ (List.mem_append_left _ h))))))))))))
theorem wr_2 : ∀ w ∈ wsL_law0_r2, w ∈ wsL_law := fun _ h => (List.mem_append_left _ (List.mem_append_left _ (List.mem_append_left _ (List.mem_append_left _ (List.mem_append_left _ (List.mem_append_left _ (List.mem_append_left _ (List.mem_append_left _ (List.mem_append_left _ (List.mem_append_left _ (List.mem_append_left _ (List.mem_append_right _ (List.mem_append_left _ h)))))))))))))
theorem wr_3 : ∀ w ∈ wsL_law0_r3, w ∈ wsL_law := fun _ h => (List.mem_append_left _ (List.mem_append_left _ (List.mem_append_left _ (List.mem_append_left _ (List.mem_append_left _ (List.mem_append_left _ (List.mem_append_left _ (List.mem_append_left _ (List.mem_append_left _ (List.mem_append_left _ (List.mem_append_left _ (List.mem_append_right _ (List.mem_append_right _ (List.mem_append_left _ h))))))))))))))
theorem wr_4 : ∀ w ∈ wsL_law0_r4, w ∈ wsL_law := fun _ h => (List.mem_append_left _ (List.mem_append_left _ (List.mem_append_left _ (List.mem_append_left _ (List.mem_append_left _ (List.mem_append_left _ (List.mem_append_left _ (List.mem_append_left _ (List.mem_append_left _ (List.mem_append_left _ (List.mem_append_left _ (List.mem_append_right _ (List.mem_append_right _ (List.mem_append_right _ (List.mem_append_left _ h)))))))))))))))
theorem wr_5 : ∀ w ∈ wsL_law0_r5, w ∈ wsL_law := fun _ h => (List.mem_append_left _ (List.mem_append_left _ (List.mem_append_left _ (List.mem_append_left _ (List.mem_append_left _ (List.mem_append_left _ (List.mem_append_left _ (List.mem_append_left _ (List.mem_append_left _ (List.mem_append_left _ (List.mem_append_left _ (List.mem_append_right _ (List.mem_append_right _ (List.mem_append_right _ (List.mem_append_right _ (List.mem_append_left _ h))))))))))))))))
theorem wr_6 : ∀ w ∈ wsL_law0_r6, w ∈ wsL_law := fun _ h => (List.mem_append_left _ (List.mem_append_left _ (List.mem_append_left _ (List.mem_append_left _ (List.mem_append_left _ (List.mem_append_left _ (List.mem_append_left _ (List.mem_append_left _ (List.mem_append_left _ (List.mem_append_left _ (List.mem_append_left _ (List.mem_append_right _ (List.mem_append_right _ (List.mem_append_right _ (List.mem_append_right _ (List.mem_append_right _ (List.mem_append_left _ h)))))))))))))))))
theorem wr_7 : ∀ w ∈ wsL_law0_r7, w ∈ wsL_law := fun _ h => (List.mem_append_left _ (List.mem_append_left _ (List.mem_append_left _ (List.mem_append_left _ (List.mem_append_left _ (List.mem_append_left _ (List.mem_append_left _ (List.mem_append_left _ (List.mem_append_left _ (List.mem_append_left _ (List.mem_append_left _ (List.mem_append_right _ (List.mem_append_right _ (List.mem_append_right _ (List.mem_append_right _ (List.mem_append_right _ (List.mem_append_right _ (List.mem_append_left _ h))))))))))))))))))
theorem wr_8 : ∀ w ∈ wsL_law0_r8, w ∈ wsL_law := fun _ h => (List.mem_append_left _ (List.mem_append_left _ (List.mem_append_left _ (List.mem_append_left _ (List.mem_append_left _ (List.mem_append_left _ (List.mem_append_left _ (List.mem_append_left _ (List.mem_append_left _ (List.mem_append_left _ (List.mem_append_left _ (List.mem_append_right _ (List.mem_append_right _ (List.mem_append_right _ (List.mem_append_right _ (List.mem_append_right _ (List.mem_append_right _ (List.mem_append_right _ (List.mem_append_left _ h)))))))))))))))))))
theorem wr_9 : ∀ w ∈ wsL_law0_r9, w ∈ wsL_law := fun _ h => (List.mem_append_left _ (List.mem_append_left _ (List.mem_append_left _ (List.mem_append_left _ (List.mem_append_left _ (List.mem_append_left _ (List.mem_append_left _ (List.mem_append_left _ (List.mem_append_left _ (List.mem_append_left _ (List.mem_append_left _ (List.mem_append_right _ (List.mem_append_right _ (List.mem_append_right _ (List.mem_append_right _ (List.mem_append_right _ (List.mem_append_right _ (List.mem_append_right _ (List.mem_append_right _ (List.mem_append_left _ h))))))))))))))))))))
theorem wr_10 : ∀ w ∈ wsL_law0_r10, w ∈ wsL_law := fun _ h => (List.mem_append_left _ (List.mem_append_left _ (List.mem_append_left _ (List.mem_append_left _ (List.mem_append_left _ (List.mem_append_left _ (List.mem_append_left _ (List.mem_append_left _ (List.mem_append_left _ (List.mem_append_left _ (List.mem_append_left _ (List.mem_append_right _ (List.mem_append_right _ (List.mem_append_right _ (List.mem_append_right _ (List.mem_append_right _ (List.mem_append_right _ (List.mem_append_right _ (List.mem_append_right _ (List.mem_append_right _ (List.mem_append_left _ h)))))))))))))))))))))
theorem wr_11 : ∀ w ∈ wsL_law0_r11, w ∈ wsL_law := fun _ h => (List.mem_append_left _ (List.mem_append_left _ (List.mem_append_left _ (List.mem_append_left _ (List.mem_append_left _ (List.mem_append_left _ (List.mem_append_left _ (List.mem_append_left _ (List.mem_append_left _ (List.mem_append_left _ (List.mem_append_left _ (List.mem_append_right _ (List.mem_append_right _ (List.mem_append_right _ (List.mem_append_right _ (List.mem_append_right _ (List.mem_append_right _ (List.mem_append_right _ (List.mem_append_right _ (List.mem_append_right _ (List.mem_append_right _ (List.mem_append_left _ h))))))))))))))))))))))
theorem wr_12 : ∀ w ∈ wsL_law0_r12, w ∈ wsL_law := fun _ h => (List.mem_append_left _ (List.mem_append_left _ (List.mem_append_left _ (List.mem_append_left _ (List.mem_append_left _ (List.mem_append_left _ (List.mem_append_left _ (List.mem_append_left _ (List.mem_append_left _ (List.mem_append_left _ (List.mem_append_left _ (List.mem_append_right _ (List.mem_append_right _ (List.mem_append_right _ (List.mem_append_right _ (List.mem_append_right _ (List.mem_append_right _ (List.mem_append_right _ (List.mem_append_right _ (List.mem_append_right _ (List.mem_append_right _ (List.mem_append_right _ (List.mem_append_left _ h)))))))))))))))))))))))
theorem wr_13 : ∀ w ∈ wsL_law0_r13, w ∈ wsL_law := fun _ h => (List.mem_append_left _ (List.mem_append_left _ (List.mem_append_left _ (List.mem_append_left _ (List.mem_append_left _ (List.mem_append_left _ (List.mem_append_left _ (List.mem_append_left _ (List.mem_append_left _ (List.mem_append_left _ (List.mem_append_left _ (List.mem_append_right _ (List.mem_append_right _ (List.mem_append_right _ (List.mem_append_right _ (List.mem_append_right _ (List.mem_append_right _ (List.mem_append_right _ (List.mem_append_right _ (List.mem_append_right _ (List.mem_append_right _ (List.mem_append_right _ (List.mem_append_right _ (List.mem_append_left _ h))))))))))))))))))))))))
theorem wr_14 : ∀ w ∈ wsL_law0_r14, w ∈ wsL_law := fun _ h => (List.mem_append_left _ (List.mem_append_left _ (List.mem_append_left _ (List.mem_append_left _ (List.mem_append_left _ (List.mem_append_left _ (List.mem_append_left _ (List.mem_append_left _ (List.mem_append_left _ (List.mem_append_left _ (List.mem_append_left _ (List.mem_append_right _ (List.mem_append_right _ (List.mem_append_right _ (List.mem_append_right _ (List.mem_append_right _ (List.mem_append_right _ (List.mem_append_right _ (List.mem_append_right _ (List.mem_append_right _ (List.mem_append_right _ (List.mem_append_right _ (List.mem_append_right _ (List.mem_append_right _ (List.mem_append_left _ h)))))))))))))))))))))))))
theorem wr_15 : ∀ w ∈ wsL_law0_r15, w ∈ wsL_law := fun _ h => (List.mem_append_left _ (List.mem_append_left _ (List.mem_append_left _ (List.mem_append_left _ (List.mem_append_left _ (List.mem_append_left _ (List.mem_append_left _ (List.mem_append_left _ (List.mem_append_left _ (List.mem_append_left _ (List.mem_append_left _ (List.mem_append_right _ (List.mem_append_right _ (List.mem_append_right _ (List.mem_append_right _ (List.mem_append_right _ (List.mem_append_right _ (List.mem_append_right _ (List.mem_append_right _ (List.mem_append_right _ (List.mem_append_right _ (List.mem_append_right _ (List.mem_append_right _ (List.mem_append_right _ (List.mem_append_right _ (List.mem_append_left _ h))))))))))))))))))))))))))
theorem wr_16 : ∀ w ∈ wsL_law0_r16, w ∈ wsL_law := fun _ h => (List.mem_append_left _ (List.mem_append_left _ (List.mem_append_left _ (List.mem_append_left _ (List.mem_append_left _ (List.mem_append_left _ (List.mem_append_left _ (List.mem_append_left _ (List.mem_append_left _ (List.mem_append_left _ (List.mem_append_left _ (List.mem_append_right _ (List.mem_append_right _ (List.mem_append_right _ (List.mem_append_right _ (List.mem_append_right _ (List.mem_append_right _ (List.mem_append_right _ (List.mem_append_right _ (List.mem_append_right _ (List.mem_append_right _ (List.mem_append_right _ (List.mem_append_right _ (List.mem_append_right _ (List.mem_append_right _ (List.mem_append_right _ (List.mem_append_left _ h)))))))))))))))))))))))))))
theorem wr_17 : ∀ w ∈ wsL_law0_r17, w ∈ wsL_law := fun _ h => (List.mem_append_left _ (List.mem_append_left _ (List.mem_append_left _ (List.mem_append_left _ (List.mem_append_left _ (List.mem_append_left _ (List.mem_append_left _ (List.mem_append_left _ (List.mem_append_left _ (List.mem_append_left _ (List.mem_append_left _ (List.mem_append_right _ (List.mem_append_right _ (List.mem_append_right _ (List.mem_append_right _ (List.mem_append_right _ (List.mem_append_right _ (List.mem_append_right _ (List.mem_append_right _ (List.mem_append_right _ (List.mem_append_right _ (List.mem_append_right _ (List.mem_append_right _ (List.mem_append_right _ (List.mem_append_right _ (List.mem_append_right _ (List.mem_append_right _ (List.mem_append_left _ h))))))))))))))))))))))))))))
theorem wr_18 : ∀ w ∈ wsL_law0_r18, w ∈ wsL_law := fun _ h => (List.mem_append_left _ (List.mem_append_left _ (List.mem_append_left _ (List.mem_append_left _ (List.mem_append_left _ (List.mem_append_left _ (List.mem_append_left _ (List.mem_append_left _ (List.mem_append_left _ (List.mem_append_left _ (List.mem_append_left _ (List.mem_append_right _ (List.mem_append_right _ (List.mem_append_right _ (List.mem_append_right _ (List.mem_append_right _ (List.mem_append_right _ (List.mem_append_right _ (List.mem_append_right _ (List.mem_append_right _ (List.mem_append_right _ (List.mem_append_right _ (List.mem_append_right _ (List.mem_append_right _ (List.mem_append_right _ (List.mem_append_right _ (List.mem_append_right _ (List.mem_append_right _ (List.mem_append_left _ h)))))))))))))))))))))))))))))
theorem wr_19 : ∀ w ∈ wsL_law0_r19, w ∈ wsL_law := fun _ h => (List.mem_append_left _ (List.mem_append_left _ (List.mem_append_left _ (List.mem_append_left _ (List.mem_append_left _ (List.mem_append_left _ (List.mem_append_left _ (List.mem_append_left _ (List.mem_append_left _ (List.mem_append_left _ (List.mem_append_left _ (List.mem_append_right _ (List.mem_append_right _ (List.mem_append_right _ (List.mem_append_right _ (List.mem_append_right _ (List.mem_append_right _ (List.mem_append_right _ (List.mem_append_right _ (List.mem_append_right _ (List.mem_append_right _ (List.mem_append_right _ (List.mem_append_right _ (List.mem_append_right _ (List.mem_append_right _ (List.mem_append_right _ (List.mem_append_right _ (List.mem_append_right _ (List.mem_append_right _ (List.mem_append_left _ h))))))))))))))))))))))))))))))
theorem wr_20 : ∀ w ∈ wsL_law0_r20, w ∈ wsL_law := fun _ h => (List.mem_append_left _ (List.mem_append_left _ (List.mem_append_left _ (List.mem_append_left _ (List.mem_append_left _ (List.mem_append_left _ (List.mem_append_left _ (List.mem_append_left _ (List.mem_append_left _ (List.mem_append_left _ (List.mem_append_left _ (List.mem_append_right _ (List.mem_append_right _ (List.mem_append_right _ (List.mem_append_right _ (List.mem_append_right _ (List.mem_append_right _ (List.mem_append_right _ (List.mem_append_right _ (List.mem_append_right _ (List.mem_append_right _ (List.mem_append_right _ (List.mem_append_right _ (List.mem_append_right _ (List.mem_append_right _ (List.mem_append_right _ (List.mem_append_right _ (List.mem_append_right _ (List.mem_append_right _ (List.mem_append_right _ (List.mem_append_left _ h)))))))))))))))))))))))))))))))
theorem wr_21 : ∀ w ∈ wsL_law0_r21, w ∈ wsL_law := fun _ h => (List.mem_append_left _ (List.mem_append_left _ (List.mem_append_left _ (List.mem_append_left _ (List.mem_append_left _ (List.mem_append_left _ (List.mem_append_left _ (List.mem_append_left _ (List.mem_append_left _ (List.mem_append_left _ (List.mem_append_left _ (List.mem_append_right _ (List.mem_append_right _ (List.mem_append_right _ (List.mem_append_right _ (List.mem_append_right _ (List.mem_append_right _ (List.mem_append_right _ (List.mem_append_right _ (List.mem_append_right _ (List.mem_append_right _ (List.mem_append_right _ (List.mem_append_right _ (List.mem_append_right _ (List.mem_append_right _ (List.mem_append_right _ (List.mem_append_right _ (List.mem_append_right _ (List.mem_append_right _ (List.mem_append_right _ (List.mem_append_right _ (List.mem_append_left _ h))))))))))))))))))))))))))))))))
theorem wr_22 : ∀ w ∈ wsL_law0_r22, w ∈ wsL_law := fun _ h => (List.mem_append_left _ (List.mem_append_left _ (List.mem_append_left _ (List.mem_append_left _ (List.mem_append_left _ (List.mem_append_left _ (List.mem_append_left _ (List.mem_append_left _ (List.mem_append_left _ (List.mem_append_left _ (List.mem_append_left _ (List.mem_append_right _ (List.mem_append_right _ (List.mem_append_right _ (List.mem_append_right _ (List.mem_append_right _ (List.mem_append_right _ (List.mem_append_right _ (List.mem_append_right _ (List.mem_append_right _ (List.mem_append_right _ (List.mem_append_right _ (List.mem_append_right _ (List.mem_append_right _ (List.mem_append_right _ (List.mem_append_right _ (List.mem_append_right _ (List.mem_append_right _ (List.mem_append_right _ (List.mem_append_right _ (List.mem_append_right _ (List.mem_append_right _ (List.mem_append_left _ h)))))))))))))))))))))))))))))))))
theorem wr_23 : ∀ w ∈ wsL_law0_r23, w ∈ wsL_law := fun _ h => (List.mem_append_left _ (List.mem_append_left _ (List.mem_append_left _ (List.mem_append_left _ (List.mem_append_left _ (List.mem_append_left _ (List.mem_append_left _ (List.mem_append_left _ (List.mem_append_left _ (List.mem_append_left _ (List.mem_append_left _ (List.mem_append_right _ (List.mem_append_right _ (List.mem_append_right _ (List.mem_append_right _ (List.mem_append_right _ (List.mem_append_right _ (List.mem_append_right _ (List.mem_append_right _ (List.mem_append_right _ (List.mem_append_right _ (List.mem_append_right _ (List.mem_append_right _ (List.mem_append_right _ (List.mem_append_right _ (List.mem_append_right _ (List.mem_append_right _ (List.mem_append_right _ (List.mem_append_right _ (List.mem_append_right _ (List.mem_append_right _ (List.mem_append_right _ (List.mem_append_right _ (List.mem_append_left _ h))))))))))))))))))))))))))))))))))
theorem wr_24 : ∀ w ∈ wsL_law0_r24, w ∈ wsL_law := fun _ h => (List.mem_append_left _ (List.mem_append_left _ (List.mem_append_left _ (List.mem_append_left _ (List.mem_append_left _ (List.mem_append_left _ (List.mem_append_left _ (List.mem_append_left _ (List.mem_append_left _ (List.mem_append_left _ (List.mem_append_left _ (List.mem_append_right _ (List.mem_append_right _ (List.mem_append_right _ (List.mem_append_right _ (List.mem_append_right _ (List.mem_append_right _ (List.mem_append_right _ (List.mem_append_right _ (List.mem_append_right _ (List.mem_append_right _ (List.mem_append_right _ (List.mem_append_right _ (List.mem_append_right _ (List.mem_append_right _ (List.mem_append_right _ (List.mem_append_right _ (List.mem_append_right _ (List.mem_append_right _ (List.mem_append_right _ (List.mem_append_right _ (List.mem_append_right _ (List.mem_append_right _ (List.mem_append_right _ h))))))))))))))))))))))))))))))))))
abbrev M_X0_init : MT := (yX0_init, cX0_init, 0, 1, none, [], 1, true, 1, 20)
abbrev M_X0_append : MT := (yX0_append, cX0_append, 0, 3, none, [], 3, true, 0, 0)
abbrev M_X0_cost : MT := (yX0_cost, cX0_cost, 0, 3, (some .int), [], 1, true, 0, 0)
abbrev M_X0_hasLockOf : MT := (yX0_hasLockOf, cX0_hasLockOf, 0, 3, (some .boolean), [], 2, true, 0, 0)
abbrev M_X0_greatestSection : MT := (yX0_greatestSection, cX0_greatestSection, 0, 4, (some .int), [], 2, true, 1, 24)
abbrev M_X0_sectionFrom : MT := (yX0_sectionFrom, cX0_sectionFrom, 0, 5, (some .int), [], 3, true, 0, 0)
abbrev M_X1_init : MT := (yX1_init, cX1_init, 1, 1, none, [], 1, true, 1, 20)
abbrev M_X1_begin : MT := (yX1_begin, cX1_begin, 1, 4, none, [], 4, true, 0, 0)
abbrev M_X1_passStep : MT := (yX1_passStep, cX1_passStep, 1, 1, none, [], 1, true, 0, 0)
abbrev M_X1_blockAt : MT := (yX1_blockAt, cX1_blockAt, 1, 3, none, [], 3, true, 0, 0)
abbrev M_X1_resume : MT := (yX1_resume, cX1_resume, 1, 2, none, [], 2, true, 1, 20)
abbrev M_X1_end : MT := (yX1_end, cX1_end, 1, 1, none, [], 1, true, 0, 0)
abbrev M_X1_inheritsAhead : MT := (yX1_inheritsAhead, cX1_inheritsAhead, 1, 2, (some .boolean), [], 2, true, 0, 0)
abbrev M_X2_init : MT := (yX2_init, cX2_init, 2, 1, none, [], 1, true, 1, 20)
abbrev M_X2_add : MT := (yX2_add, cX2_add, 2, 4, none, [], 4, true, 0, 0)
abbrev M_X2_answer : MT := (yX2_answer, cX2_answer, 2, 4, (some .int), [], 3, true, 1, 21)
abbrev M_X3_init : MT := (yX3_init, cX3_init, 3, 4, none, [], 4, true, 1, 20)
abbrev M_X4_init : MT := (yX4_init, cX4_init, 4, 1, none, [], 1, true, 1, 20)
abbrev M_X4_addDone : MT := (yX4_addDone, cX4_addDone, 4, 2, none, [], 2, true, 1, 21)
abbrev M_X5_init : MT := (yX5_init, cX5_init, 5, 7, none, [], 7, true, 2, 40)
abbrev M_X5_isPeriodicAt : MT := (yX5_isPeriodicAt, cX5_isPeriodicAt, 5, 2, (some .boolean), [], 2, true, 0, 0)
abbrev M_X5_isAtWork : MT := (yX5_isAtWork, cX5_isAtWork, 5, 1, (some .boolean), [], 1, true, 0, 0)
abbrev M_X6_init : MT := (yX6_init, cX6_init, 6, 2, none, [], 2, true, 2, 40)
abbrev M_X6_task : MT := (yX6_task, cX6_task, 6, 8, (some .int), [], 6, true, 6, 90)
abbrev M_X6_strict : MT := (yX6_strict, cX6_strict, 6, 3, (some .boolean), [], 3, true, 2, 43)
abbrev M_X6_mutex : MT := (yX6_mutex, cX6_mutex, 6, 5, (some .int), [], 3, true, 6, 90)
abbrev M_X6_step : MT := (yX6_step, cX6_step, 6, 5, (some .int), [], 4, true, 6, 90)
abbrev M_X6_start : MT := (yX6_start, cX6_start, 6, 1, none, [], 1, true, 6, 90)
abbrev M_X6_isTask : MT := (yX6_isTask, cX6_isTask, 6, 2, (some .boolean), [], 2, true, 1, 22)
abbrev M_X6_isMutex : MT := (yX6_isMutex, cX6_isMutex, 6, 2, (some .boolean), [], 2, true, 1, 22)
abbrev M_X6_isStep : MT := (yX6_isStep, cX6_isStep, 6, 3, (some .boolean), [], 3, true, 2, 43)
abbrev M_X6_within : MT := (yX6_within, cX6_within, 6, 3, (some .boolean), [], 3, false, 0, 0)
abbrev M_X6_release : MT := (yX6_release, cX6_release, 6, 2, (some .boolean), [], 2, true, 3, 66)
abbrev M_X6_tick : MT := (yX6_tick, cX6_tick, 6, 5, (some .int), [], 2, true, 6, 140)
abbrev M_X6_noteMisses : MT := (yX6_noteMisses, cX6_noteMisses, 6, 3, none, [], 1, true, 4, 91)
abbrev M_X6_releasePeriodic : MT := (yX6_releasePeriodic, cX6_releasePeriodic, 6, 2, none, [], 1, true, 3, 66)
abbrev M_X6_beginJob : MT := (yX6_beginJob, cX6_beginJob, 6, 2, none, [], 2, true, 2, 45)
abbrev M_X6_settle : MT := (yX6_settle, cX6_settle, 6, 3, (some (.object "TaskKernel$Task")), [], 1, true, 5, 118)
abbrev M_X6_workOneUnit : MT := (yX6_workOneUnit, cX6_workOneUnit, 6, 3, none, [], 2, true, 5, 118)
abbrev M_X6_goOn : MT := (yX6_goOn, cX6_goOn, 6, 8, none, [], 3, true, 4, 91)
abbrev M_X6_stepFails : MT := (yX6_stepFails, cX6_stepFails, 6, 5, (some .boolean), [], 4, true, 0, 0)
abbrev M_X6_endJob : MT := (yX6_endJob, cX6_endJob, 6, 4, none, [], 3, true, 3, 68)
abbrev M_X6_giveAway : MT := (yX6_giveAway, cX6_giveAway, 6, 3, none, [], 2, true, 2, 46)
abbrev M_X6_heirOf : MT := (yX6_heirOf, cX6_heirOf, 6, 5, (some (.object "TaskKernel$Task")), [], 2, true, 1, 21)
abbrev M_X6_nextChange : MT := (yX6_nextChange, cX6_nextChange, 6, 1, (some .int), [], 1, true, 0, 0)
abbrev M_X6_note : MT := (yX6_note, cX6_note, 6, 3, none, [], 3, true, 1, 23)
abbrev M_X6_mostUrgentReady : MT := (yX6_mostUrgentReady, cX6_mostUrgentReady, 6, 4, (some (.object "TaskKernel$Task")), [], 1, true, 2, 46)
abbrev M_X6_goesAhead : MT := (yX6_goesAhead, cX6_goesAhead, 6, 3, (some .boolean), [], 3, true, 0, 0)
abbrev M_X6_rankTasks : MT := (yX6_rankTasks, cX6_rankTasks, 6, 3, none, [], 1, true, 1, 24)
abbrev M_X6_liftToCeilings : MT := (yX6_liftToCeilings, cX6_liftToCeilings, 6, 3, none, [], 1, true, 0, 0)
abbrev M_X6_lendOnce : MT := (yX6_lendOnce, cX6_lendOnce, 6, 5, (some .boolean), [], 1, true, 0, 0)
abbrev M_X6_urgencyOf : MT := (yX6_urgencyOf, cX6_urgencyOf, 6, 2, (some .int), [], 2, true, 2, 46)
abbrev M_X6_seen : MT := (yX6_seen, cX6_seen, 6, 4, (some .int), [], 3, true, 3, 67)
abbrev M_X6_held : MT := (yX6_held, cX6_held, 6, 4, (some .int), [], 3, true, 2, 45)
abbrev M_X6_event : MT := (yX6_event, cX6_event, 6, 3, (some .int), [], 3, true, 2, 44)
abbrev M_X6_look : MT := (yX6_look, cX6_look, 6, 2, (some .int), [], 2, true, 0, 0)
abbrev M_X6_countBlockedAt : MT := (yX6_countBlockedAt, cX6_countBlockedAt, 6, 4, (some .int), [], 2, true, 0, 0)
abbrev M_X6_response : MT := (yX6_response, cX6_response, 6, 7, (some .int), [], 2, true, 6, 94)
abbrev M_X6_load : MT := (yX6_load, cX6_load, 6, 5, (some .double), [], 1, true, 1, 22)
abbrev M_X6_blockingOf : MT := (yX6_blockingOf, cX6_blockingOf, 6, 4, (some .int), [], 2, true, 3, 71)
abbrev M_X6_greatestSectionBelow : MT := (yX6_greatestSectionBelow, cX6_greatestSectionBelow, 6, 5, (some .int), [], 3, true, 2, 47)
abbrev M_X6_interferenceWith : MT := (yX6_interferenceWith, cX6_interferenceWith, 6, 6, (some .int), [], 3, true, 1, 22)
abbrev M_X6_ceilOf : MT := (yX6_ceilOf, cX6_ceilOf, 6, 4, (some .int), [], 2, true, 1, 22)
abbrev M_X7_init : MT := (yX7_init, cX7_init, 7, 2, none, [], 2, true, 1, 20)
abbrev M_X7_thrown : MT := (yX7_thrown, cX7_thrown, 7, 1, (some .int), [], 1, true, 0, 0)
abbrev M_X7_in : MT := (yX7_in, cX7_in, 7, 3, (some .boolean), [], 3, false, 0, 0)
abbrev M_X7_isTask : MT := (yX7_isTask, cX7_isTask, 7, 2, (some .boolean), [], 2, true, 0, 0)
abbrev M_X7_task : MT := (yX7_task, cX7_task, 7, 7, (some .int), [], 6, true, 1, 22)
abbrev M_X7_strict : MT := (yX7_strict, cX7_strict, 7, 3, (some .boolean), [], 3, true, 1, 21)
abbrev M_X7_mutex : MT := (yX7_mutex, cX7_mutex, 7, 4, (some .int), [], 3, true, 1, 22)
abbrev M_X7_step : MT := (yX7_step, cX7_step, 7, 5, (some .int), [], 4, true, 1, 22)
abbrev M_X7_start : MT := (yX7_start, cX7_start, 7, 1, none, [], 1, true, 0, 0)
abbrev M_X7_better : MT := (yX7_better, cX7_better, 7, 3, (some .boolean), [], 3, true, 0, 0)
abbrev M_X7_weigh : MT := (yX7_weigh, cX7_weigh, 7, 5, none, [], 1, true, 1, 22)
abbrev M_X7_first : MT := (yX7_first, cX7_first, 7, 4, (some .int), [], 1, true, 2, 46)
abbrev M_X7_note : MT := (yX7_note, cX7_note, 7, 3, none, [], 3, true, 0, 0)
abbrev M_X7_ready : MT := (yX7_ready, cX7_ready, 7, 2, none, [], 2, true, 0, 0)
abbrev M_X7_begin : MT := (yX7_begin, cX7_begin, 7, 2, none, [], 2, true, 1, 22)
abbrev M_X7_give : MT := (yX7_give, cX7_give, 7, 5, none, [], 2, true, 2, 46)
abbrev M_X7_over : MT := (yX7_over, cX7_over, 7, 5, none, [], 4, true, 3, 70)
abbrev M_X7_atWork : MT := (yX7_atWork, cX7_atWork, 7, 2, (some .boolean), [], 2, true, 0, 0)
abbrev M_X7_goOn : MT := (yX7_goOn, cX7_goOn, 7, 4, none, [], 3, true, 5, 117)
abbrev M_X7_lock : MT := (yX7_lock, cX7_lock, 7, 4, none, [], 4, true, 4, 94)
abbrev M_X7_release : MT := (yX7_release, cX7_release, 7, 2, (some .boolean), [], 2, true, 2, 43)
abbrev M_X7_arrivals : MT := (yX7_arrivals, cX7_arrivals, 7, 2, none, [], 1, true, 4, 94)
abbrev M_X7_work : MT := (yX7_work, cX7_work, 7, 3, none, [], 2, true, 6, 140)
abbrev M_X7_pass : MT := (yX7_pass, cX7_pass, 7, 2, (some .boolean), [], 1, true, 7, 162)
abbrev M_X7_tick : MT := (yX7_tick, cX7_tick, 7, 4, (some .int), [], 2, true, 8, 183)
abbrev M_X7_seen : MT := (yX7_seen, cX7_seen, 7, 3, (some .int), [], 3, true, 2, 46)
abbrev M_X7_ceil : MT := (yX7_ceil, cX7_ceil, 7, 6, (some .int), [], 2, true, 0, 0)
abbrev M_X7_held : MT := (yX7_held, cX7_held, 7, 5, (some .int), [], 3, true, 1, 25)
abbrev M_X7_event : MT := (yX7_event, cX7_event, 7, 4, (some .int), [], 3, true, 0, 0)
abbrev M_X7_cost : MT := (yX7_cost, cX7_cost, 7, 4, (some .int), [], 2, true, 0, 0)
abbrev M_X7_section : MT := (yX7_section, cX7_section, 7, 7, (some .int), [], 3, true, 0, 0)
abbrev M_X7_blocking : MT := (yX7_blocking, cX7_blocking, 7, 6, (some .int), [], 2, true, 1, 26)
abbrev M_X7_response : MT := (yX7_response, cX7_response, 7, 7, (some .int), [], 2, true, 2, 51)
abbrev M_X7_load : MT := (yX7_load, cX7_load, 7, 4, (some .double), [], 1, true, 1, 23)
abbrev M_X7_look : MT := (yX7_look, cX7_look, 7, 2, (some .int), [], 2, true, 0, 0)
abbrev M_L_cell : MT := (yL_cell, cL_cell, 8, 2, (some .int), [], 2, false, 0, 0)
abbrev M_L_task : MT := (yL_task, cL_task, 8, 8, (some .int), [(0, 16, 19, 13), (0, 16, 23, 15)], 7, false, 7, 117)
abbrev M_L_mutex : MT := (yL_mutex, cL_mutex, 8, 5, (some .int), [(0, 10, 13, 13), (0, 10, 17, 15)], 4, false, 7, 114)
abbrev M_L_step : MT := (yL_step, cL_step, 8, 6, (some .int), [(0, 12, 15, 13), (0, 12, 19, 15)], 5, false, 7, 114)
abbrev M_L_start : MT := (yL_start, cL_start, 8, 2, (some .int), [(0, 4, 7, 15)], 1, false, 7, 110)
abbrev M_L_tick : MT := (yL_tick, cL_tick, 8, 4, (some .int), [(0, 9, 12, 13), (0, 9, 15, 15)], 3, false, 7, 164)
abbrev M_L_response : MT := (yL_response, cL_response, 8, 4, (some .int), [(0, 9, 12, 13)], 3, false, 7, 120)
abbrev M_L_law : MT := (yL_law, cL_law, 8, 9, (some .boolean), [], 1, false, 11, 412)
theorem fl_0_9 : FieldOk 0 9 1 0 := ⟨(wr_5 _ (List.mem_of_getElem? (i := 19) rfl)), by decide, by decide, by decide⟩
theorem fl_0_15 : FieldOk 0 15 1 1 := ⟨(wr_5 _ (List.mem_of_getElem? (i := 20) rfl)), by decide, by decide, by decide⟩
theorem fl_0_18 : FieldOk 0 18 1 2 := ⟨(wr_9 _ (List.mem_of_getElem? (i := 6) rfl)), by decide, by decide, by decide⟩
theorem fl_1_9 : FieldOk 1 9 2 0 := ⟨(wr_6 _ (List.mem_of_getElem? (i := 0) rfl)), by decide, by decide, by decide⟩
theorem fl_1_15 : FieldOk 1 15 2 1 := ⟨(wr_11 _ (List.mem_of_getElem? (i := 9) rfl)), by decide, by decide, by decide⟩
theorem fl_1_18 : FieldOk 1 18 2 2 := ⟨(wr_11 _ (List.mem_of_getElem? (i := 10) rfl)), by decide, by decide, by decide⟩
theorem fl_1_21 : FieldOk 1 21 2 3 := ⟨(wr_11 _ (List.mem_of_getElem? (i := 11) rfl)), by decide, by decide, by decide⟩
theorem fl_1_24 : FieldOk 1 24 2 4 := ⟨(wr_11 _ (List.mem_of_getElem? (i := 12) rfl)), by decide, by decide, by decide⟩
theorem fl_1_27 : FieldOk 1 27 2 5 := ⟨(wr_11 _ (List.mem_of_getElem? (i := 13) rfl)), by decide, by decide, by decide⟩
theorem fl_1_30 : FieldOk 1 30 2 6 := ⟨(wr_11 _ (List.mem_of_getElem? (i := 14) rfl)), by decide, by decide, by decide⟩
theorem fl_1_33 : FieldOk 1 33 2 7 := ⟨(wr_13 _ (List.mem_of_getElem? (i := 9) rfl)), by decide, by decide, by decide⟩
theorem fl_1_40 : FieldOk 1 40 2 8 := ⟨(wr_14 _ (List.mem_of_getElem? (i := 15) rfl)), by decide, by decide, by decide⟩
theorem fl_2_9 : FieldOk 2 9 3 0 := ⟨(wr_2 _ (List.mem_of_getElem? (i := 6) rfl)), by decide, by decide, by decide⟩
theorem fl_2_15 : FieldOk 2 15 3 1 := ⟨(wr_2 _ (List.mem_of_getElem? (i := 7) rfl)), by decide, by decide, by decide⟩
theorem fl_2_18 : FieldOk 2 18 3 2 := ⟨(wr_2 _ (List.mem_of_getElem? (i := 8) rfl)), by decide, by decide, by decide⟩
theorem fl_2_21 : FieldOk 2 21 3 4 := ⟨(wr_10 _ (List.mem_of_getElem? (i := 22) rfl)), by decide, by decide, by decide⟩
theorem fl_2_25 : FieldOk 2 25 3 3 := ⟨(wr_10 _ (List.mem_of_getElem? (i := 23) rfl)), by decide, by decide, by decide⟩
theorem fl_3_7 : FieldOk 3 7 4 0 := ⟨(wr_8 _ (List.mem_of_getElem? (i := 1) rfl)), by decide, by decide, by decide⟩
theorem fl_3_13 : FieldOk 3 13 4 1 := ⟨(wr_8 _ (List.mem_of_getElem? (i := 2) rfl)), by decide, by decide, by decide⟩
theorem fl_3_16 : FieldOk 3 16 4 2 := ⟨(wr_8 _ (List.mem_of_getElem? (i := 3) rfl)), by decide, by decide, by decide⟩
theorem fl_4_7 : FieldOk 4 7 5 0 := ⟨(wr_17 _ (List.mem_of_getElem? (i := 2) rfl)), by decide, by decide, by decide⟩
theorem fl_4_13 : FieldOk 4 13 5 5 := ⟨(wr_17 _ (List.mem_of_getElem? (i := 3) rfl)), by decide, by decide, by decide⟩
theorem fl_5_12 : FieldOk 5 12 6 6 := ⟨(wr_5 _ (List.mem_of_getElem? (i := 1) rfl)), by decide, by decide, by decide⟩
theorem fl_5_21 : FieldOk 5 21 6 7 := ⟨(wr_5 _ (List.mem_of_getElem? (i := 5) rfl)), by decide, by decide, by decide⟩
theorem fl_5_28 : FieldOk 5 28 6 8 := ⟨(wr_5 _ (List.mem_of_getElem? (i := 9) rfl)), by decide, by decide, by decide⟩
theorem fl_5_32 : FieldOk 5 32 6 0 := ⟨(wr_5 _ (List.mem_of_getElem? (i := 10) rfl)), by decide, by decide, by decide⟩
theorem fl_5_36 : FieldOk 5 36 6 1 := ⟨(wr_5 _ (List.mem_of_getElem? (i := 11) rfl)), by decide, by decide, by decide⟩
theorem fl_5_39 : FieldOk 5 39 6 2 := ⟨(wr_5 _ (List.mem_of_getElem? (i := 12) rfl)), by decide, by decide, by decide⟩
theorem fl_5_42 : FieldOk 5 42 6 3 := ⟨(wr_5 _ (List.mem_of_getElem? (i := 13) rfl)), by decide, by decide, by decide⟩
theorem fl_5_45 : FieldOk 5 45 6 4 := ⟨(wr_5 _ (List.mem_of_getElem? (i := 14) rfl)), by decide, by decide, by decide⟩
theorem fl_5_48 : FieldOk 5 48 6 5 := ⟨(wr_5 _ (List.mem_of_getElem? (i := 15) rfl)), by decide, by decide, by decide⟩
theorem fl_5_51 : FieldOk 5 51 2 1 := ⟨(wr_16 _ (List.mem_of_getElem? (i := 2) rfl)), by decide, by decide, by decide⟩
theorem fl_5_54 : FieldOk 5 54 1 2 := ⟨(wr_16 _ (List.mem_of_getElem? (i := 3) rfl)), by decide, by decide, by decide⟩
theorem fl_5_57 : FieldOk 5 57 1 0 := ⟨(wr_16 _ (List.mem_of_getElem? (i := 4) rfl)), by decide, by decide, by decide⟩
theorem fl_6_11 : FieldOk 6 11 7 1 := ⟨(wr_1 _ (List.mem_of_getElem? (i := 18) rfl)), by decide, by decide, by decide⟩
theorem fl_6_17 : FieldOk 6 17 7 2 := ⟨(wr_1 _ (List.mem_of_getElem? (i := 20) rfl)), by decide, by decide, by decide⟩
theorem fl_6_24 : FieldOk 6 24 7 3 := ⟨(wr_2 _ (List.mem_of_getElem? (i := 0) rfl)), by decide, by decide, by decide⟩
theorem fl_6_28 : FieldOk 6 28 7 0 := ⟨(wr_2 _ (List.mem_of_getElem? (i := 1) rfl)), by decide, by decide, by decide⟩
theorem fl_6_43 : FieldOk 6 43 7 6 := ⟨(wr_4 _ (List.mem_of_getElem? (i := 11) rfl)), by decide, by decide, by decide⟩
theorem fl_6_46 : FieldOk 6 46 7 4 := ⟨(wr_4 _ (List.mem_of_getElem? (i := 12) rfl)), by decide, by decide, by decide⟩
theorem fl_6_62 : FieldOk 6 62 6 9 := ⟨(wr_6 _ (List.mem_of_getElem? (i := 22) rfl)), by decide, by decide, by decide⟩
theorem fl_6_67 : FieldOk 6 67 7 5 := ⟨(wr_7 _ (List.mem_of_getElem? (i := 18) rfl)), by decide, by decide, by decide⟩
theorem fl_6_81 : FieldOk 6 81 6 6 := ⟨(wr_8 _ (List.mem_of_getElem? (i := 16) rfl)), by decide, by decide, by decide⟩
theorem fl_6_85 : FieldOk 6 85 1 2 := ⟨(wr_8 _ (List.mem_of_getElem? (i := 17) rfl)), by decide, by decide, by decide⟩
theorem fl_6_101 : FieldOk 6 101 6 2 := ⟨(wr_10 _ (List.mem_of_getElem? (i := 2) rfl)), by decide, by decide, by decide⟩
theorem fl_6_125 : FieldOk 6 125 7 7 := ⟨(wr_10 _ (List.mem_of_getElem? (i := 11) rfl)), by decide, by decide, by decide⟩
theorem fl_6_128 : FieldOk 6 128 6 7 := ⟨(wr_10 _ (List.mem_of_getElem? (i := 7) rfl)), by decide, by decide, by decide⟩
theorem fl_6_132 : FieldOk 6 132 2 0 := ⟨(wr_10 _ (List.mem_of_getElem? (i := 8) rfl)), by decide, by decide, by decide⟩
theorem fl_6_137 : FieldOk 6 137 2 5 := ⟨(wr_12 _ (List.mem_of_getElem? (i := 21) rfl)), by decide, by decide, by decide⟩
theorem fl_6_140 : FieldOk 6 140 6 8 := ⟨(wr_10 _ (List.mem_of_getElem? (i := 9) rfl)), by decide, by decide, by decide⟩
theorem fl_6_144 : FieldOk 6 144 5 2 := ⟨(wr_12 _ (List.mem_of_getElem? (i := 22) rfl)), by decide, by decide, by decide⟩
theorem fl_6_153 : FieldOk 6 153 5 1 := ⟨(wr_12 _ (List.mem_of_getElem? (i := 23) rfl)), by decide, by decide, by decide⟩
theorem fl_6_163 : FieldOk 6 163 5 3 := ⟨(wr_10 _ (List.mem_of_getElem? (i := 10) rfl)), by decide, by decide, by decide⟩
theorem fl_6_166 : FieldOk 6 166 6 4 := ⟨(wr_10 _ (List.mem_of_getElem? (i := 12) rfl)), by decide, by decide, by decide⟩
theorem fl_6_186 : FieldOk 6 186 7 8 := ⟨(wr_15 _ (List.mem_of_getElem? (i := 20) rfl)), by decide, by decide, by decide⟩
theorem fl_6_190 : FieldOk 6 190 2 3 := ⟨(wr_17 _ (List.mem_of_getElem? (i := 12) rfl)), by decide, by decide, by decide⟩
theorem fl_6_193 : FieldOk 6 193 2 2 := ⟨(wr_17 _ (List.mem_of_getElem? (i := 13) rfl)), by decide, by decide, by decide⟩
theorem fl_6_196 : FieldOk 6 196 5 4 := ⟨(wr_17 _ (List.mem_of_getElem? (i := 14) rfl)), by decide, by decide, by decide⟩
theorem fl_6_197 : FieldOk 6 197 6 5 := ⟨(wr_17 _ (List.mem_of_getElem? (i := 15) rfl)), by decide, by decide, by decide⟩
theorem fl_6_200 : FieldOk 6 200 1 1 := ⟨(wr_16 _ (List.mem_of_getElem? (i := 11) rfl)), by decide, by decide, by decide⟩
theorem fl_6_204 : FieldOk 6 204 2 1 := ⟨(wr_16 _ (List.mem_of_getElem? (i := 9) rfl)), by decide, by decide, by decide⟩
theorem fl_6_210 : FieldOk 6 210 1 0 := ⟨(wr_16 _ (List.mem_of_getElem? (i := 10) rfl)), by decide, by decide, by decide⟩
theorem fl_6_221 : FieldOk 6 221 4 3 := ⟨(wr_13 _ (List.mem_of_getElem? (i := 4) rfl)), by decide, by decide, by decide⟩
theorem fl_6_228 : FieldOk 6 228 2 4 := ⟨(wr_16 _ (List.mem_of_getElem? (i := 12) rfl)), by decide, by decide, by decide⟩
theorem fl_6_235 : FieldOk 6 235 4 1 := ⟨(wr_14 _ (List.mem_of_getElem? (i := 0) rfl)), by decide, by decide, by decide⟩
theorem fl_6_238 : FieldOk 6 238 6 1 := ⟨(wr_13 _ (List.mem_of_getElem? (i := 18) rfl)), by decide, by decide, by decide⟩
theorem fl_6_241 : FieldOk 6 241 4 2 := ⟨(wr_14 _ (List.mem_of_getElem? (i := 1) rfl)), by decide, by decide, by decide⟩
theorem fl_6_257 : FieldOk 6 257 2 7 := ⟨(wr_14 _ (List.mem_of_getElem? (i := 6) rfl)), by decide, by decide, by decide⟩
theorem fl_6_265 : FieldOk 6 265 7 9 := ⟨(wr_11 _ (List.mem_of_getElem? (i := 4) rfl)), by decide, by decide, by decide⟩
theorem fl_6_268 : FieldOk 6 268 6 0 := ⟨(wr_10 _ (List.mem_of_getElem? (i := 17) rfl)), by decide, by decide, by decide⟩
theorem fl_6_278 : FieldOk 6 278 2 8 := ⟨(wr_13 _ (List.mem_of_getElem? (i := 19) rfl)), by decide, by decide, by decide⟩
theorem fl_6_281 : FieldOk 6 281 2 6 := ⟨(wr_15 _ (List.mem_of_getElem? (i := 21) rfl)), by decide, by decide, by decide⟩
theorem fl_6_294 : FieldOk 6 294 5 0 := ⟨(wr_19 _ (List.mem_of_getElem? (i := 20) rfl)), by decide, by decide, by decide⟩
theorem fl_6_297 : FieldOk 6 297 5 5 := ⟨(wr_19 _ (List.mem_of_getElem? (i := 21) rfl)), by decide, by decide, by decide⟩
theorem fl_6_300 : FieldOk 6 300 4 0 := ⟨(wr_19 _ (List.mem_of_getElem? (i := 22) rfl)), by decide, by decide, by decide⟩
theorem fl_6_313 : FieldOk 6 313 3 3 := ⟨(wr_24 _ (List.mem_of_getElem? (i := 11) rfl)), by decide, by decide, by decide⟩
theorem fl_7_7 : FieldOk 7 7 8 4 := ⟨(wr_2 _ (List.mem_of_getElem? (i := 13) rfl)), by decide, by decide, by decide⟩
theorem fl_7_13 : FieldOk 7 13 8 7 := ⟨(wr_2 _ (List.mem_of_getElem? (i := 14) rfl)), by decide, by decide, by decide⟩
theorem fl_7_17 : FieldOk 7 17 8 8 := ⟨(wr_2 _ (List.mem_of_getElem? (i := 15) rfl)), by decide, by decide, by decide⟩
theorem fl_7_20 : FieldOk 7 20 8 9 := ⟨(wr_2 _ (List.mem_of_getElem? (i := 16) rfl)), by decide, by decide, by decide⟩
theorem fl_7_23 : FieldOk 7 23 8 10 := ⟨(wr_2 _ (List.mem_of_getElem? (i := 17) rfl)), by decide, by decide, by decide⟩
theorem fl_7_26 : FieldOk 7 26 8 11 := ⟨(wr_2 _ (List.mem_of_getElem? (i := 18) rfl)), by decide, by decide, by decide⟩
theorem fl_7_29 : FieldOk 7 29 8 12 := ⟨(wr_2 _ (List.mem_of_getElem? (i := 20) rfl)), by decide, by decide, by decide⟩
theorem fl_7_33 : FieldOk 7 33 8 13 := ⟨(wr_2 _ (List.mem_of_getElem? (i := 21) rfl)), by decide, by decide, by decide⟩
theorem fl_7_36 : FieldOk 7 36 8 14 := ⟨(wr_2 _ (List.mem_of_getElem? (i := 22) rfl)), by decide, by decide, by decide⟩
theorem fl_7_39 : FieldOk 7 39 8 15 := ⟨(wr_2 _ (List.mem_of_getElem? (i := 23) rfl)), by decide, by decide, by decide⟩
theorem fl_7_42 : FieldOk 7 42 8 16 := ⟨(wr_3 _ (List.mem_of_getElem? (i := 0) rfl)), by decide, by decide, by decide⟩
theorem fl_7_45 : FieldOk 7 45 8 17 := ⟨(wr_3 _ (List.mem_of_getElem? (i := 1) rfl)), by decide, by decide, by decide⟩
theorem fl_7_48 : FieldOk 7 48 8 18 := ⟨(wr_3 _ (List.mem_of_getElem? (i := 2) rfl)), by decide, by decide, by decide⟩
theorem fl_7_51 : FieldOk 7 51 8 19 := ⟨(wr_3 _ (List.mem_of_getElem? (i := 3) rfl)), by decide, by decide, by decide⟩
theorem fl_7_54 : FieldOk 7 54 8 20 := ⟨(wr_3 _ (List.mem_of_getElem? (i := 4) rfl)), by decide, by decide, by decide⟩
theorem fl_7_57 : FieldOk 7 57 8 21 := ⟨(wr_3 _ (List.mem_of_getElem? (i := 5) rfl)), by decide, by decide, by decide⟩
theorem fl_7_60 : FieldOk 7 60 8 22 := ⟨(wr_3 _ (List.mem_of_getElem? (i := 6) rfl)), by decide, by decide, by decide⟩
theorem fl_7_63 : FieldOk 7 63 8 23 := ⟨(wr_3 _ (List.mem_of_getElem? (i := 7) rfl)), by decide, by decide, by decide⟩
theorem fl_7_66 : FieldOk 7 66 8 24 := ⟨(wr_3 _ (List.mem_of_getElem? (i := 8) rfl)), by decide, by decide, by decide⟩
theorem fl_7_69 : FieldOk 7 69 8 25 := ⟨(wr_3 _ (List.mem_of_getElem? (i := 9) rfl)), by decide, by decide, by decide⟩
theorem fl_7_72 : FieldOk 7 72 8 26 := ⟨(wr_3 _ (List.mem_of_getElem? (i := 10) rfl)), by decide, by decide, by decide⟩
theorem fl_7_75 : FieldOk 7 75 8 27 := ⟨(wr_3 _ (List.mem_of_getElem? (i := 11) rfl)), by decide, by decide, by decide⟩
theorem fl_7_78 : FieldOk 7 78 8 28 := ⟨(wr_3 _ (List.mem_of_getElem? (i := 12) rfl)), by decide, by decide, by decide⟩
theorem fl_7_81 : FieldOk 7 81 8 29 := ⟨(wr_3 _ (List.mem_of_getElem? (i := 13) rfl)), by decide, by decide, by decide⟩
theorem fl_7_84 : FieldOk 7 84 8 30 := ⟨(wr_3 _ (List.mem_of_getElem? (i := 14) rfl)), by decide, by decide, by decide⟩
theorem fl_7_87 : FieldOk 7 87 8 32 := ⟨(wr_3 _ (List.mem_of_getElem? (i := 15) rfl)), by decide, by decide, by decide⟩
theorem fl_7_90 : FieldOk 7 90 8 33 := ⟨(wr_3 _ (List.mem_of_getElem? (i := 16) rfl)), by decide, by decide, by decide⟩
theorem fl_7_93 : FieldOk 7 93 8 34 := ⟨(wr_3 _ (List.mem_of_getElem? (i := 17) rfl)), by decide, by decide, by decide⟩
theorem fl_7_96 : FieldOk 7 96 8 36 := ⟨(wr_3 _ (List.mem_of_getElem? (i := 18) rfl)), by decide, by decide, by decide⟩
theorem fl_7_99 : FieldOk 7 99 8 37 := ⟨(wr_3 _ (List.mem_of_getElem? (i := 19) rfl)), by decide, by decide, by decide⟩
theorem fl_7_102 : FieldOk 7 102 8 38 := ⟨(wr_3 _ (List.mem_of_getElem? (i := 20) rfl)), by decide, by decide, by decide⟩
theorem fl_7_105 : FieldOk 7 105 8 1 := ⟨(wr_3 _ (List.mem_of_getElem? (i := 21) rfl)), by decide, by decide, by decide⟩
theorem fl_7_109 : FieldOk 7 109 8 0 := ⟨(wr_6 _ (List.mem_of_getElem? (i := 10) rfl)), by decide, by decide, by decide⟩
theorem fl_7_112 : FieldOk 7 112 8 6 := ⟨(wr_6 _ (List.mem_of_getElem? (i := 9) rfl)), by decide, by decide, by decide⟩
theorem fl_7_119 : FieldOk 7 119 8 2 := ⟨(wr_6 _ (List.mem_of_getElem? (i := 8) rfl)), by decide, by decide, by decide⟩
theorem fl_7_126 : FieldOk 7 126 8 31 := ⟨(wr_8 _ (List.mem_of_getElem? (i := 8) rfl)), by decide, by decide, by decide⟩
theorem fl_7_136 : FieldOk 7 136 8 35 := ⟨(wr_12 _ (List.mem_of_getElem? (i := 4) rfl)), by decide, by decide, by decide⟩
theorem fl_7_139 : FieldOk 7 139 8 3 := ⟨(wr_11 _ (List.mem_of_getElem? (i := 23) rfl)), by decide, by decide, by decide⟩
theorem fl_7_142 : FieldOk 7 142 8 5 := ⟨(wr_12 _ (List.mem_of_getElem? (i := 9) rfl)), by decide, by decide, by decide⟩
theorem ml_0_3 : Cond.methodLink (RN 0) 3 objectInit ∈ wsL_law := (wr_5 _ (List.mem_of_getElem? (i := 18) rfl))
theorem ml_0_22 : Cond.methodLink (RN 0) 22 yX0_sectionFrom ∈ wsL_law := (wr_22 _ (List.mem_of_getElem? (i := 23) rfl))
theorem ml_0_26 : Cond.methodLink (RN 0) 26 Lib.Math.max.name ∈ wsL_law := (wr_22 _ (List.mem_of_getElem? (i := 22) rfl))
theorem ml_1_3 : Cond.methodLink (RN 1) 3 objectInit ∈ wsL_law := (wr_5 _ (List.mem_of_getElem? (i := 23) rfl))
theorem ml_1_37 : Cond.methodLink (RN 1) 37 yX1_passStep ∈ wsL_law := (wr_14 _ (List.mem_of_getElem? (i := 20) rfl))
theorem ml_2_3 : Cond.methodLink (RN 2) 3 objectInit ∈ wsL_law := (wr_2 _ (List.mem_of_getElem? (i := 4) rfl))
theorem ml_2_28 : Cond.methodLink (RN 2) 28 Lib.Math.min.name ∈ wsL_law := (wr_21 _ (List.mem_of_getElem? (i := 16) rfl))
theorem ml_3_1 : Cond.methodLink (RN 3) 1 objectInit ∈ wsL_law := (wr_8 _ (List.mem_of_getElem? (i := 0) rfl))
theorem ml_4_1 : Cond.methodLink (RN 4) 1 objectInit ∈ wsL_law := (wr_6 _ (List.mem_of_getElem? (i := 3) rfl))
theorem ml_4_16 : Cond.methodLink (RN 4) 16 Lib.Math.max.name ∈ wsL_law := (wr_17 _ (List.mem_of_getElem? (i := 4) rfl))
theorem ml_5_3 : Cond.methodLink (RN 5) 3 objectInit ∈ wsL_law := (wr_4 _ (List.mem_of_getElem? (i := 21) rfl))
theorem ml_5_11 : Cond.methodLinkNest (RN 5) 11 yX0_init RX6 ∈ nestL := by simp [nestL, RN]
theorem ml_5_20 : Cond.methodLinkNest (RN 5) 20 yX1_init RX6 ∈ nestL := by simp [nestL, RN]
theorem ml_5_27 : Cond.methodLinkNest (RN 5) 27 yX4_init RX6 ∈ nestL := by simp [nestL, RN]
theorem ml_6_1 : Cond.methodLink (RN 6) 1 objectInit ∈ wsL_law := (wr_1 _ (List.mem_of_getElem? (i := 14) rfl))
theorem ml_6_23 : Cond.methodLinkNest (RN 6) 23 yX2_init RX6 ∈ nestL := by simp [nestL, RN]
theorem ml_6_32 : Cond.methodLink (RN 6) 32 yX6_within ∈ wsL_law := (wr_4 _ (List.mem_of_getElem? (i := 15) rfl))
theorem ml_6_55 : Cond.methodLink (RN 6) 55 yX5_init ∈ wsL_law := (wr_4 _ (List.mem_of_getElem? (i := 18) rfl))
theorem ml_6_58 : Cond.methodLink (RN 6) 58 yX6_isTask ∈ wsL_law := (wr_6 _ (List.mem_of_getElem? (i := 23) rfl))
theorem ml_6_72 : Cond.methodLink (RN 6) 72 yX3_init ∈ wsL_law := (wr_7 _ (List.mem_of_getElem? (i := 21) rfl))
theorem ml_6_75 : Cond.methodLink (RN 6) 75 yX6_isStep ∈ wsL_law := (wr_8 _ (List.mem_of_getElem? (i := 18) rfl))
theorem ml_6_92 : Cond.methodLink (RN 6) 92 yX0_append ∈ wsL_law := (wr_9 _ (List.mem_of_getElem? (i := 2) rfl))
theorem ml_6_98 : Cond.methodLink (RN 6) 98 yX6_isMutex ∈ wsL_law := (wr_8 _ (List.mem_of_getElem? (i := 22) rfl))
theorem ml_6_104 : Cond.methodLink (RN 6) 104 yX6_beginJob ∈ wsL_law := (wr_10 _ (List.mem_of_getElem? (i := 3) rfl))
theorem ml_6_112 : Cond.methodLink (RN 6) 112 yX6_noteMisses ∈ wsL_law := (wr_12 _ (List.mem_of_getElem? (i := 17) rfl))
theorem ml_6_115 : Cond.methodLink (RN 6) 115 yX6_releasePeriodic ∈ wsL_law := (wr_15 _ (List.mem_of_getElem? (i := 0) rfl))
theorem ml_6_118 : Cond.methodLink (RN 6) 118 yX6_settle ∈ wsL_law := (wr_15 _ (List.mem_of_getElem? (i := 8) rfl))
theorem ml_6_122 : Cond.methodLink (RN 6) 122 yX6_workOneUnit ∈ wsL_law := (wr_17 _ (List.mem_of_getElem? (i := 8) rfl))
theorem ml_6_149 : Cond.methodLink (RN 6) 149 yX6_note ∈ wsL_law := (wr_10 _ (List.mem_of_getElem? (i := 13) rfl))
theorem ml_6_156 : Cond.methodLink (RN 6) 156 yX6_endJob ∈ wsL_law := (wr_13 _ (List.mem_of_getElem? (i := 0) rfl))
theorem ml_6_160 : Cond.methodLink (RN 6) 160 yX5_isPeriodicAt ∈ wsL_law := (wr_15 _ (List.mem_of_getElem? (i := 4) rfl))
theorem ml_6_169 : Cond.methodLink (RN 6) 169 yX6_nextChange ∈ wsL_law := (wr_11 _ (List.mem_of_getElem? (i := 0) rfl))
theorem ml_6_173 : Cond.methodLink (RN 6) 173 yX1_begin ∈ wsL_law := (wr_11 _ (List.mem_of_getElem? (i := 5) rfl))
theorem ml_6_176 : Cond.methodLink (RN 6) 176 yX6_mostUrgentReady ∈ wsL_law := (wr_15 _ (List.mem_of_getElem? (i := 12) rfl))
theorem ml_6_179 : Cond.methodLink (RN 6) 179 yX5_isAtWork ∈ wsL_law := (wr_15 _ (List.mem_of_getElem? (i := 22) rfl))
theorem ml_6_183 : Cond.methodLink (RN 6) 183 yX6_goOn ∈ wsL_law := (wr_16 _ (List.mem_of_getElem? (i := 5) rfl))
theorem ml_6_207 : Cond.methodLink (RN 6) 207 yX1_passStep ∈ wsL_law := (wr_16 _ (List.mem_of_getElem? (i := 21) rfl))
theorem ml_6_213 : Cond.methodLink (RN 6) 213 yX6_stepFails ∈ wsL_law := (wr_16 _ (List.mem_of_getElem? (i := 13) rfl))
theorem ml_6_217 : Cond.methodLink (RN 6) 217 yX6_giveAway ∈ wsL_law := (wr_13 _ (List.mem_of_getElem? (i := 10) rfl))
theorem ml_6_224 : Cond.methodLink (RN 6) 224 yX1_blockAt ∈ wsL_law := (wr_16 _ (List.mem_of_getElem? (i := 17) rfl))
theorem ml_6_231 : Cond.methodLink (RN 6) 231 yX4_addDone ∈ wsL_law := (wr_16 _ (List.mem_of_getElem? (i := 22) rfl))
theorem ml_6_244 : Cond.methodLink (RN 6) 244 yX1_end ∈ wsL_law := (wr_13 _ (List.mem_of_getElem? (i := 5) rfl))
theorem ml_6_247 : Cond.methodLink (RN 6) 247 yX6_rankTasks ∈ wsL_law := (wr_13 _ (List.mem_of_getElem? (i := 14) rfl))
theorem ml_6_250 : Cond.methodLink (RN 6) 250 yX6_heirOf ∈ wsL_law := (wr_14 _ (List.mem_of_getElem? (i := 7) rfl))
theorem ml_6_254 : Cond.methodLink (RN 6) 254 yX1_resume ∈ wsL_law := (wr_14 _ (List.mem_of_getElem? (i := 16) rfl))
theorem ml_6_261 : Cond.methodLink (RN 6) 261 yX1_inheritsAhead ∈ wsL_law := (wr_14 _ (List.mem_of_getElem? (i := 11) rfl))
theorem ml_6_271 : Cond.methodLink (RN 6) 271 yX2_add ∈ wsL_law := (wr_10 _ (List.mem_of_getElem? (i := 18) rfl))
theorem ml_6_274 : Cond.methodLink (RN 6) 274 yX6_goesAhead ∈ wsL_law := (wr_15 _ (List.mem_of_getElem? (i := 16) rfl))
theorem ml_6_284 : Cond.methodLink (RN 6) 284 yX6_liftToCeilings ∈ wsL_law := (wr_13 _ (List.mem_of_getElem? (i := 20) rfl))
theorem ml_6_287 : Cond.methodLink (RN 6) 287 yX6_lendOnce ∈ wsL_law := (wr_14 _ (List.mem_of_getElem? (i := 2) rfl))
theorem ml_6_290 : Cond.methodLink (RN 6) 290 yX6_urgencyOf ∈ wsL_law := (wr_19 _ (List.mem_of_getElem? (i := 23) rfl))
theorem ml_6_301 : Cond.methodLink (RN 6) 301 yX6_countBlockedAt ∈ wsL_law := (wr_20 _ (List.mem_of_getElem? (i := 11) rfl))
theorem ml_6_305 : Cond.methodLink (RN 6) 305 yX6_ceilOf ∈ wsL_law := (wr_20 _ (List.mem_of_getElem? (i := 15) rfl))
theorem ml_6_309 : Cond.methodLink (RN 6) 309 yX2_answer ∈ wsL_law := (wr_21 _ (List.mem_of_getElem? (i := 12) rfl))
theorem ml_6_318 : Cond.methodLink (RN 6) 318 yX0_cost ∈ wsL_law := (wr_22 _ (List.mem_of_getElem? (i := 6) rfl))
theorem ml_6_321 : Cond.methodLink (RN 6) 321 yX6_blockingOf ∈ wsL_law := (wr_22 _ (List.mem_of_getElem? (i := 10) rfl))
theorem ml_6_324 : Cond.methodLink (RN 6) 324 yX6_interferenceWith ∈ wsL_law := (wr_23 _ (List.mem_of_getElem? (i := 3) rfl))
theorem ml_6_328 : Cond.methodLink (RN 6) 328 yX6_greatestSectionBelow ∈ wsL_law := (wr_22 _ (List.mem_of_getElem? (i := 14) rfl))
theorem ml_6_331 : Cond.methodLink (RN 6) 331 Lib.Math.max.name ∈ wsL_law := (wr_20 _ (List.mem_of_getElem? (i := 19) rfl))
theorem ml_6_336 : Cond.methodLink (RN 6) 336 yX0_greatestSection ∈ wsL_law := (wr_22 _ (List.mem_of_getElem? (i := 18) rfl))
theorem ml_6_339 : Cond.methodLink (RN 6) 339 yX0_hasLockOf ∈ wsL_law := (wr_20 _ (List.mem_of_getElem? (i := 20) rfl))
theorem ml_7_1 : Cond.methodLink (RN 7) 1 objectInit ∈ wsL_law := (wr_2 _ (List.mem_of_getElem? (i := 12) rfl))
theorem ml_7_115 : Cond.methodLink (RN 7) 115 yX7_in ∈ wsL_law := (wr_6 _ (List.mem_of_getElem? (i := 11) rfl))
theorem ml_7_122 : Cond.methodLink (RN 7) 122 yX7_isTask ∈ wsL_law := (wr_7 _ (List.mem_of_getElem? (i := 7) rfl))
theorem ml_7_129 : Cond.methodLink (RN 7) 129 yX7_better ∈ wsL_law := (wr_18 _ (List.mem_of_getElem? (i := 16) rfl))
theorem ml_7_133 : Cond.methodLink (RN 7) 133 yX7_weigh ∈ wsL_law := (wr_18 _ (List.mem_of_getElem? (i := 12) rfl))
theorem ml_7_145 : Cond.methodLink (RN 7) 145 yX7_note ∈ wsL_law := (wr_12 _ (List.mem_of_getElem? (i := 0) rfl))
theorem ml_7_149 : Cond.methodLink (RN 7) 149 yX7_ready ∈ wsL_law := (wr_12 _ (List.mem_of_getElem? (i := 5) rfl))
theorem ml_7_153 : Cond.methodLink (RN 7) 153 yX7_give ∈ wsL_law := (wr_18 _ (List.mem_of_getElem? (i := 8) rfl))
theorem ml_7_156 : Cond.methodLink (RN 7) 156 yX7_atWork ∈ wsL_law := (wr_19 _ (List.mem_of_getElem? (i := 0) rfl))
theorem ml_7_159 : Cond.methodLink (RN 7) 159 yX7_over ∈ wsL_law := (wr_18 _ (List.mem_of_getElem? (i := 4) rfl))
theorem ml_7_163 : Cond.methodLink (RN 7) 163 yX7_lock ∈ wsL_law := (wr_19 _ (List.mem_of_getElem? (i := 8) rfl))
theorem ml_7_167 : Cond.methodLink (RN 7) 167 yX7_begin ∈ wsL_law := (wr_11 _ (List.mem_of_getElem? (i := 19) rfl))
theorem ml_7_170 : Cond.methodLink (RN 7) 170 yX7_goOn ∈ wsL_law := (wr_19 _ (List.mem_of_getElem? (i := 4) rfl))
theorem ml_7_173 : Cond.methodLink (RN 7) 173 yX7_arrivals ∈ wsL_law := (wr_18 _ (List.mem_of_getElem? (i := 0) rfl))
theorem ml_7_176 : Cond.methodLink (RN 7) 176 yX7_first ∈ wsL_law := (wr_18 _ (List.mem_of_getElem? (i := 20) rfl))
theorem ml_7_180 : Cond.methodLink (RN 7) 180 yX7_work ∈ wsL_law := (wr_19 _ (List.mem_of_getElem? (i := 12) rfl))
theorem ml_7_183 : Cond.methodLink (RN 7) 183 yX7_pass ∈ wsL_law := (wr_17 _ (List.mem_of_getElem? (i := 20) rfl))
theorem ml_7_187 : Cond.methodLink (RN 7) 187 yX7_ceil ∈ wsL_law := (wr_21 _ (List.mem_of_getElem? (i := 4) rfl))
theorem ml_7_191 : Cond.methodLink (RN 7) 191 yX7_section ∈ wsL_law := (wr_23 _ (List.mem_of_getElem? (i := 19) rfl))
theorem ml_7_195 : Cond.methodLink (RN 7) 195 yX7_cost ∈ wsL_law := (wr_23 _ (List.mem_of_getElem? (i := 11) rfl))
theorem ml_7_198 : Cond.methodLink (RN 7) 198 yX7_blocking ∈ wsL_law := (wr_23 _ (List.mem_of_getElem? (i := 15) rfl))
theorem ml_8_7 : Cond.methodLink (RN 8) 7 yX6_task ∈ wsL_law := (wr_4 _ (List.mem_of_getElem? (i := 3) rfl))
theorem ml_8_17 : Cond.methodLink (RN 8) 17 yX6_mutex ∈ wsL_law := (wr_7 _ (List.mem_of_getElem? (i := 14) rfl))
theorem ml_8_21 : Cond.methodLink (RN 8) 21 yX6_step ∈ wsL_law := (wr_8 _ (List.mem_of_getElem? (i := 12) rfl))
theorem ml_8_25 : Cond.methodLink (RN 8) 25 yX6_start ∈ wsL_law := (wr_9 _ (List.mem_of_getElem? (i := 14) rfl))
theorem ml_8_28 : Cond.methodLink (RN 8) 28 yX6_tick ∈ wsL_law := (wr_12 _ (List.mem_of_getElem? (i := 13) rfl))
theorem ml_8_32 : Cond.methodLink (RN 8) 32 yX6_response ∈ wsL_law := (wr_22 _ (List.mem_of_getElem? (i := 2) rfl))
theorem ml_8_35 : Cond.methodLink (RN 8) 35 yL_cell ∈ wsL_law := (wr_1 _ (List.mem_of_getElem? (i := 7) rfl))
theorem ml_8_41 : Cond.methodLink (RN 8) 41 yX6_init ∈ wsL_law := (wr_1 _ (List.mem_of_getElem? (i := 11) rfl))
theorem ml_8_46 : Cond.methodLink (RN 8) 46 yX7_init ∈ wsL_law := (wr_2 _ (List.mem_of_getElem? (i := 9) rfl))
theorem ml_8_47 : Cond.methodLink (RN 8) 47 yL_task ∈ wsL_law := (wr_3 _ (List.mem_of_getElem? (i := 22) rfl))
theorem ml_8_50 : Cond.methodLink (RN 8) 50 yX7_task ∈ wsL_law := (wr_6 _ (List.mem_of_getElem? (i := 4) rfl))
theorem ml_8_51 : Cond.methodLink (RN 8) 51 yX7_thrown ∈ wsL_law := (wr_6 _ (List.mem_of_getElem? (i := 14) rfl))
theorem ml_8_55 : Cond.methodLink (RN 8) 55 yX6_strict ∈ wsL_law := (wr_6 _ (List.mem_of_getElem? (i := 18) rfl))
theorem ml_8_59 : Cond.methodLink (RN 8) 59 yX7_strict ∈ wsL_law := (wr_7 _ (List.mem_of_getElem? (i := 3) rfl))
theorem ml_8_60 : Cond.methodLink (RN 8) 60 yL_mutex ∈ wsL_law := (wr_7 _ (List.mem_of_getElem? (i := 11) rfl))
theorem ml_8_63 : Cond.methodLink (RN 8) 63 yX7_mutex ∈ wsL_law := (wr_8 _ (List.mem_of_getElem? (i := 4) rfl))
theorem ml_8_64 : Cond.methodLink (RN 8) 64 yL_step ∈ wsL_law := (wr_8 _ (List.mem_of_getElem? (i := 9) rfl))
theorem ml_8_67 : Cond.methodLink (RN 8) 67 yX7_step ∈ wsL_law := (wr_9 _ (List.mem_of_getElem? (i := 7) rfl))
theorem ml_8_68 : Cond.methodLink (RN 8) 68 yL_start ∈ wsL_law := (wr_9 _ (List.mem_of_getElem? (i := 11) rfl))
theorem ml_8_71 : Cond.methodLink (RN 8) 71 yX7_start ∈ wsL_law := (wr_9 _ (List.mem_of_getElem? (i := 18) rfl))
theorem ml_8_72 : Cond.methodLink (RN 8) 72 yX6_release ∈ wsL_law := (wr_9 _ (List.mem_of_getElem? (i := 22) rfl))
theorem ml_8_76 : Cond.methodLink (RN 8) 76 yX7_release ∈ wsL_law := (wr_11 _ (List.mem_of_getElem? (i := 15) rfl))
theorem ml_8_77 : Cond.methodLink (RN 8) 77 yL_tick ∈ wsL_law := (wr_12 _ (List.mem_of_getElem? (i := 10) rfl))
theorem ml_8_80 : Cond.methodLink (RN 8) 80 yX7_tick ∈ wsL_law := (wr_17 _ (List.mem_of_getElem? (i := 16) rfl))
theorem ml_8_81 : Cond.methodLink (RN 8) 81 yX6_seen ∈ wsL_law := (wr_19 _ (List.mem_of_getElem? (i := 16) rfl))
theorem ml_8_84 : Cond.methodLink (RN 8) 84 yX7_seen ∈ wsL_law := (wr_20 _ (List.mem_of_getElem? (i := 3) rfl))
theorem ml_8_85 : Cond.methodLink (RN 8) 85 yX6_held ∈ wsL_law := (wr_20 _ (List.mem_of_getElem? (i := 7) rfl))
theorem ml_8_88 : Cond.methodLink (RN 8) 88 yX7_held ∈ wsL_law := (wr_21 _ (List.mem_of_getElem? (i := 0) rfl))
theorem ml_8_89 : Cond.methodLink (RN 8) 89 yX6_event ∈ wsL_law := (wr_21 _ (List.mem_of_getElem? (i := 8) rfl))
theorem ml_8_92 : Cond.methodLink (RN 8) 92 yX7_event ∈ wsL_law := (wr_21 _ (List.mem_of_getElem? (i := 19) rfl))
theorem ml_8_93 : Cond.methodLink (RN 8) 93 yL_response ∈ wsL_law := (wr_21 _ (List.mem_of_getElem? (i := 23) rfl))
theorem ml_8_95 : Cond.methodLink (RN 8) 95 yX7_response ∈ wsL_law := (wr_23 _ (List.mem_of_getElem? (i := 7) rfl))
theorem ml_8_96 : Cond.methodLink (RN 8) 96 yX6_load ∈ wsL_law := (wr_23 _ (List.mem_of_getElem? (i := 23) rfl))
theorem ml_8_100 : Cond.methodLink (RN 8) 100 yX7_load ∈ wsL_law := (wr_24 _ (List.mem_of_getElem? (i := 3) rfl))
theorem ml_8_101 : Cond.methodLink (RN 8) 101 yX6_look ∈ wsL_law := (wr_24 _ (List.mem_of_getElem? (i := 7) rfl))
theorem ml_8_104 : Cond.methodLink (RN 8) 104 yX7_look ∈ wsL_law := (wr_24 _ (List.mem_of_getElem? (i := 12) rfl))
theorem cv_X0_sectionFrom : CalV M_X0_sectionFrom := ⟨(wr_23 _ (List.mem_of_getElem? (i := 0) rfl)), (wr_23 _ (List.mem_of_getElem? (i := 1) rfl)), (wr_5 _ (List.mem_of_getElem? (i := 0) rfl)), (wr_23 _ (List.mem_of_getElem? (i := 2) rfl)), rfl, rfl, by decide, rfl, by decide +kernel, by decide⟩
theorem cv_X1_passStep : CalV M_X1_passStep := ⟨(wr_14 _ (List.mem_of_getElem? (i := 21) rfl)), (wr_14 _ (List.mem_of_getElem? (i := 22) rfl)), (wr_5 _ (List.mem_of_getElem? (i := 4) rfl)), (wr_14 _ (List.mem_of_getElem? (i := 23) rfl)), rfl, rfl, by decide, rfl, by decide +kernel, by decide⟩
theorem ci_X0_init : CalI M_X0_init := ⟨(wr_5 _ (List.mem_of_getElem? (i := 16) rfl)), (wr_5 _ (List.mem_of_getElem? (i := 0) rfl)), (wr_5 _ (List.mem_of_getElem? (i := 17) rfl)), rfl, rfl, rfl, rfl, by decide, rfl, by decide +kernel, by decide⟩
theorem ci_X1_init : CalI M_X1_init := ⟨(wr_5 _ (List.mem_of_getElem? (i := 21) rfl)), (wr_5 _ (List.mem_of_getElem? (i := 4) rfl)), (wr_5 _ (List.mem_of_getElem? (i := 22) rfl)), rfl, rfl, rfl, rfl, by decide, rfl, by decide +kernel, by decide⟩
theorem ci_X4_init : CalI M_X4_init := ⟨(wr_6 _ (List.mem_of_getElem? (i := 1) rfl)), (wr_5 _ (List.mem_of_getElem? (i := 8) rfl)), (wr_6 _ (List.mem_of_getElem? (i := 2) rfl)), rfl, rfl, rfl, rfl, by decide, rfl, by decide +kernel, by decide⟩
theorem ci_X2_init : CalI M_X2_init := ⟨(wr_2 _ (List.mem_of_getElem? (i := 2) rfl)), (wr_1 _ (List.mem_of_getElem? (i := 23) rfl)), (wr_2 _ (List.mem_of_getElem? (i := 3) rfl)), rfl, rfl, rfl, rfl, by decide, rfl, by decide +kernel, by decide⟩
theorem cs_X6_within : CalS M_X6_within := ⟨(wr_4 _ (List.mem_of_getElem? (i := 16) rfl)), (wr_1 _ (List.mem_of_getElem? (i := 2) rfl)), Or.inl ⟨rfl, (wr_4 _ (List.mem_of_getElem? (i := 17) rfl))⟩, rfl, by decide, rfl, by decide +kernel⟩
theorem ci_X5_init : CalI M_X5_init := ⟨(wr_4 _ (List.mem_of_getElem? (i := 19) rfl)), (wr_4 _ (List.mem_of_getElem? (i := 14) rfl)), (wr_4 _ (List.mem_of_getElem? (i := 20) rfl)), rfl, rfl, rfl, rfl, by decide, rfl, by decide +kernel, by decide⟩
theorem cv_X6_isTask : CalV M_X6_isTask := ⟨(wr_7 _ (List.mem_of_getElem? (i := 0) rfl)), (wr_7 _ (List.mem_of_getElem? (i := 1) rfl)), (wr_1 _ (List.mem_of_getElem? (i := 2) rfl)), (wr_7 _ (List.mem_of_getElem? (i := 2) rfl)), rfl, rfl, by decide, rfl, by decide +kernel, by decide⟩
theorem ci_X3_init : CalI M_X3_init := ⟨(wr_7 _ (List.mem_of_getElem? (i := 22) rfl)), (wr_7 _ (List.mem_of_getElem? (i := 20) rfl)), (wr_7 _ (List.mem_of_getElem? (i := 23) rfl)), rfl, rfl, rfl, rfl, by decide, rfl, by decide +kernel, by decide⟩
theorem cv_X6_isStep : CalV M_X6_isStep := ⟨(wr_8 _ (List.mem_of_getElem? (i := 19) rfl)), (wr_8 _ (List.mem_of_getElem? (i := 20) rfl)), (wr_1 _ (List.mem_of_getElem? (i := 2) rfl)), (wr_8 _ (List.mem_of_getElem? (i := 21) rfl)), rfl, rfl, by decide, rfl, by decide +kernel, by decide⟩
theorem cv_X0_append : CalV M_X0_append := ⟨(wr_9 _ (List.mem_of_getElem? (i := 3) rfl)), (wr_9 _ (List.mem_of_getElem? (i := 4) rfl)), (wr_5 _ (List.mem_of_getElem? (i := 0) rfl)), (wr_9 _ (List.mem_of_getElem? (i := 5) rfl)), rfl, rfl, by decide, rfl, by decide +kernel, by decide⟩
theorem cv_X6_isMutex : CalV M_X6_isMutex := ⟨(wr_8 _ (List.mem_of_getElem? (i := 23) rfl)), (wr_9 _ (List.mem_of_getElem? (i := 0) rfl)), (wr_1 _ (List.mem_of_getElem? (i := 2) rfl)), (wr_9 _ (List.mem_of_getElem? (i := 1) rfl)), rfl, rfl, by decide, rfl, by decide +kernel, by decide⟩
theorem cv_X6_beginJob : CalV M_X6_beginJob := ⟨(wr_10 _ (List.mem_of_getElem? (i := 4) rfl)), (wr_10 _ (List.mem_of_getElem? (i := 5) rfl)), (wr_1 _ (List.mem_of_getElem? (i := 2) rfl)), (wr_10 _ (List.mem_of_getElem? (i := 6) rfl)), rfl, rfl, by decide, rfl, by decide +kernel, by decide⟩
theorem cv_X6_noteMisses : CalV M_X6_noteMisses := ⟨(wr_12 _ (List.mem_of_getElem? (i := 18) rfl)), (wr_12 _ (List.mem_of_getElem? (i := 19) rfl)), (wr_1 _ (List.mem_of_getElem? (i := 2) rfl)), (wr_12 _ (List.mem_of_getElem? (i := 20) rfl)), rfl, rfl, by decide, rfl, by decide +kernel, by decide⟩
theorem cv_X6_releasePeriodic : CalV M_X6_releasePeriodic := ⟨(wr_15 _ (List.mem_of_getElem? (i := 1) rfl)), (wr_15 _ (List.mem_of_getElem? (i := 2) rfl)), (wr_1 _ (List.mem_of_getElem? (i := 2) rfl)), (wr_15 _ (List.mem_of_getElem? (i := 3) rfl)), rfl, rfl, by decide, rfl, by decide +kernel, by decide⟩
theorem cv_X6_settle : CalV M_X6_settle := ⟨(wr_15 _ (List.mem_of_getElem? (i := 9) rfl)), (wr_15 _ (List.mem_of_getElem? (i := 10) rfl)), (wr_1 _ (List.mem_of_getElem? (i := 2) rfl)), (wr_15 _ (List.mem_of_getElem? (i := 11) rfl)), rfl, rfl, by decide, rfl, by decide +kernel, by decide⟩
theorem cv_X6_workOneUnit : CalV M_X6_workOneUnit := ⟨(wr_17 _ (List.mem_of_getElem? (i := 9) rfl)), (wr_17 _ (List.mem_of_getElem? (i := 10) rfl)), (wr_1 _ (List.mem_of_getElem? (i := 2) rfl)), (wr_17 _ (List.mem_of_getElem? (i := 11) rfl)), rfl, rfl, by decide, rfl, by decide +kernel, by decide⟩
theorem cv_X6_note : CalV M_X6_note := ⟨(wr_10 _ (List.mem_of_getElem? (i := 14) rfl)), (wr_10 _ (List.mem_of_getElem? (i := 15) rfl)), (wr_1 _ (List.mem_of_getElem? (i := 2) rfl)), (wr_10 _ (List.mem_of_getElem? (i := 16) rfl)), rfl, rfl, by decide, rfl, by decide +kernel, by decide⟩
theorem cv_X6_endJob : CalV M_X6_endJob := ⟨(wr_13 _ (List.mem_of_getElem? (i := 1) rfl)), (wr_13 _ (List.mem_of_getElem? (i := 2) rfl)), (wr_1 _ (List.mem_of_getElem? (i := 2) rfl)), (wr_13 _ (List.mem_of_getElem? (i := 3) rfl)), rfl, rfl, by decide, rfl, by decide +kernel, by decide⟩
theorem cv_X5_isPeriodicAt : CalV M_X5_isPeriodicAt := ⟨(wr_15 _ (List.mem_of_getElem? (i := 5) rfl)), (wr_15 _ (List.mem_of_getElem? (i := 6) rfl)), (wr_4 _ (List.mem_of_getElem? (i := 14) rfl)), (wr_15 _ (List.mem_of_getElem? (i := 7) rfl)), rfl, rfl, by decide, rfl, by decide +kernel, by decide⟩
theorem cv_X6_nextChange : CalV M_X6_nextChange := ⟨(wr_11 _ (List.mem_of_getElem? (i := 1) rfl)), (wr_11 _ (List.mem_of_getElem? (i := 2) rfl)), (wr_1 _ (List.mem_of_getElem? (i := 2) rfl)), (wr_11 _ (List.mem_of_getElem? (i := 3) rfl)), rfl, rfl, by decide, rfl, by decide +kernel, by decide⟩
theorem cv_X1_begin : CalV M_X1_begin := ⟨(wr_11 _ (List.mem_of_getElem? (i := 6) rfl)), (wr_11 _ (List.mem_of_getElem? (i := 7) rfl)), (wr_5 _ (List.mem_of_getElem? (i := 4) rfl)), (wr_11 _ (List.mem_of_getElem? (i := 8) rfl)), rfl, rfl, by decide, rfl, by decide +kernel, by decide⟩
theorem cv_X6_mostUrgentReady : CalV M_X6_mostUrgentReady := ⟨(wr_15 _ (List.mem_of_getElem? (i := 13) rfl)), (wr_15 _ (List.mem_of_getElem? (i := 14) rfl)), (wr_1 _ (List.mem_of_getElem? (i := 2) rfl)), (wr_15 _ (List.mem_of_getElem? (i := 15) rfl)), rfl, rfl, by decide, rfl, by decide +kernel, by decide⟩
theorem cv_X5_isAtWork : CalV M_X5_isAtWork := ⟨(wr_15 _ (List.mem_of_getElem? (i := 23) rfl)), (wr_16 _ (List.mem_of_getElem? (i := 0) rfl)), (wr_4 _ (List.mem_of_getElem? (i := 14) rfl)), (wr_16 _ (List.mem_of_getElem? (i := 1) rfl)), rfl, rfl, by decide, rfl, by decide +kernel, by decide⟩
theorem cv_X6_goOn : CalV M_X6_goOn := ⟨(wr_16 _ (List.mem_of_getElem? (i := 6) rfl)), (wr_16 _ (List.mem_of_getElem? (i := 7) rfl)), (wr_1 _ (List.mem_of_getElem? (i := 2) rfl)), (wr_16 _ (List.mem_of_getElem? (i := 8) rfl)), rfl, rfl, by decide, rfl, by decide +kernel, by decide⟩
theorem cv_X6_stepFails : CalV M_X6_stepFails := ⟨(wr_16 _ (List.mem_of_getElem? (i := 14) rfl)), (wr_16 _ (List.mem_of_getElem? (i := 15) rfl)), (wr_1 _ (List.mem_of_getElem? (i := 2) rfl)), (wr_16 _ (List.mem_of_getElem? (i := 16) rfl)), rfl, rfl, by decide, rfl, by decide +kernel, by decide⟩
theorem cv_X6_giveAway : CalV M_X6_giveAway := ⟨(wr_13 _ (List.mem_of_getElem? (i := 11) rfl)), (wr_13 _ (List.mem_of_getElem? (i := 12) rfl)), (wr_1 _ (List.mem_of_getElem? (i := 2) rfl)), (wr_13 _ (List.mem_of_getElem? (i := 13) rfl)), rfl, rfl, by decide, rfl, by decide +kernel, by decide⟩
theorem cv_X1_blockAt : CalV M_X1_blockAt := ⟨(wr_16 _ (List.mem_of_getElem? (i := 18) rfl)), (wr_16 _ (List.mem_of_getElem? (i := 19) rfl)), (wr_5 _ (List.mem_of_getElem? (i := 4) rfl)), (wr_16 _ (List.mem_of_getElem? (i := 20) rfl)), rfl, rfl, by decide, rfl, by decide +kernel, by decide⟩
theorem cv_X4_addDone : CalV M_X4_addDone := ⟨(wr_16 _ (List.mem_of_getElem? (i := 23) rfl)), (wr_17 _ (List.mem_of_getElem? (i := 0) rfl)), (wr_5 _ (List.mem_of_getElem? (i := 8) rfl)), (wr_17 _ (List.mem_of_getElem? (i := 1) rfl)), rfl, rfl, by decide, rfl, by decide +kernel, by decide⟩
theorem cv_X1_end : CalV M_X1_end := ⟨(wr_13 _ (List.mem_of_getElem? (i := 6) rfl)), (wr_13 _ (List.mem_of_getElem? (i := 7) rfl)), (wr_5 _ (List.mem_of_getElem? (i := 4) rfl)), (wr_13 _ (List.mem_of_getElem? (i := 8) rfl)), rfl, rfl, by decide, rfl, by decide +kernel, by decide⟩
theorem cv_X6_rankTasks : CalV M_X6_rankTasks := ⟨(wr_13 _ (List.mem_of_getElem? (i := 15) rfl)), (wr_13 _ (List.mem_of_getElem? (i := 16) rfl)), (wr_1 _ (List.mem_of_getElem? (i := 2) rfl)), (wr_13 _ (List.mem_of_getElem? (i := 17) rfl)), rfl, rfl, by decide, rfl, by decide +kernel, by decide⟩
theorem cv_X6_heirOf : CalV M_X6_heirOf := ⟨(wr_14 _ (List.mem_of_getElem? (i := 8) rfl)), (wr_14 _ (List.mem_of_getElem? (i := 9) rfl)), (wr_1 _ (List.mem_of_getElem? (i := 2) rfl)), (wr_14 _ (List.mem_of_getElem? (i := 10) rfl)), rfl, rfl, by decide, rfl, by decide +kernel, by decide⟩
theorem cv_X1_resume : CalV M_X1_resume := ⟨(wr_14 _ (List.mem_of_getElem? (i := 17) rfl)), (wr_14 _ (List.mem_of_getElem? (i := 18) rfl)), (wr_5 _ (List.mem_of_getElem? (i := 4) rfl)), (wr_14 _ (List.mem_of_getElem? (i := 19) rfl)), rfl, rfl, by decide, rfl, by decide +kernel, by decide⟩
theorem cv_X1_inheritsAhead : CalV M_X1_inheritsAhead := ⟨(wr_14 _ (List.mem_of_getElem? (i := 12) rfl)), (wr_14 _ (List.mem_of_getElem? (i := 13) rfl)), (wr_5 _ (List.mem_of_getElem? (i := 4) rfl)), (wr_14 _ (List.mem_of_getElem? (i := 14) rfl)), rfl, rfl, by decide, rfl, by decide +kernel, by decide⟩
theorem cv_X2_add : CalV M_X2_add := ⟨(wr_10 _ (List.mem_of_getElem? (i := 19) rfl)), (wr_10 _ (List.mem_of_getElem? (i := 20) rfl)), (wr_1 _ (List.mem_of_getElem? (i := 23) rfl)), (wr_10 _ (List.mem_of_getElem? (i := 21) rfl)), rfl, rfl, by decide, rfl, by decide +kernel, by decide⟩
theorem cv_X6_goesAhead : CalV M_X6_goesAhead := ⟨(wr_15 _ (List.mem_of_getElem? (i := 17) rfl)), (wr_15 _ (List.mem_of_getElem? (i := 18) rfl)), (wr_1 _ (List.mem_of_getElem? (i := 2) rfl)), (wr_15 _ (List.mem_of_getElem? (i := 19) rfl)), rfl, rfl, by decide, rfl, by decide +kernel, by decide⟩
theorem cv_X6_liftToCeilings : CalV M_X6_liftToCeilings := ⟨(wr_13 _ (List.mem_of_getElem? (i := 21) rfl)), (wr_13 _ (List.mem_of_getElem? (i := 22) rfl)), (wr_1 _ (List.mem_of_getElem? (i := 2) rfl)), (wr_13 _ (List.mem_of_getElem? (i := 23) rfl)), rfl, rfl, by decide, rfl, by decide +kernel, by decide⟩
theorem cv_X6_lendOnce : CalV M_X6_lendOnce := ⟨(wr_14 _ (List.mem_of_getElem? (i := 3) rfl)), (wr_14 _ (List.mem_of_getElem? (i := 4) rfl)), (wr_1 _ (List.mem_of_getElem? (i := 2) rfl)), (wr_14 _ (List.mem_of_getElem? (i := 5) rfl)), rfl, rfl, by decide, rfl, by decide +kernel, by decide⟩
theorem cv_X6_urgencyOf : CalV M_X6_urgencyOf := ⟨(wr_20 _ (List.mem_of_getElem? (i := 0) rfl)), (wr_20 _ (List.mem_of_getElem? (i := 1) rfl)), (wr_1 _ (List.mem_of_getElem? (i := 2) rfl)), (wr_20 _ (List.mem_of_getElem? (i := 2) rfl)), rfl, rfl, by decide, rfl, by decide +kernel, by decide⟩
theorem cv_X6_countBlockedAt : CalV M_X6_countBlockedAt := ⟨(wr_20 _ (List.mem_of_getElem? (i := 12) rfl)), (wr_20 _ (List.mem_of_getElem? (i := 13) rfl)), (wr_1 _ (List.mem_of_getElem? (i := 2) rfl)), (wr_20 _ (List.mem_of_getElem? (i := 14) rfl)), rfl, rfl, by decide, rfl, by decide +kernel, by decide⟩
theorem cv_X6_ceilOf : CalV M_X6_ceilOf := ⟨(wr_20 _ (List.mem_of_getElem? (i := 16) rfl)), (wr_20 _ (List.mem_of_getElem? (i := 17) rfl)), (wr_1 _ (List.mem_of_getElem? (i := 2) rfl)), (wr_20 _ (List.mem_of_getElem? (i := 18) rfl)), rfl, rfl, by decide, rfl, by decide +kernel, by decide⟩
theorem cv_X2_answer : CalV M_X2_answer := ⟨(wr_21 _ (List.mem_of_getElem? (i := 13) rfl)), (wr_21 _ (List.mem_of_getElem? (i := 14) rfl)), (wr_1 _ (List.mem_of_getElem? (i := 23) rfl)), (wr_21 _ (List.mem_of_getElem? (i := 15) rfl)), rfl, rfl, by decide, rfl, by decide +kernel, by decide⟩
theorem cv_X0_cost : CalV M_X0_cost := ⟨(wr_22 _ (List.mem_of_getElem? (i := 7) rfl)), (wr_22 _ (List.mem_of_getElem? (i := 8) rfl)), (wr_5 _ (List.mem_of_getElem? (i := 0) rfl)), (wr_22 _ (List.mem_of_getElem? (i := 9) rfl)), rfl, rfl, by decide, rfl, by decide +kernel, by decide⟩
theorem cv_X6_blockingOf : CalV M_X6_blockingOf := ⟨(wr_22 _ (List.mem_of_getElem? (i := 11) rfl)), (wr_22 _ (List.mem_of_getElem? (i := 12) rfl)), (wr_1 _ (List.mem_of_getElem? (i := 2) rfl)), (wr_22 _ (List.mem_of_getElem? (i := 13) rfl)), rfl, rfl, by decide, rfl, by decide +kernel, by decide⟩
theorem cv_X6_interferenceWith : CalV M_X6_interferenceWith := ⟨(wr_23 _ (List.mem_of_getElem? (i := 4) rfl)), (wr_23 _ (List.mem_of_getElem? (i := 5) rfl)), (wr_1 _ (List.mem_of_getElem? (i := 2) rfl)), (wr_23 _ (List.mem_of_getElem? (i := 6) rfl)), rfl, rfl, by decide, rfl, by decide +kernel, by decide⟩
theorem cv_X6_greatestSectionBelow : CalV M_X6_greatestSectionBelow := ⟨(wr_22 _ (List.mem_of_getElem? (i := 15) rfl)), (wr_22 _ (List.mem_of_getElem? (i := 16) rfl)), (wr_1 _ (List.mem_of_getElem? (i := 2) rfl)), (wr_22 _ (List.mem_of_getElem? (i := 17) rfl)), rfl, rfl, by decide, rfl, by decide +kernel, by decide⟩
theorem cv_X0_greatestSection : CalV M_X0_greatestSection := ⟨(wr_22 _ (List.mem_of_getElem? (i := 19) rfl)), (wr_22 _ (List.mem_of_getElem? (i := 20) rfl)), (wr_5 _ (List.mem_of_getElem? (i := 0) rfl)), (wr_22 _ (List.mem_of_getElem? (i := 21) rfl)), rfl, rfl, by decide, rfl, by decide +kernel, by decide⟩
theorem cv_X0_hasLockOf : CalV M_X0_hasLockOf := ⟨(wr_20 _ (List.mem_of_getElem? (i := 21) rfl)), (wr_20 _ (List.mem_of_getElem? (i := 22) rfl)), (wr_5 _ (List.mem_of_getElem? (i := 0) rfl)), (wr_20 _ (List.mem_of_getElem? (i := 23) rfl)), rfl, rfl, by decide, rfl, by decide +kernel, by decide⟩
theorem cs_X7_in : CalS M_X7_in := ⟨(wr_6 _ (List.mem_of_getElem? (i := 12) rfl)), (wr_1 _ (List.mem_of_getElem? (i := 5) rfl)), Or.inl ⟨rfl, (wr_6 _ (List.mem_of_getElem? (i := 13) rfl))⟩, rfl, by decide, rfl, by decide +kernel⟩
theorem cv_X7_isTask : CalV M_X7_isTask := ⟨(wr_7 _ (List.mem_of_getElem? (i := 8) rfl)), (wr_7 _ (List.mem_of_getElem? (i := 9) rfl)), (wr_1 _ (List.mem_of_getElem? (i := 5) rfl)), (wr_7 _ (List.mem_of_getElem? (i := 10) rfl)), rfl, rfl, by decide, rfl, by decide +kernel, by decide⟩
theorem cv_X7_better : CalV M_X7_better := ⟨(wr_18 _ (List.mem_of_getElem? (i := 17) rfl)), (wr_18 _ (List.mem_of_getElem? (i := 18) rfl)), (wr_1 _ (List.mem_of_getElem? (i := 5) rfl)), (wr_18 _ (List.mem_of_getElem? (i := 19) rfl)), rfl, rfl, by decide, rfl, by decide +kernel, by decide⟩
theorem cv_X7_weigh : CalV M_X7_weigh := ⟨(wr_18 _ (List.mem_of_getElem? (i := 13) rfl)), (wr_18 _ (List.mem_of_getElem? (i := 14) rfl)), (wr_1 _ (List.mem_of_getElem? (i := 5) rfl)), (wr_18 _ (List.mem_of_getElem? (i := 15) rfl)), rfl, rfl, by decide, rfl, by decide +kernel, by decide⟩
theorem cv_X7_note : CalV M_X7_note := ⟨(wr_12 _ (List.mem_of_getElem? (i := 1) rfl)), (wr_12 _ (List.mem_of_getElem? (i := 2) rfl)), (wr_1 _ (List.mem_of_getElem? (i := 5) rfl)), (wr_12 _ (List.mem_of_getElem? (i := 3) rfl)), rfl, rfl, by decide, rfl, by decide +kernel, by decide⟩
theorem cv_X7_ready : CalV M_X7_ready := ⟨(wr_12 _ (List.mem_of_getElem? (i := 6) rfl)), (wr_12 _ (List.mem_of_getElem? (i := 7) rfl)), (wr_1 _ (List.mem_of_getElem? (i := 5) rfl)), (wr_12 _ (List.mem_of_getElem? (i := 8) rfl)), rfl, rfl, by decide, rfl, by decide +kernel, by decide⟩
theorem cv_X7_give : CalV M_X7_give := ⟨(wr_18 _ (List.mem_of_getElem? (i := 9) rfl)), (wr_18 _ (List.mem_of_getElem? (i := 10) rfl)), (wr_1 _ (List.mem_of_getElem? (i := 5) rfl)), (wr_18 _ (List.mem_of_getElem? (i := 11) rfl)), rfl, rfl, by decide, rfl, by decide +kernel, by decide⟩
theorem cv_X7_atWork : CalV M_X7_atWork := ⟨(wr_19 _ (List.mem_of_getElem? (i := 1) rfl)), (wr_19 _ (List.mem_of_getElem? (i := 2) rfl)), (wr_1 _ (List.mem_of_getElem? (i := 5) rfl)), (wr_19 _ (List.mem_of_getElem? (i := 3) rfl)), rfl, rfl, by decide, rfl, by decide +kernel, by decide⟩
theorem cv_X7_over : CalV M_X7_over := ⟨(wr_18 _ (List.mem_of_getElem? (i := 5) rfl)), (wr_18 _ (List.mem_of_getElem? (i := 6) rfl)), (wr_1 _ (List.mem_of_getElem? (i := 5) rfl)), (wr_18 _ (List.mem_of_getElem? (i := 7) rfl)), rfl, rfl, by decide, rfl, by decide +kernel, by decide⟩
theorem cv_X7_lock : CalV M_X7_lock := ⟨(wr_19 _ (List.mem_of_getElem? (i := 9) rfl)), (wr_19 _ (List.mem_of_getElem? (i := 10) rfl)), (wr_1 _ (List.mem_of_getElem? (i := 5) rfl)), (wr_19 _ (List.mem_of_getElem? (i := 11) rfl)), rfl, rfl, by decide, rfl, by decide +kernel, by decide⟩
theorem cv_X7_begin : CalV M_X7_begin := ⟨(wr_11 _ (List.mem_of_getElem? (i := 20) rfl)), (wr_11 _ (List.mem_of_getElem? (i := 21) rfl)), (wr_1 _ (List.mem_of_getElem? (i := 5) rfl)), (wr_11 _ (List.mem_of_getElem? (i := 22) rfl)), rfl, rfl, by decide, rfl, by decide +kernel, by decide⟩
theorem cv_X7_goOn : CalV M_X7_goOn := ⟨(wr_19 _ (List.mem_of_getElem? (i := 5) rfl)), (wr_19 _ (List.mem_of_getElem? (i := 6) rfl)), (wr_1 _ (List.mem_of_getElem? (i := 5) rfl)), (wr_19 _ (List.mem_of_getElem? (i := 7) rfl)), rfl, rfl, by decide, rfl, by decide +kernel, by decide⟩
theorem cv_X7_arrivals : CalV M_X7_arrivals := ⟨(wr_18 _ (List.mem_of_getElem? (i := 1) rfl)), (wr_18 _ (List.mem_of_getElem? (i := 2) rfl)), (wr_1 _ (List.mem_of_getElem? (i := 5) rfl)), (wr_18 _ (List.mem_of_getElem? (i := 3) rfl)), rfl, rfl, by decide, rfl, by decide +kernel, by decide⟩
theorem cv_X7_first : CalV M_X7_first := ⟨(wr_18 _ (List.mem_of_getElem? (i := 21) rfl)), (wr_18 _ (List.mem_of_getElem? (i := 22) rfl)), (wr_1 _ (List.mem_of_getElem? (i := 5) rfl)), (wr_18 _ (List.mem_of_getElem? (i := 23) rfl)), rfl, rfl, by decide, rfl, by decide +kernel, by decide⟩
theorem cv_X7_work : CalV M_X7_work := ⟨(wr_19 _ (List.mem_of_getElem? (i := 13) rfl)), (wr_19 _ (List.mem_of_getElem? (i := 14) rfl)), (wr_1 _ (List.mem_of_getElem? (i := 5) rfl)), (wr_19 _ (List.mem_of_getElem? (i := 15) rfl)), rfl, rfl, by decide, rfl, by decide +kernel, by decide⟩
theorem cv_X7_pass : CalV M_X7_pass := ⟨(wr_17 _ (List.mem_of_getElem? (i := 21) rfl)), (wr_17 _ (List.mem_of_getElem? (i := 22) rfl)), (wr_1 _ (List.mem_of_getElem? (i := 5) rfl)), (wr_17 _ (List.mem_of_getElem? (i := 23) rfl)), rfl, rfl, by decide, rfl, by decide +kernel, by decide⟩
theorem cv_X7_ceil : CalV M_X7_ceil := ⟨(wr_21 _ (List.mem_of_getElem? (i := 5) rfl)), (wr_21 _ (List.mem_of_getElem? (i := 6) rfl)), (wr_1 _ (List.mem_of_getElem? (i := 5) rfl)), (wr_21 _ (List.mem_of_getElem? (i := 7) rfl)), rfl, rfl, by decide, rfl, by decide +kernel, by decide⟩
theorem cv_X7_section : CalV M_X7_section := ⟨(wr_23 _ (List.mem_of_getElem? (i := 20) rfl)), (wr_23 _ (List.mem_of_getElem? (i := 21) rfl)), (wr_1 _ (List.mem_of_getElem? (i := 5) rfl)), (wr_23 _ (List.mem_of_getElem? (i := 22) rfl)), rfl, rfl, by decide, rfl, by decide +kernel, by decide⟩
theorem cv_X7_cost : CalV M_X7_cost := ⟨(wr_23 _ (List.mem_of_getElem? (i := 12) rfl)), (wr_23 _ (List.mem_of_getElem? (i := 13) rfl)), (wr_1 _ (List.mem_of_getElem? (i := 5) rfl)), (wr_23 _ (List.mem_of_getElem? (i := 14) rfl)), rfl, rfl, by decide, rfl, by decide +kernel, by decide⟩
theorem cv_X7_blocking : CalV M_X7_blocking := ⟨(wr_23 _ (List.mem_of_getElem? (i := 16) rfl)), (wr_23 _ (List.mem_of_getElem? (i := 17) rfl)), (wr_1 _ (List.mem_of_getElem? (i := 5) rfl)), (wr_23 _ (List.mem_of_getElem? (i := 18) rfl)), rfl, rfl, by decide, rfl, by decide +kernel, by decide⟩
theorem cv_X6_task : CalV M_X6_task := ⟨(wr_4 _ (List.mem_of_getElem? (i := 4) rfl)), (wr_4 _ (List.mem_of_getElem? (i := 5) rfl)), (wr_1 _ (List.mem_of_getElem? (i := 2) rfl)), (wr_4 _ (List.mem_of_getElem? (i := 6) rfl)), rfl, rfl, by decide, rfl, by decide +kernel, by decide⟩
theorem cv_X6_mutex : CalV M_X6_mutex := ⟨(wr_7 _ (List.mem_of_getElem? (i := 15) rfl)), (wr_7 _ (List.mem_of_getElem? (i := 16) rfl)), (wr_1 _ (List.mem_of_getElem? (i := 2) rfl)), (wr_7 _ (List.mem_of_getElem? (i := 17) rfl)), rfl, rfl, by decide, rfl, by decide +kernel, by decide⟩
theorem cv_X6_step : CalV M_X6_step := ⟨(wr_8 _ (List.mem_of_getElem? (i := 13) rfl)), (wr_8 _ (List.mem_of_getElem? (i := 14) rfl)), (wr_1 _ (List.mem_of_getElem? (i := 2) rfl)), (wr_8 _ (List.mem_of_getElem? (i := 15) rfl)), rfl, rfl, by decide, rfl, by decide +kernel, by decide⟩
theorem cv_X6_start : CalV M_X6_start := ⟨(wr_9 _ (List.mem_of_getElem? (i := 15) rfl)), (wr_9 _ (List.mem_of_getElem? (i := 16) rfl)), (wr_1 _ (List.mem_of_getElem? (i := 2) rfl)), (wr_9 _ (List.mem_of_getElem? (i := 17) rfl)), rfl, rfl, by decide, rfl, by decide +kernel, by decide⟩
theorem cv_X6_tick : CalV M_X6_tick := ⟨(wr_12 _ (List.mem_of_getElem? (i := 14) rfl)), (wr_12 _ (List.mem_of_getElem? (i := 15) rfl)), (wr_1 _ (List.mem_of_getElem? (i := 2) rfl)), (wr_12 _ (List.mem_of_getElem? (i := 16) rfl)), rfl, rfl, by decide, rfl, by decide +kernel, by decide⟩
theorem cv_X6_response : CalV M_X6_response := ⟨(wr_22 _ (List.mem_of_getElem? (i := 3) rfl)), (wr_22 _ (List.mem_of_getElem? (i := 4) rfl)), (wr_1 _ (List.mem_of_getElem? (i := 2) rfl)), (wr_22 _ (List.mem_of_getElem? (i := 5) rfl)), rfl, rfl, by decide, rfl, by decide +kernel, by decide⟩
theorem cs_L_cell : CalS M_L_cell := ⟨(wr_1 _ (List.mem_of_getElem? (i := 8) rfl)), (wr_1 _ (List.mem_of_getElem? (i := 9) rfl)), Or.inl ⟨rfl, (wr_1 _ (List.mem_of_getElem? (i := 10) rfl))⟩, rfl, by decide, rfl, by decide +kernel⟩
theorem ci_X6_init : CalI M_X6_init := ⟨(wr_1 _ (List.mem_of_getElem? (i := 12) rfl)), (wr_1 _ (List.mem_of_getElem? (i := 2) rfl)), (wr_1 _ (List.mem_of_getElem? (i := 13) rfl)), rfl, rfl, rfl, rfl, by decide, rfl, by decide +kernel, by decide⟩
theorem ci_X7_init : CalI M_X7_init := ⟨(wr_2 _ (List.mem_of_getElem? (i := 10) rfl)), (wr_1 _ (List.mem_of_getElem? (i := 5) rfl)), (wr_2 _ (List.mem_of_getElem? (i := 11) rfl)), rfl, rfl, rfl, rfl, by decide, rfl, by decide +kernel, by decide⟩
theorem cs_L_task : CalS M_L_task := ⟨(wr_3 _ (List.mem_of_getElem? (i := 23) rfl)), (wr_1 _ (List.mem_of_getElem? (i := 9) rfl)), Or.inr ⟨by decide, (wr_4 _ (List.mem_of_getElem? (i := 0) rfl))⟩, rfl, by decide, rfl, by decide +kernel⟩
theorem cv_X7_task : CalV M_X7_task := ⟨(wr_6 _ (List.mem_of_getElem? (i := 5) rfl)), (wr_6 _ (List.mem_of_getElem? (i := 6) rfl)), (wr_1 _ (List.mem_of_getElem? (i := 5) rfl)), (wr_6 _ (List.mem_of_getElem? (i := 7) rfl)), rfl, rfl, by decide, rfl, by decide +kernel, by decide⟩
theorem cv_X7_thrown : CalV M_X7_thrown := ⟨(wr_6 _ (List.mem_of_getElem? (i := 15) rfl)), (wr_6 _ (List.mem_of_getElem? (i := 16) rfl)), (wr_1 _ (List.mem_of_getElem? (i := 5) rfl)), (wr_6 _ (List.mem_of_getElem? (i := 17) rfl)), rfl, rfl, by decide, rfl, by decide +kernel, by decide⟩
theorem cv_X6_strict : CalV M_X6_strict := ⟨(wr_6 _ (List.mem_of_getElem? (i := 19) rfl)), (wr_6 _ (List.mem_of_getElem? (i := 20) rfl)), (wr_1 _ (List.mem_of_getElem? (i := 2) rfl)), (wr_6 _ (List.mem_of_getElem? (i := 21) rfl)), rfl, rfl, by decide, rfl, by decide +kernel, by decide⟩
theorem cv_X7_strict : CalV M_X7_strict := ⟨(wr_7 _ (List.mem_of_getElem? (i := 4) rfl)), (wr_7 _ (List.mem_of_getElem? (i := 5) rfl)), (wr_1 _ (List.mem_of_getElem? (i := 5) rfl)), (wr_7 _ (List.mem_of_getElem? (i := 6) rfl)), rfl, rfl, by decide, rfl, by decide +kernel, by decide⟩
theorem cs_L_mutex : CalS M_L_mutex := ⟨(wr_7 _ (List.mem_of_getElem? (i := 12) rfl)), (wr_1 _ (List.mem_of_getElem? (i := 9) rfl)), Or.inr ⟨by decide, (wr_7 _ (List.mem_of_getElem? (i := 13) rfl))⟩, rfl, by decide, rfl, by decide +kernel⟩
theorem cv_X7_mutex : CalV M_X7_mutex := ⟨(wr_8 _ (List.mem_of_getElem? (i := 5) rfl)), (wr_8 _ (List.mem_of_getElem? (i := 6) rfl)), (wr_1 _ (List.mem_of_getElem? (i := 5) rfl)), (wr_8 _ (List.mem_of_getElem? (i := 7) rfl)), rfl, rfl, by decide, rfl, by decide +kernel, by decide⟩
theorem cs_L_step : CalS M_L_step := ⟨(wr_8 _ (List.mem_of_getElem? (i := 10) rfl)), (wr_1 _ (List.mem_of_getElem? (i := 9) rfl)), Or.inr ⟨by decide, (wr_8 _ (List.mem_of_getElem? (i := 11) rfl))⟩, rfl, by decide, rfl, by decide +kernel⟩
theorem cv_X7_step : CalV M_X7_step := ⟨(wr_9 _ (List.mem_of_getElem? (i := 8) rfl)), (wr_9 _ (List.mem_of_getElem? (i := 9) rfl)), (wr_1 _ (List.mem_of_getElem? (i := 5) rfl)), (wr_9 _ (List.mem_of_getElem? (i := 10) rfl)), rfl, rfl, by decide, rfl, by decide +kernel, by decide⟩
theorem cs_L_start : CalS M_L_start := ⟨(wr_9 _ (List.mem_of_getElem? (i := 12) rfl)), (wr_1 _ (List.mem_of_getElem? (i := 9) rfl)), Or.inr ⟨by decide, (wr_9 _ (List.mem_of_getElem? (i := 13) rfl))⟩, rfl, by decide, rfl, by decide +kernel⟩
theorem cv_X7_start : CalV M_X7_start := ⟨(wr_9 _ (List.mem_of_getElem? (i := 19) rfl)), (wr_9 _ (List.mem_of_getElem? (i := 20) rfl)), (wr_1 _ (List.mem_of_getElem? (i := 5) rfl)), (wr_9 _ (List.mem_of_getElem? (i := 21) rfl)), rfl, rfl, by decide, rfl, by decide +kernel, by decide⟩
theorem cv_X6_release : CalV M_X6_release := ⟨(wr_9 _ (List.mem_of_getElem? (i := 23) rfl)), (wr_10 _ (List.mem_of_getElem? (i := 0) rfl)), (wr_1 _ (List.mem_of_getElem? (i := 2) rfl)), (wr_10 _ (List.mem_of_getElem? (i := 1) rfl)), rfl, rfl, by decide, rfl, by decide +kernel, by decide⟩
theorem cv_X7_release : CalV M_X7_release := ⟨(wr_11 _ (List.mem_of_getElem? (i := 16) rfl)), (wr_11 _ (List.mem_of_getElem? (i := 17) rfl)), (wr_1 _ (List.mem_of_getElem? (i := 5) rfl)), (wr_11 _ (List.mem_of_getElem? (i := 18) rfl)), rfl, rfl, by decide, rfl, by decide +kernel, by decide⟩
theorem cs_L_tick : CalS M_L_tick := ⟨(wr_12 _ (List.mem_of_getElem? (i := 11) rfl)), (wr_1 _ (List.mem_of_getElem? (i := 9) rfl)), Or.inr ⟨by decide, (wr_12 _ (List.mem_of_getElem? (i := 12) rfl))⟩, rfl, by decide, rfl, by decide +kernel⟩
theorem cv_X7_tick : CalV M_X7_tick := ⟨(wr_17 _ (List.mem_of_getElem? (i := 17) rfl)), (wr_17 _ (List.mem_of_getElem? (i := 18) rfl)), (wr_1 _ (List.mem_of_getElem? (i := 5) rfl)), (wr_17 _ (List.mem_of_getElem? (i := 19) rfl)), rfl, rfl, by decide, rfl, by decide +kernel, by decide⟩
theorem cv_X6_seen : CalV M_X6_seen := ⟨(wr_19 _ (List.mem_of_getElem? (i := 17) rfl)), (wr_19 _ (List.mem_of_getElem? (i := 18) rfl)), (wr_1 _ (List.mem_of_getElem? (i := 2) rfl)), (wr_19 _ (List.mem_of_getElem? (i := 19) rfl)), rfl, rfl, by decide, rfl, by decide +kernel, by decide⟩
theorem cv_X7_seen : CalV M_X7_seen := ⟨(wr_20 _ (List.mem_of_getElem? (i := 4) rfl)), (wr_20 _ (List.mem_of_getElem? (i := 5) rfl)), (wr_1 _ (List.mem_of_getElem? (i := 5) rfl)), (wr_20 _ (List.mem_of_getElem? (i := 6) rfl)), rfl, rfl, by decide, rfl, by decide +kernel, by decide⟩
theorem cv_X6_held : CalV M_X6_held := ⟨(wr_20 _ (List.mem_of_getElem? (i := 8) rfl)), (wr_20 _ (List.mem_of_getElem? (i := 9) rfl)), (wr_1 _ (List.mem_of_getElem? (i := 2) rfl)), (wr_20 _ (List.mem_of_getElem? (i := 10) rfl)), rfl, rfl, by decide, rfl, by decide +kernel, by decide⟩
theorem cv_X7_held : CalV M_X7_held := ⟨(wr_21 _ (List.mem_of_getElem? (i := 1) rfl)), (wr_21 _ (List.mem_of_getElem? (i := 2) rfl)), (wr_1 _ (List.mem_of_getElem? (i := 5) rfl)), (wr_21 _ (List.mem_of_getElem? (i := 3) rfl)), rfl, rfl, by decide, rfl, by decide +kernel, by decide⟩
theorem cv_X6_event : CalV M_X6_event := ⟨(wr_21 _ (List.mem_of_getElem? (i := 9) rfl)), (wr_21 _ (List.mem_of_getElem? (i := 10) rfl)), (wr_1 _ (List.mem_of_getElem? (i := 2) rfl)), (wr_21 _ (List.mem_of_getElem? (i := 11) rfl)), rfl, rfl, by decide, rfl, by decide +kernel, by decide⟩
theorem cv_X7_event : CalV M_X7_event := ⟨(wr_21 _ (List.mem_of_getElem? (i := 20) rfl)), (wr_21 _ (List.mem_of_getElem? (i := 21) rfl)), (wr_1 _ (List.mem_of_getElem? (i := 5) rfl)), (wr_21 _ (List.mem_of_getElem? (i := 22) rfl)), rfl, rfl, by decide, rfl, by decide +kernel, by decide⟩
theorem cs_L_response : CalS M_L_response := ⟨(wr_22 _ (List.mem_of_getElem? (i := 0) rfl)), (wr_1 _ (List.mem_of_getElem? (i := 9) rfl)), Or.inr ⟨by decide, (wr_22 _ (List.mem_of_getElem? (i := 1) rfl))⟩, rfl, by decide, rfl, by decide +kernel⟩
theorem cv_X7_response : CalV M_X7_response := ⟨(wr_23 _ (List.mem_of_getElem? (i := 8) rfl)), (wr_23 _ (List.mem_of_getElem? (i := 9) rfl)), (wr_1 _ (List.mem_of_getElem? (i := 5) rfl)), (wr_23 _ (List.mem_of_getElem? (i := 10) rfl)), rfl, rfl, by decide, rfl, by decide +kernel, by decide⟩
theorem cv_X6_load : CalV M_X6_load := ⟨(wr_24 _ (List.mem_of_getElem? (i := 0) rfl)), (wr_24 _ (List.mem_of_getElem? (i := 1) rfl)), (wr_1 _ (List.mem_of_getElem? (i := 2) rfl)), (wr_24 _ (List.mem_of_getElem? (i := 2) rfl)), rfl, rfl, by decide, rfl, by decide +kernel, by decide⟩
theorem cv_X7_load : CalV M_X7_load := ⟨(wr_24 _ (List.mem_of_getElem? (i := 4) rfl)), (wr_24 _ (List.mem_of_getElem? (i := 5) rfl)), (wr_1 _ (List.mem_of_getElem? (i := 5) rfl)), (wr_24 _ (List.mem_of_getElem? (i := 6) rfl)), rfl, rfl, by decide, rfl, by decide +kernel, by decide⟩
theorem cv_X6_look : CalV M_X6_look := ⟨(wr_24 _ (List.mem_of_getElem? (i := 8) rfl)), (wr_24 _ (List.mem_of_getElem? (i := 9) rfl)), (wr_1 _ (List.mem_of_getElem? (i := 2) rfl)), (wr_24 _ (List.mem_of_getElem? (i := 10) rfl)), rfl, rfl, by decide, rfl, by decide +kernel, by decide⟩
theorem cv_X7_look : CalV M_X7_look := ⟨(wr_24 _ (List.mem_of_getElem? (i := 13) rfl)), (wr_24 _ (List.mem_of_getElem? (i := 14) rfl)), (wr_1 _ (List.mem_of_getElem? (i := 5) rfl)), (wr_24 _ (List.mem_of_getElem? (i := 15) rfl)), rfl, rfl, by decide, rfl, by decide +kernel, by decide⟩
theorem cl_X0_greatestSection_22 : CallV M_X0_greatestSection 22 M_X0_sectionFrom := ⟨ml_0_22, cv_X0_sectionFrom, by decide⟩
theorem cl_X1_resume_37 : CallV M_X1_resume 37 M_X1_passStep := ⟨ml_1_37, cv_X1_passStep, by decide⟩
theorem cl_X5_init_11 : CallI M_X5_init 11 M_X0_init := ⟨Or.inr ml_5_11, ci_X0_init, by decide⟩
theorem cl_X5_init_20 : CallI M_X5_init 20 M_X1_init := ⟨Or.inr ml_5_20, ci_X1_init, by decide⟩
theorem cl_X5_init_27 : CallI M_X5_init 27 M_X4_init := ⟨Or.inr ml_5_27, ci_X4_init, by decide⟩
theorem cl_X6_init_23 : CallI M_X6_init 23 M_X2_init := ⟨Or.inr ml_6_23, ci_X2_init, by decide⟩
theorem cl_X6_task_32 : CallS M_X6_task 32 M_X6_within := ⟨ml_6_32, cs_X6_within, by decide⟩
theorem cl_X6_task_55 : CallI M_X6_task 55 M_X5_init := ⟨Or.inl ml_6_55, ci_X5_init, by decide⟩
theorem cl_X6_strict_58 : CallV M_X6_strict 58 M_X6_isTask := ⟨ml_6_58, cv_X6_isTask, by decide⟩
theorem cl_X6_mutex_32 : CallS M_X6_mutex 32 M_X6_within := ⟨ml_6_32, cs_X6_within, by decide⟩
theorem cl_X6_mutex_72 : CallI M_X6_mutex 72 M_X3_init := ⟨Or.inl ml_6_72, ci_X3_init, by decide⟩
theorem cl_X6_step_58 : CallV M_X6_step 58 M_X6_isTask := ⟨ml_6_58, cv_X6_isTask, by decide⟩
theorem cl_X6_step_75 : CallV M_X6_step 75 M_X6_isStep := ⟨ml_6_75, cv_X6_isStep, by decide⟩
theorem cl_X6_step_92 : CallV M_X6_step 92 M_X0_append := ⟨ml_6_92, cv_X0_append, by decide⟩
theorem cl_X6_isTask_32 : CallS M_X6_isTask 32 M_X6_within := ⟨ml_6_32, cs_X6_within, by decide⟩
theorem cl_X6_isMutex_32 : CallS M_X6_isMutex 32 M_X6_within := ⟨ml_6_32, cs_X6_within, by decide⟩
theorem cl_X6_isStep_32 : CallS M_X6_isStep 32 M_X6_within := ⟨ml_6_32, cs_X6_within, by decide⟩
theorem cl_X6_isStep_98 : CallV M_X6_isStep 98 M_X6_isMutex := ⟨ml_6_98, cv_X6_isMutex, by decide⟩
theorem cl_X6_release_58 : CallV M_X6_release 58 M_X6_isTask := ⟨ml_6_58, cv_X6_isTask, by decide⟩
theorem cl_X6_release_104 : CallV M_X6_release 104 M_X6_beginJob := ⟨ml_6_104, cv_X6_beginJob, by decide⟩
theorem cl_X6_tick_32 : CallS M_X6_tick 32 M_X6_within := ⟨ml_6_32, cs_X6_within, by decide⟩
theorem cl_X6_tick_112 : CallV M_X6_tick 112 M_X6_noteMisses := ⟨ml_6_112, cv_X6_noteMisses, by decide⟩
theorem cl_X6_tick_115 : CallV M_X6_tick 115 M_X6_releasePeriodic := ⟨ml_6_115, cv_X6_releasePeriodic, by decide⟩
theorem cl_X6_tick_118 : CallV M_X6_tick 118 M_X6_settle := ⟨ml_6_118, cv_X6_settle, by decide⟩
theorem cl_X6_tick_122 : CallV M_X6_tick 122 M_X6_workOneUnit := ⟨ml_6_122, cv_X6_workOneUnit, by decide⟩
theorem cl_X6_noteMisses_149 : CallV M_X6_noteMisses 149 M_X6_note := ⟨ml_6_149, cv_X6_note, by decide⟩
theorem cl_X6_noteMisses_156 : CallV M_X6_noteMisses 156 M_X6_endJob := ⟨ml_6_156, cv_X6_endJob, by decide⟩
theorem cl_X6_releasePeriodic_160 : CallV M_X6_releasePeriodic 160 M_X5_isPeriodicAt := ⟨ml_6_160, cv_X5_isPeriodicAt, by decide⟩
theorem cl_X6_releasePeriodic_104 : CallV M_X6_releasePeriodic 104 M_X6_beginJob := ⟨ml_6_104, cv_X6_beginJob, by decide⟩
theorem cl_X6_beginJob_149 : CallV M_X6_beginJob 149 M_X6_note := ⟨ml_6_149, cv_X6_note, by decide⟩
theorem cl_X6_beginJob_169 : CallV M_X6_beginJob 169 M_X6_nextChange := ⟨ml_6_169, cv_X6_nextChange, by decide⟩
theorem cl_X6_beginJob_173 : CallV M_X6_beginJob 173 M_X1_begin := ⟨ml_6_173, cv_X1_begin, by decide⟩
theorem cl_X6_settle_176 : CallV M_X6_settle 176 M_X6_mostUrgentReady := ⟨ml_6_176, cv_X6_mostUrgentReady, by decide⟩
theorem cl_X6_settle_179 : CallV M_X6_settle 179 M_X5_isAtWork := ⟨ml_6_179, cv_X5_isAtWork, by decide⟩
theorem cl_X6_settle_183 : CallV M_X6_settle 183 M_X6_goOn := ⟨ml_6_183, cv_X6_goOn, by decide⟩
theorem cl_X6_workOneUnit_149 : CallV M_X6_workOneUnit 149 M_X6_note := ⟨ml_6_149, cv_X6_note, by decide⟩
theorem cl_X6_workOneUnit_207 : CallV M_X6_workOneUnit 207 M_X1_passStep := ⟨ml_6_207, cv_X1_passStep, by decide⟩
theorem cl_X6_workOneUnit_183 : CallV M_X6_workOneUnit 183 M_X6_goOn := ⟨ml_6_183, cv_X6_goOn, by decide⟩
theorem cl_X6_goOn_213 : CallV M_X6_goOn 213 M_X6_stepFails := ⟨ml_6_213, cv_X6_stepFails, by decide⟩
theorem cl_X6_goOn_156 : CallV M_X6_goOn 156 M_X6_endJob := ⟨ml_6_156, cv_X6_endJob, by decide⟩
theorem cl_X6_goOn_217 : CallV M_X6_goOn 217 M_X6_giveAway := ⟨ml_6_217, cv_X6_giveAway, by decide⟩
theorem cl_X6_goOn_169 : CallV M_X6_goOn 169 M_X6_nextChange := ⟨ml_6_169, cv_X6_nextChange, by decide⟩
theorem cl_X6_goOn_224 : CallV M_X6_goOn 224 M_X1_blockAt := ⟨ml_6_224, cv_X1_blockAt, by decide⟩
theorem cl_X6_goOn_149 : CallV M_X6_goOn 149 M_X6_note := ⟨ml_6_149, cv_X6_note, by decide⟩
theorem cl_X6_goOn_207 : CallV M_X6_goOn 207 M_X1_passStep := ⟨ml_6_207, cv_X1_passStep, by decide⟩
theorem cl_X6_goOn_231 : CallV M_X6_goOn 231 M_X4_addDone := ⟨ml_6_231, cv_X4_addDone, by decide⟩
theorem cl_X6_endJob_149 : CallV M_X6_endJob 149 M_X6_note := ⟨ml_6_149, cv_X6_note, by decide⟩
theorem cl_X6_endJob_244 : CallV M_X6_endJob 244 M_X1_end := ⟨ml_6_244, cv_X1_end, by decide⟩
theorem cl_X6_endJob_217 : CallV M_X6_endJob 217 M_X6_giveAway := ⟨ml_6_217, cv_X6_giveAway, by decide⟩
theorem cl_X6_giveAway_247 : CallV M_X6_giveAway 247 M_X6_rankTasks := ⟨ml_6_247, cv_X6_rankTasks, by decide⟩
theorem cl_X6_giveAway_250 : CallV M_X6_giveAway 250 M_X6_heirOf := ⟨ml_6_250, cv_X6_heirOf, by decide⟩
theorem cl_X6_giveAway_169 : CallV M_X6_giveAway 169 M_X6_nextChange := ⟨ml_6_169, cv_X6_nextChange, by decide⟩
theorem cl_X6_giveAway_254 : CallV M_X6_giveAway 254 M_X1_resume := ⟨ml_6_254, cv_X1_resume, by decide⟩
theorem cl_X6_giveAway_149 : CallV M_X6_giveAway 149 M_X6_note := ⟨ml_6_149, cv_X6_note, by decide⟩
theorem cl_X6_heirOf_261 : CallV M_X6_heirOf 261 M_X1_inheritsAhead := ⟨ml_6_261, cv_X1_inheritsAhead, by decide⟩
theorem cl_X6_note_271 : CallV M_X6_note 271 M_X2_add := ⟨ml_6_271, cv_X2_add, by decide⟩
theorem cl_X6_mostUrgentReady_247 : CallV M_X6_mostUrgentReady 247 M_X6_rankTasks := ⟨ml_6_247, cv_X6_rankTasks, by decide⟩
theorem cl_X6_mostUrgentReady_274 : CallV M_X6_mostUrgentReady 274 M_X6_goesAhead := ⟨ml_6_274, cv_X6_goesAhead, by decide⟩
theorem cl_X6_rankTasks_284 : CallV M_X6_rankTasks 284 M_X6_liftToCeilings := ⟨ml_6_284, cv_X6_liftToCeilings, by decide⟩
theorem cl_X6_rankTasks_287 : CallV M_X6_rankTasks 287 M_X6_lendOnce := ⟨ml_6_287, cv_X6_lendOnce, by decide⟩
theorem cl_X6_urgencyOf_247 : CallV M_X6_urgencyOf 247 M_X6_rankTasks := ⟨ml_6_247, cv_X6_rankTasks, by decide⟩
theorem cl_X6_seen_58 : CallV M_X6_seen 58 M_X6_isTask := ⟨ml_6_58, cv_X6_isTask, by decide⟩
theorem cl_X6_seen_290 : CallV M_X6_seen 290 M_X6_urgencyOf := ⟨ml_6_290, cv_X6_urgencyOf, by decide⟩
theorem cl_X6_held_98 : CallV M_X6_held 98 M_X6_isMutex := ⟨ml_6_98, cv_X6_isMutex, by decide⟩
theorem cl_X6_held_301 : CallV M_X6_held 301 M_X6_countBlockedAt := ⟨ml_6_301, cv_X6_countBlockedAt, by decide⟩
theorem cl_X6_held_305 : CallV M_X6_held 305 M_X6_ceilOf := ⟨ml_6_305, cv_X6_ceilOf, by decide⟩
theorem cl_X6_event_309 : CallV M_X6_event 309 M_X2_answer := ⟨ml_6_309, cv_X2_answer, by decide⟩
theorem cl_X6_response_58 : CallV M_X6_response 58 M_X6_isTask := ⟨ml_6_58, cv_X6_isTask, by decide⟩
theorem cl_X6_response_318 : CallV M_X6_response 318 M_X0_cost := ⟨ml_6_318, cv_X0_cost, by decide⟩
theorem cl_X6_response_321 : CallV M_X6_response 321 M_X6_blockingOf := ⟨ml_6_321, cv_X6_blockingOf, by decide⟩
theorem cl_X6_response_324 : CallV M_X6_response 324 M_X6_interferenceWith := ⟨ml_6_324, cv_X6_interferenceWith, by decide⟩
theorem cl_X6_load_318 : CallV M_X6_load 318 M_X0_cost := ⟨ml_6_318, cv_X0_cost, by decide⟩
theorem cl_X6_blockingOf_305 : CallV M_X6_blockingOf 305 M_X6_ceilOf := ⟨ml_6_305, cv_X6_ceilOf, by decide⟩
theorem cl_X6_blockingOf_328 : CallV M_X6_blockingOf 328 M_X6_greatestSectionBelow := ⟨ml_6_328, cv_X6_greatestSectionBelow, by decide⟩
theorem cl_X6_greatestSectionBelow_336 : CallV M_X6_greatestSectionBelow 336 M_X0_greatestSection := ⟨ml_6_336, cv_X0_greatestSection, by decide⟩
theorem cl_X6_interferenceWith_318 : CallV M_X6_interferenceWith 318 M_X0_cost := ⟨ml_6_318, cv_X0_cost, by decide⟩
theorem cl_X6_ceilOf_339 : CallV M_X6_ceilOf 339 M_X0_hasLockOf := ⟨ml_6_339, cv_X0_hasLockOf, by decide⟩
theorem cl_X7_task_115 : CallS M_X7_task 115 M_X7_in := ⟨ml_7_115, cs_X7_in, by decide⟩
theorem cl_X7_strict_122 : CallV M_X7_strict 122 M_X7_isTask := ⟨ml_7_122, cv_X7_isTask, by decide⟩
theorem cl_X7_mutex_115 : CallS M_X7_mutex 115 M_X7_in := ⟨ml_7_115, cs_X7_in, by decide⟩
theorem cl_X7_step_122 : CallV M_X7_step 122 M_X7_isTask := ⟨ml_7_122, cv_X7_isTask, by decide⟩
theorem cl_X7_step_115 : CallS M_X7_step 115 M_X7_in := ⟨ml_7_115, cs_X7_in, by decide⟩
theorem cl_X7_weigh_129 : CallV M_X7_weigh 129 M_X7_better := ⟨ml_7_129, cv_X7_better, by decide⟩
theorem cl_X7_first_133 : CallV M_X7_first 133 M_X7_weigh := ⟨ml_7_133, cv_X7_weigh, by decide⟩
theorem cl_X7_first_129 : CallV M_X7_first 129 M_X7_better := ⟨ml_7_129, cv_X7_better, by decide⟩
theorem cl_X7_begin_145 : CallV M_X7_begin 145 M_X7_note := ⟨ml_7_145, cv_X7_note, by decide⟩
theorem cl_X7_begin_149 : CallV M_X7_begin 149 M_X7_ready := ⟨ml_7_149, cv_X7_ready, by decide⟩
theorem cl_X7_give_133 : CallV M_X7_give 133 M_X7_weigh := ⟨ml_7_133, cv_X7_weigh, by decide⟩
theorem cl_X7_give_129 : CallV M_X7_give 129 M_X7_better := ⟨ml_7_129, cv_X7_better, by decide⟩
theorem cl_X7_give_149 : CallV M_X7_give 149 M_X7_ready := ⟨ml_7_149, cv_X7_ready, by decide⟩
theorem cl_X7_give_145 : CallV M_X7_give 145 M_X7_note := ⟨ml_7_145, cv_X7_note, by decide⟩
theorem cl_X7_over_145 : CallV M_X7_over 145 M_X7_note := ⟨ml_7_145, cv_X7_note, by decide⟩
theorem cl_X7_over_153 : CallV M_X7_over 153 M_X7_give := ⟨ml_7_153, cv_X7_give, by decide⟩
theorem cl_X7_goOn_156 : CallV M_X7_goOn 156 M_X7_atWork := ⟨ml_7_156, cv_X7_atWork, by decide⟩
theorem cl_X7_goOn_159 : CallV M_X7_goOn 159 M_X7_over := ⟨ml_7_159, cv_X7_over, by decide⟩
theorem cl_X7_goOn_163 : CallV M_X7_goOn 163 M_X7_lock := ⟨ml_7_163, cv_X7_lock, by decide⟩
theorem cl_X7_goOn_153 : CallV M_X7_goOn 153 M_X7_give := ⟨ml_7_153, cv_X7_give, by decide⟩
theorem cl_X7_lock_159 : CallV M_X7_lock 159 M_X7_over := ⟨ml_7_159, cv_X7_over, by decide⟩
theorem cl_X7_lock_145 : CallV M_X7_lock 145 M_X7_note := ⟨ml_7_145, cv_X7_note, by decide⟩
theorem cl_X7_release_122 : CallV M_X7_release 122 M_X7_isTask := ⟨ml_7_122, cv_X7_isTask, by decide⟩
theorem cl_X7_release_167 : CallV M_X7_release 167 M_X7_begin := ⟨ml_7_167, cv_X7_begin, by decide⟩
theorem cl_X7_arrivals_145 : CallV M_X7_arrivals 145 M_X7_note := ⟨ml_7_145, cv_X7_note, by decide⟩
theorem cl_X7_arrivals_159 : CallV M_X7_arrivals 159 M_X7_over := ⟨ml_7_159, cv_X7_over, by decide⟩
theorem cl_X7_arrivals_167 : CallV M_X7_arrivals 167 M_X7_begin := ⟨ml_7_167, cv_X7_begin, by decide⟩
theorem cl_X7_work_145 : CallV M_X7_work 145 M_X7_note := ⟨ml_7_145, cv_X7_note, by decide⟩
theorem cl_X7_work_170 : CallV M_X7_work 170 M_X7_goOn := ⟨ml_7_170, cv_X7_goOn, by decide⟩
theorem cl_X7_pass_173 : CallV M_X7_pass 173 M_X7_arrivals := ⟨ml_7_173, cv_X7_arrivals, by decide⟩
theorem cl_X7_pass_176 : CallV M_X7_pass 176 M_X7_first := ⟨ml_7_176, cv_X7_first, by decide⟩
theorem cl_X7_pass_156 : CallV M_X7_pass 156 M_X7_atWork := ⟨ml_7_156, cv_X7_atWork, by decide⟩
theorem cl_X7_pass_170 : CallV M_X7_pass 170 M_X7_goOn := ⟨ml_7_170, cv_X7_goOn, by decide⟩
theorem cl_X7_pass_180 : CallV M_X7_pass 180 M_X7_work := ⟨ml_7_180, cv_X7_work, by decide⟩
theorem cl_X7_tick_115 : CallS M_X7_tick 115 M_X7_in := ⟨ml_7_115, cs_X7_in, by decide⟩
theorem cl_X7_tick_183 : CallV M_X7_tick 183 M_X7_pass := ⟨ml_7_183, cv_X7_pass, by decide⟩
theorem cl_X7_seen_122 : CallV M_X7_seen 122 M_X7_isTask := ⟨ml_7_122, cv_X7_isTask, by decide⟩
theorem cl_X7_seen_133 : CallV M_X7_seen 133 M_X7_weigh := ⟨ml_7_133, cv_X7_weigh, by decide⟩
theorem cl_X7_held_187 : CallV M_X7_held 187 M_X7_ceil := ⟨ml_7_187, cv_X7_ceil, by decide⟩
theorem cl_X7_blocking_187 : CallV M_X7_blocking 187 M_X7_ceil := ⟨ml_7_187, cv_X7_ceil, by decide⟩
theorem cl_X7_blocking_191 : CallV M_X7_blocking 191 M_X7_section := ⟨ml_7_191, cv_X7_section, by decide⟩
theorem cl_X7_response_122 : CallV M_X7_response 122 M_X7_isTask := ⟨ml_7_122, cv_X7_isTask, by decide⟩
theorem cl_X7_response_195 : CallV M_X7_response 195 M_X7_cost := ⟨ml_7_195, cv_X7_cost, by decide⟩
theorem cl_X7_response_198 : CallV M_X7_response 198 M_X7_blocking := ⟨ml_7_198, cv_X7_blocking, by decide⟩
theorem cl_X7_load_195 : CallV M_X7_load 195 M_X7_cost := ⟨ml_7_195, cv_X7_cost, by decide⟩
theorem cl_L_task_7 : CallV M_L_task 7 M_X6_task := ⟨ml_8_7, cv_X6_task, by decide⟩
theorem cl_L_mutex_17 : CallV M_L_mutex 17 M_X6_mutex := ⟨ml_8_17, cv_X6_mutex, by decide⟩
theorem cl_L_step_21 : CallV M_L_step 21 M_X6_step := ⟨ml_8_21, cv_X6_step, by decide⟩
theorem cl_L_start_25 : CallV M_L_start 25 M_X6_start := ⟨ml_8_25, cv_X6_start, by decide⟩
theorem cl_L_tick_28 : CallV M_L_tick 28 M_X6_tick := ⟨ml_8_28, cv_X6_tick, by decide⟩
theorem cl_L_response_32 : CallV M_L_response 32 M_X6_response := ⟨ml_8_32, cv_X6_response, by decide⟩
theorem cl_L_law_35 : CallS M_L_law 35 M_L_cell := ⟨ml_8_35, cs_L_cell, by decide⟩
theorem cl_L_law_41 : CallI M_L_law 41 M_X6_init := ⟨Or.inl ml_8_41, ci_X6_init, by decide⟩
theorem cl_L_law_46 : CallI M_L_law 46 M_X7_init := ⟨Or.inl ml_8_46, ci_X7_init, by decide⟩
theorem cl_L_law_47 : CallS M_L_law 47 M_L_task := ⟨ml_8_47, cs_L_task, by decide⟩
theorem cl_L_law_50 : CallV M_L_law 50 M_X7_task := ⟨ml_8_50, cv_X7_task, by decide⟩
theorem cl_L_law_51 : CallV M_L_law 51 M_X7_thrown := ⟨ml_8_51, cv_X7_thrown, by decide⟩
theorem cl_L_law_55 : CallV M_L_law 55 M_X6_strict := ⟨ml_8_55, cv_X6_strict, by decide⟩
theorem cl_L_law_59 : CallV M_L_law 59 M_X7_strict := ⟨ml_8_59, cv_X7_strict, by decide⟩
theorem cl_L_law_60 : CallS M_L_law 60 M_L_mutex := ⟨ml_8_60, cs_L_mutex, by decide⟩
theorem cl_L_law_63 : CallV M_L_law 63 M_X7_mutex := ⟨ml_8_63, cv_X7_mutex, by decide⟩
theorem cl_L_law_64 : CallS M_L_law 64 M_L_step := ⟨ml_8_64, cs_L_step, by decide⟩
theorem cl_L_law_67 : CallV M_L_law 67 M_X7_step := ⟨ml_8_67, cv_X7_step, by decide⟩
theorem cl_L_law_68 : CallS M_L_law 68 M_L_start := ⟨ml_8_68, cs_L_start, by decide⟩
theorem cl_L_law_71 : CallV M_L_law 71 M_X7_start := ⟨ml_8_71, cv_X7_start, by decide⟩
theorem cl_L_law_72 : CallV M_L_law 72 M_X6_release := ⟨ml_8_72, cv_X6_release, by decide⟩
theorem cl_L_law_76 : CallV M_L_law 76 M_X7_release := ⟨ml_8_76, cv_X7_release, by decide⟩
theorem cl_L_law_77 : CallS M_L_law 77 M_L_tick := ⟨ml_8_77, cs_L_tick, by decide⟩
theorem cl_L_law_80 : CallV M_L_law 80 M_X7_tick := ⟨ml_8_80, cv_X7_tick, by decide⟩
theorem cl_L_law_81 : CallV M_L_law 81 M_X6_seen := ⟨ml_8_81, cv_X6_seen, by decide⟩
theorem cl_L_law_84 : CallV M_L_law 84 M_X7_seen := ⟨ml_8_84, cv_X7_seen, by decide⟩
theorem cl_L_law_85 : CallV M_L_law 85 M_X6_held := ⟨ml_8_85, cv_X6_held, by decide⟩
theorem cl_L_law_88 : CallV M_L_law 88 M_X7_held := ⟨ml_8_88, cv_X7_held, by decide⟩
theorem cl_L_law_89 : CallV M_L_law 89 M_X6_event := ⟨ml_8_89, cv_X6_event, by decide⟩
theorem cl_L_law_92 : CallV M_L_law 92 M_X7_event := ⟨ml_8_92, cv_X7_event, by decide⟩
theorem cl_L_law_93 : CallS M_L_law 93 M_L_response := ⟨ml_8_93, cs_L_response, by decide⟩
theorem cl_L_law_95 : CallV M_L_law 95 M_X7_response := ⟨ml_8_95, cv_X7_response, by decide⟩
theorem cl_L_law_96 : CallV M_L_law 96 M_X6_load := ⟨ml_8_96, cv_X6_load, by decide⟩
theorem cl_L_law_100 : CallV M_L_law 100 M_X7_load := ⟨ml_8_100, cv_X7_load, by decide⟩
theorem cl_L_law_101 : CallV M_L_law 101 M_X6_look := ⟨ml_8_101, cv_X6_look, by decide⟩
theorem cl_L_law_104 : CallV M_L_law 104 M_X7_look := ⟨ml_8_104, cv_X7_look, by decide⟩
theorem no_5_9 : NewOk 5 9 1 := ⟨(wr_4 _ (List.mem_of_getElem? (i := 22) rfl)), (wr_4 _ (List.mem_of_getElem? (i := 23) rfl)), (wr_5 _ (List.mem_of_getElem? (i := 0) rfl)), by decide, by decide⟩
theorem no_5_18 : NewOk 5 18 2 := ⟨(wr_5 _ (List.mem_of_getElem? (i := 2) rfl)), (wr_5 _ (List.mem_of_getElem? (i := 3) rfl)), (wr_5 _ (List.mem_of_getElem? (i := 4) rfl)), by decide, by decide⟩
theorem no_5_25 : NewOk 5 25 5 := ⟨(wr_5 _ (List.mem_of_getElem? (i := 6) rfl)), (wr_5 _ (List.mem_of_getElem? (i := 7) rfl)), (wr_5 _ (List.mem_of_getElem? (i := 8) rfl)), by decide, by decide⟩
theorem ao_6_9 : AnewOk 6 9 15 := Or.inl ⟨rfl, (wr_1 _ (List.mem_of_getElem? (i := 17) rfl))⟩
theorem ao_6_15 : AnewOk 6 15 16 := Or.inr ⟨rfl, (wr_1 _ (List.mem_of_getElem? (i := 19) rfl))⟩
theorem no_6_21 : NewOk 6 21 3 := ⟨(wr_1 _ (List.mem_of_getElem? (i := 21) rfl)), (wr_1 _ (List.mem_of_getElem? (i := 22) rfl)), (wr_1 _ (List.mem_of_getElem? (i := 23) rfl)), by decide, by decide⟩
theorem no_6_9 : NewOk 6 9 6 := ⟨(wr_1 _ (List.mem_of_getElem? (i := 17) rfl)), (wr_4 _ (List.mem_of_getElem? (i := 13) rfl)), (wr_4 _ (List.mem_of_getElem? (i := 14) rfl)), by decide, by decide⟩
theorem no_6_15 : NewOk 6 15 4 := ⟨(wr_1 _ (List.mem_of_getElem? (i := 19) rfl)), (wr_7 _ (List.mem_of_getElem? (i := 19) rfl)), (wr_7 _ (List.mem_of_getElem? (i := 20) rfl)), by decide, by decide⟩
theorem no_8_8 : NewOk 8 8 7 := ⟨(wr_1 _ (List.mem_of_getElem? (i := 0) rfl)), (wr_1 _ (List.mem_of_getElem? (i := 1) rfl)), (wr_1 _ (List.mem_of_getElem? (i := 2) rfl)), by decide, by decide⟩
theorem no_8_44 : NewOk 8 44 8 := ⟨(wr_1 _ (List.mem_of_getElem? (i := 3) rfl)), (wr_1 _ (List.mem_of_getElem? (i := 4) rfl)), (wr_1 _ (List.mem_of_getElem? (i := 5) rfl)), by decide, by decide⟩
theorem th_X6_task_71 : ThrowAt M_X6_task 71 1 := ⟨rfl, rfl, by decide, by decide, Or.inl ⟨rfl, dX6_task_71⟩, dX6_task_74, 38, "a number of the task is out of its range", 2, by simp [thrL], Or.inl ⟨rfl, dX6_task_75⟩, Or.inl ⟨rfl, dX6_task_77⟩, dX6_task_80⟩
theorem th_X6_task_97 : ThrowAt M_X6_task 97 2 := ⟨rfl, rfl, by decide, by decide, Or.inr ⟨rfl, dX6_task_97⟩, dX6_task_100, 52, "no more tasks can be given", 2, by simp [thrL], Or.inl ⟨rfl, dX6_task_101⟩, Or.inr ⟨rfl, dX6_task_103⟩, dX6_task_106⟩
theorem th_X6_mutex_34 : ThrowAt M_X6_mutex 34 1 := ⟨rfl, rfl, by decide, by decide, Or.inl ⟨rfl, dX6_mutex_34⟩, dX6_mutex_37, 65, "the protocol or its ceiling is out of its range", 2, by simp [thrL], Or.inl ⟨rfl, dX6_mutex_38⟩, Or.inl ⟨rfl, dX6_mutex_40⟩, dX6_mutex_43⟩
theorem th_X6_mutex_59 : ThrowAt M_X6_mutex 59 2 := ⟨rfl, rfl, by decide, by decide, Or.inr ⟨rfl, dX6_mutex_59⟩, dX6_mutex_62, 70, "no more mutexes can be given", 2, by simp [thrL], Or.inl ⟨rfl, dX6_mutex_63⟩, Or.inr ⟨rfl, dX6_mutex_65⟩, dX6_mutex_68⟩
theorem th_X6_step_17 : ThrowAt M_X6_step 17 1 := ⟨rfl, rfl, by decide, by decide, Or.inl ⟨rfl, dX6_step_17⟩, dX6_step_20, 79, "no such task, kind or mutex, or units out of their range", 2, by simp [thrL], Or.inl ⟨rfl, dX6_step_21⟩, Or.inl ⟨rfl, dX6_step_23⟩, dX6_step_26⟩
theorem th_X6_step_55 : ThrowAt M_X6_step 55 2 := ⟨rfl, rfl, by decide, by decide, Or.inr ⟨rfl, dX6_step_55⟩, dX6_step_58, 90, "no more steps can be given", 2, by simp [thrL], Or.inl ⟨rfl, dX6_step_59⟩, Or.inr ⟨rfl, dX6_step_61⟩, dX6_step_64⟩
theorem th_X6_start_14 : ThrowAt M_X6_start 14 2 := ⟨rfl, rfl, by decide, by decide, Or.inr ⟨rfl, dX6_start_14⟩, dX6_start_17, 96, "started before, or without a task", 2, by simp [thrL], Or.inl ⟨rfl, dX6_start_18⟩, Or.inr ⟨rfl, dX6_start_20⟩, dX6_start_23⟩
theorem th_X6_tick_11 : ThrowAt M_X6_tick 11 1 := ⟨rfl, rfl, by decide, by decide, Or.inl ⟨rfl, dX6_tick_11⟩, dX6_tick_14, 108, "so many ticks can not be asked for", 2, by simp [thrL], Or.inl ⟨rfl, dX6_tick_15⟩, Or.inl ⟨rfl, dX6_tick_17⟩, dX6_tick_20⟩
theorem th_X6_tick_28 : ThrowAt M_X6_tick 28 2 := ⟨rfl, rfl, by decide, by decide, Or.inr ⟨rfl, dX6_tick_28⟩, dX6_tick_31, 110, "not started yet", 2, by simp [thrL], Or.inl ⟨rfl, dX6_tick_32⟩, Or.inr ⟨rfl, dX6_tick_34⟩, dX6_tick_37⟩
theorem th_X6_response_8 : ThrowAt M_X6_response 8 1 := ⟨rfl, rfl, by decide, by decide, Or.inl ⟨rfl, dX6_response_8⟩, dX6_response_11, 316, "no such task", 3, by simp [thrL], Or.inr ⟨rfl, dX6_response_12⟩, Or.inl ⟨rfl, dX6_response_15⟩, dX6_response_18⟩
